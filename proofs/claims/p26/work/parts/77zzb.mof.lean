/-! the class: offsets by a rule, by a zone -/
def kC : List (Nat × Nat) := [(5, 5), (5, 6), (5, 7), (5, 8), (5, 9), (5, 10)]
def kq_Q (D : va_G) (cA : Nat → ClassId) (ro : Nat → Option Nat) (sz : Nat) (H0 : Heap) (ru rF rT : Nat) (rr : rU) (v : Int) : Array Value → State → Outcome → State → Prop := fun _ st oc t => ∃ r : Int32, oc = .returned (some (.int r)) ∧ r.toInt = v ∧ zh_ok D cA RTg ro sz H0 t.heap [] ∧ zc_kept D RTg ro kC st.heap t.heap ∧ jRo D ro t.heap ru rF rT rr ∧ ∀ p9 : Nat, p9 ∉ [ru] → t.heap[p9]? = st.heap[p9]?
def jZR (D : va_G) (cA : Nat → ClassId) (ro : Nat → Option Nat) (H : Heap) (zq zA zB : Nat) (ze : zE) (lp : Nat) (L : List Int) (ru rF rT : Nat) (rr : rU) : Prop := jZo D cA ro H zq zA zB ze ∧ zh_f D H zq 9 1 = .ref lp ∧ ro lp = some 4 ∧ jLp D cA ro H lp L ∧ zh_f D H zq 9 5 = .ref ru ∧ jRo D ro H ru rF rT rr
def zrF : List (Nat × Nat) := [(9, 0), (9, 1), (9, 2), (9, 3), (9, 4), (9, 5), (14, 0), (15, 0), (4, 0), (4, 1), (13, 0)]
theorem jZR.upd {D : va_G} {cA : Nat → ClassId} {ro : Nat → Option Nat} {H H' : Heap} {ms : List (Nat × Nat)} {zq zA zB : Nat} {ze : zE} {lp : Nat} {L : List Int} {ru rF rT : Nat} {rr : rU} (h : zc_kept D RTg ro ms H H') (hm : ∀ y ∈ zrF, y ∉ ms) (jo : jRo D ro H' ru rF rT rr) (j : jZR D cA ro H zq zA zB ze lp L ru rF rT rr) : jZR D cA ro H' zq zA zB ze lp L ru rF rT rr := by
  obtain ⟨j1, j2, j3, j4, j5, -⟩ := j
  exact ⟨j1.kept h (fun y hy => hm y (by revert y; decide)), (h.1 zq 9 1 9 0 fsX10 j1.1 rfl (by decide) (hm _ (by decide))).trans j2, j3, j4.kept j3 h (hm _ (by decide)) (hm _ (by decide)) (hm _ (by decide)), (h.1 zq 9 5 9 0 fsX10 j1.1 rfl (by decide) (hm _ (by decide))).trans j5, jo⟩
theorem plF_bd {ys lp : Int} {d : rD} (h : dW d) : -10 ≤ plF ys lp d ∧ plF ys lp d ≤ 500 := by
  obtain ⟨hok, a, b⟩ := h
  have hb : ∀ n : Nat, 0 ≤ bm n ∧ bm n ≤ 365 := fun n => by unfold bm; split <;> omega
  have b1 := hb (d.2.1 - 1).toNat
  have b2 : 0 ≤ bfF lp d.2.1 ∧ bfF lp d.2.1 ≤ 366 := by unfold bfF; split <;> omega
  unfold rdOK at hok
  unfold plF mdF
  generalize bfF lp d.2.1 = B at b2 ⊢
  split
  · split <;> omega
  · split
    · split <;> omega
    · split
      · split <;> omega
      · omega
def kz_Q (D : va_G) (cA : Nat → ClassId) (ro : Nat → Option Nat) (sz : Nat) (H0 : Heap) (zq zA zB : Nat) (ze : zE) (lp : Nat) (L : List Int) (ru rF rT : Nat) (rr : rU) (v : Int) : Array Value → State → Outcome → State → Prop := fun _ st oc t => ∃ r : Int32, oc = .returned (some (.int r)) ∧ r.toInt = v ∧ zh_ok D cA RTg ro sz H0 t.heap [] ∧ zc_kept D RTg ro kC st.heap t.heap ∧ jZR D cA ro t.heap zq zA zB ze lp L ru rF rT rr ∧ ∀ p9 : Nat, p9 ∉ [ru] → t.heap[p9]? = st.heap[p9]?
set_option maxRecDepth 100000 in
set_option maxHeartbeats 4000000 in
theorem hX7_minuteOf (l : Launch) (D : va_G) (cA : Nat → ClassId) (ro : Nat → Option Nat) (sz : Nat) (H0 : Heap) (rd : Nat) (y0 : Int64) (l0 : Int32) (dd : rD) (hrd : ro rd = some 6) (hdw : dW dd) (hy1 : -1000000000 ≤ y0.toInt) (hy2 : y0.toInt ≤ 1000000000) (hl1 : 0 ≤ l0.toInt) (hl2 : l0.toInt ≤ 1) : Met l yX7_minuteOf (gW yX7_minuteOf cX7_minuteOf 8 (some .long)) { frames := 0, cells := 0, slots := 0, locals := 0 } (zs_PB D cA ro sz H0 (fun H => jRd D H rd dd) [.ref rd, .long y0, .int l0]) (fun _ st oc t => t.heap = st.heap ∧ ∃ r : Int64, oc = .returned (some (.long r)) ∧ r.toInt = mmF y0.toInt l0.toInt dd) 0 0 (zy_fr sz) := by
  refine zy_ofW (cc := cX7_minuteOf) (maxL := 8) (ret := (some .long)) (by decide +kernel) rfl ?_
  intro p e s m args below meth c s1 B hml hv
  obtain ⟨rfl, hh, ⟨hKn, hBQ⟩, hJ⟩ := hv
  have hx := B.exec
  have hb := B.bytes
  have hr := B.returns
  have hlk := B.notSynchronized
  have hts0 := atoms_spec (ws := gW yX7_minuteOf cX7_minuteOf 8 (some .long)) B.pre
  have h2 : ∀ w ∈ gT, w.before ([.ref rd, .long y0, .int l0] : List Value).toArray s = true := fun w hw => hts0 w (List.mem_cons_of_mem _ hw)
  have hown : s.vm.findClass RX7 = some m.cls := findClass_of_methodNamed B.named
  have hl := lv_entry [.ref rd, .long y0, .int l0] (n := 8) (Nat.le_of_ble_eq_true rfl)
  rw [lg_entry_eq]
  generalize (lg_sl [.ref rd, .long y0, .int l0] ++ List.replicate (8 - (lg_sl [.ref rd, .long y0, .int l0]).length) Slot.unset).toArray = ls at hl ⊢
  have b_y0 := zn_i64 y0
  have b_l0 := zn_i32 l0
  have hD := zD_all h2 hKn.1
  have hcl6 := fun (idx k : Nat) (t : zt_T) (h : (idx, 6, k) ∈ gfX7) (hk : fsX7[k]? = some t) => zf_clause (ro := ro) (ms := []) h2 hown hKn.1 gfX7_ok (by decide +kernel) idx 6 k 6 0 fsX7 t h rfl hk
  have kp0 : zc_kept D RTg ro [] s.heap s.heap := zc_kept.refl
  obtain ⟨ab, zb, hz1, hz2, hz3, hz4⟩ := hBQ.bm hh
  obtain ⟨kv, nv, wv, dv, mv, f0, f1, f2, f3, f4, hq1, hq2, hq3, hq4⟩ := id hJ
  dsimp only at hq1 hq2 hq3 hq4
  obtain ⟨hok, hm1, hm2⟩ := id hdw
  unfold rdOK at hok
  have hq5 : ¬ kv.toInt = 0 ∨ (wv.toInt = dd.2.2.1 ∧ dv.toInt = dd.2.2.2.1) := (Decidable.em (kv.toInt = 0)).elim (fun h => Or.inr (hq4 h)) Or.inl
  clear hq4
  have jn224 : ∀ (v4 : Int32) (ls : Array Slot), v4.toInt = plF y0.toInt l0.toInt dd → lv_has ls 8 [(4, .int v4), (0, .ref rd), (1, .long y0), (3, .int l0)] → W p l e (headSpec (gW yX7_minuteOf cX7_minuteOf 8 (some .long)) { frames := 0, cells := 0, slots := 0, locals := 0 }).room s m ([.ref rd, .long y0, .int l0] : List Value).toArray below meth c s.heap [] 0 0 (MQ below (fun _ st oc t => t.heap = st.heap ∧ ∃ r : Int64, oc = .returned (some (.long r)) ∧ r.toInt = mmF y0.toInt l0.toInt dd) ([.ref rd, .long y0, .int l0] : List Value).toArray s 0 0 (zy_fr sz)) (F0 m 224 ls []) := by
    intro v4 ls hv4 hl
    have hpb := plF_bd (ys := y0.toInt) (lp := l0.toInt) hdw
    clear hok hq5
    have hmm : mmF y0.toInt l0.toInt dd = 1440 * (y0.toInt + plF y0.toInt l0.toInt dd) + dd.2.2.2.2 := rfl
    rw [← hv4] at hmm hpb
    refine lv_lload_n hx hb (eX7_minuteOf (224, .lload_n 1, 1) (List.mem_of_getElem? (i := 117) rfl)) rfl (lv_at hl 2 rfl) ?_
    refine lv_iload hx hb (eX7_minuteOf (225, .iload 4, 2) (List.mem_of_getElem? (i := 118) rfl)) (lv_at hl 0 rfl) ?_
    refine ff_i2l hx hb (eX7_minuteOf (227, .i2l, 1) (List.mem_of_getElem? (i := 119) rfl)) (fun v1 e1 => ?_)
    refine ff_ladd hx hb (eX7_minuteOf (228, .ladd, 1) (List.mem_of_getElem? (i := 120) rfl)) (by omega) (by omega) (fun v2 e2 => ?_)
    refine ff_ldc2 (n := 1440) hx hb hown h2 (clX7_ok 57 1440 (List.mem_of_getElem? (i := 3) rfl)) (eX7_minuteOf (229, .ldc2_w 57, 3) (List.mem_of_getElem? (i := 121) rfl)) (fun v3 e3 => ?_)
    refine ff_lmulR hx hb (eX7_minuteOf (232, .lmul, 1) (List.mem_of_getElem? (i := 122) rfl)) (e3) (by omega) (by omega) (fun v4 e4 => ?_)
    refine lv_aload_n hx hb (eX7_minuteOf (233, .aload_n 0, 1) (List.mem_of_getElem? (i := 123) rfl)) rfl (lv_at hl 1 rfl) ?_
    refine tz_get (r := 6) (k := 4) (t := (0, (-2147483648), 2147483647)) hx hb hh hrd rfl rfl (hcl6 24 4 (0, (-2147483648), 2147483647) (by decide) rfl).1 f4 (eX7_minuteOf (234, .getfield 24, 3) (List.mem_of_getElem? (i := 124) rfl)) ?_
    refine ff_i2l hx hb (eX7_minuteOf (237, .i2l, 1) (List.mem_of_getElem? (i := 125) rfl)) (fun v5 e5 => ?_)
    refine ff_ladd hx hb (eX7_minuteOf (238, .ladd, 1) (List.mem_of_getElem? (i := 126) rfl)) (by omega) (by omega) (fun v6 e6 => ?_)
    exact W.lret hx hb hr (fun t ht hW => ⟨ht, _, rfl, by rw [hmm]; omega⟩) hh.2.2.1 (eX7_minuteOf (239, .lreturn, 1) (List.mem_of_getElem? (i := 127) rfl))
  refine lv_aload_n hx hb (eX7_minuteOf (0, .aload_n 0, 1) (List.mem_of_getElem? (i := 0) rfl)) rfl (lv_at hl 0 rfl) ?_
  refine tz_get (r := 6) (k := 1) (t := (0, (-2147483648), 2147483647)) hx hb hh hrd rfl rfl (hcl6 15 1 (0, (-2147483648), 2147483647) (by decide) rfl).1 f1 (eX7_minuteOf (1, .getfield 15, 3) (List.mem_of_getElem? (i := 1) rfl)) ?_
  refine lv_istore hx hb (eX7_minuteOf (4, .istore 4, 2) (List.mem_of_getElem? (i := 2) rfl)) hl (by decide) rfl (fun ls7 hl7 => ?_)
  refine lv_aload_n hx hb (eX7_minuteOf (6, .aload_n 0, 1) (List.mem_of_getElem? (i := 3) rfl)) rfl (lv_at hl7 1 rfl) ?_
  refine tz_get (r := 6) (k := 0) (t := (0, (-2147483648), 2147483647)) hx hb hh hrd rfl rfl (hcl6 9 0 (0, (-2147483648), 2147483647) (by decide) rfl).1 f0 (eX7_minuteOf (7, .getfield 9, 3) (List.mem_of_getElem? (i := 4) rfl)) ?_
  refine ff_iconst hx hb (eX7_minuteOf (10, .iconst 1, 1) (List.mem_of_getElem? (i := 5) rfl)) (by decide) (by decide) (fun v8 e8 => ?_)
  refine ff_icmp_ne hx hb (eX7_minuteOf (11, .if_icmp .ne 34, 3) (List.mem_of_getElem? (i := 6) rfl)) (tgt := 45) rfl (fun c9 => ?_) (fun c9 => ?_)
  · skip
    refine lv_aload_n hx hb (eX7_minuteOf (45, .aload_n 0, 1) (List.mem_of_getElem? (i := 22) rfl)) rfl (lv_at hl7 1 rfl) ?_
    refine tz_get (r := 6) (k := 0) (t := (0, (-2147483648), 2147483647)) hx hb hh hrd rfl rfl (hcl6 9 0 (0, (-2147483648), 2147483647) (by decide) rfl).1 f0 (eX7_minuteOf (46, .getfield 9, 3) (List.mem_of_getElem? (i := 23) rfl)) ?_
    refine ff_iconst hx hb (eX7_minuteOf (49, .iconst 2, 1) (List.mem_of_getElem? (i := 24) rfl)) (by decide) (by decide) (fun v10 e10 => ?_)
    refine ff_icmp_ne hx hb (eX7_minuteOf (50, .if_icmp .ne 32, 3) (List.mem_of_getElem? (i := 25) rfl)) (tgt := 82) rfl (fun c11 => ?_) (fun c11 => ?_)
    · skip
      refine lv_aload_n hx hb (eX7_minuteOf (82, .aload_n 0, 1) (List.mem_of_getElem? (i := 38) rfl)) rfl (lv_at hl7 1 rfl) ?_
      refine tz_get (r := 6) (k := 1) (t := (0, (-2147483648), 2147483647)) hx hb hh hrd rfl rfl (hcl6 15 1 (0, (-2147483648), 2147483647) (by decide) rfl).1 f1 (eX7_minuteOf (83, .getfield 15, 3) (List.mem_of_getElem? (i := 39) rfl)) ?_
      refine ff_iconst hx hb (eX7_minuteOf (86, .iconst 1, 1) (List.mem_of_getElem? (i := 40) rfl)) (by decide) (by decide) (fun v12 e12 => ?_)
      refine ff_icmp_lt hx hb (eX7_minuteOf (87, .if_icmp .lt 137, 3) (List.mem_of_getElem? (i := 41) rfl)) (tgt := 224) rfl (fun c13 => (by exfalso; omega)) (fun c13 => ?_)
      refine lv_aload_n hx hb (eX7_minuteOf (90, .aload_n 0, 1) (List.mem_of_getElem? (i := 42) rfl)) rfl (lv_at hl7 1 rfl) ?_
      refine tz_get (r := 6) (k := 1) (t := (0, (-2147483648), 2147483647)) hx hb hh hrd rfl rfl (hcl6 15 1 (0, (-2147483648), 2147483647) (by decide) rfl).1 f1 (eX7_minuteOf (91, .getfield 15, 3) (List.mem_of_getElem? (i := 43) rfl)) ?_
      refine ff_bipush hx hb (eX7_minuteOf (94, .bipush 12, 2) (List.mem_of_getElem? (i := 44) rfl)) (by decide) (by decide) (fun v14 e14 => ?_)
      refine ff_icmp_gt hx hb (eX7_minuteOf (96, .if_icmp .gt 128, 3) (List.mem_of_getElem? (i := 45) rfl)) (tgt := 224) rfl (fun c15 => (by exfalso; omega)) (fun c15 => ?_)
      have hk0 : dd.1 = 0 ∧ 1 ≤ dd.2.1 ∧ dd.2.1 ≤ 12 ∧ 1 ≤ dd.2.2.1 ∧ dd.2.2.1 ≤ 5 ∧ 0 ≤ dd.2.2.2.1 ∧ dd.2.2.2.1 ≤ 6 ∧ wv.toInt = dd.2.2.1 ∧ dv.toInt = dd.2.2.2.1 := by omega
      clear hok hq5
      have jn157 : ∀ (v6 v5 : Int32) (ls : Array Slot), bfF l0.toInt dd.2.1 = v5.toInt → bhF l0.toInt dd.2.1 = v6.toInt → 0 ≤ v5.toInt ∧ v5.toInt ≤ 366 ∧ 0 ≤ v6.toInt ∧ v6.toInt ≤ 366 → lv_has ls 8 [(6, .int v6), (5, .int v5), (0, .ref rd), (1, .long y0), (3, .int l0)] → W p l e (headSpec (gW yX7_minuteOf cX7_minuteOf 8 (some .long)) { frames := 0, cells := 0, slots := 0, locals := 0 }).room s m ([.ref rd, .long y0, .int l0] : List Value).toArray below meth c s.heap [] 0 0 (MQ below (fun _ st oc t => t.heap = st.heap ∧ ∃ r : Int64, oc = .returned (some (.long r)) ∧ r.toInt = mmF y0.toInt l0.toInt dd) ([.ref rd, .long y0, .int l0] : List Value).toArray s 0 0 (zy_fr sz)) (F0 m 157 ls []) := by
        intro v6 v5 ls hbf hbh hbb hl
        refine lv_lload_n hx hb (eX7_minuteOf (157, .lload_n 1, 1) (List.mem_of_getElem? (i := 78) rfl)) rfl (lv_at hl 3 rfl) ?_
        refine lv_iload hx hb (eX7_minuteOf (158, .iload 5, 2) (List.mem_of_getElem? (i := 79) rfl)) (lv_at hl 1 rfl) ?_
        refine ff_i2l hx hb (eX7_minuteOf (160, .i2l, 1) (List.mem_of_getElem? (i := 80) rfl)) (fun v16 e16 => ?_)
        refine ff_ladd hx hb (eX7_minuteOf (161, .ladd, 1) (List.mem_of_getElem? (i := 81) rfl)) (by omega) (by omega) (fun v17 e17 => ?_)
        refine ff_ldc2 (n := 5118431696) hx hb hown h2 (clX7_ok 51 5118431696 (List.mem_of_getElem? (i := 0) rfl)) (eX7_minuteOf (162, .ldc2_w 51, 3) (List.mem_of_getElem? (i := 82) rfl)) (fun v18 e18 => ?_)
        refine ff_ladd hx hb (eX7_minuteOf (165, .ladd, 1) (List.mem_of_getElem? (i := 83) rfl)) (by omega) (by omega) (fun v19 e19 => ?_)
        refine ff_ldc2 (n := 4) hx hb hown h2 (clX7_ok 53 4 (List.mem_of_getElem? (i := 1) rfl)) (eX7_minuteOf (166, .ldc2_w 53, 3) (List.mem_of_getElem? (i := 84) rfl)) (fun v20 e20 => ?_)
        refine ff_ladd hx hb (eX7_minuteOf (169, .ladd, 1) (List.mem_of_getElem? (i := 85) rfl)) (by omega) (by omega) (fun v21 e21 => ?_)
        refine ff_ldc2 (n := 7) hx hb hown h2 (clX7_ok 55 7 (List.mem_of_getElem? (i := 2) rfl)) (eX7_minuteOf (170, .ldc2_w 55, 3) (List.mem_of_getElem? (i := 86) rfl)) (fun v22 e22 => ?_)
        refine ff_lrem hx hb (eX7_minuteOf (173, .lrem, 1) (List.mem_of_getElem? (i := 87) rfl)) (e22) (by decide) (fun v23 e23 => ?_)
        refine ff_l2i hx hb (eX7_minuteOf (174, .l2i, 1) (List.mem_of_getElem? (i := 88) rfl)) (by omega) (by omega) (fun v24 e24 => ?_)
        refine lv_istore hx hb (eX7_minuteOf (175, .istore 7, 2) (List.mem_of_getElem? (i := 89) rfl)) hl (by decide) rfl (fun ls25 hl25 => ?_)
        refine lv_iload hx hb (eX7_minuteOf (177, .iload 5, 2) (List.mem_of_getElem? (i := 90) rfl)) (lv_at hl25 2 rfl) ?_
        refine lv_aload_n hx hb (eX7_minuteOf (179, .aload_n 0, 1) (List.mem_of_getElem? (i := 91) rfl)) rfl (lv_at hl25 3 rfl) ?_
        refine tz_get (r := 6) (k := 3) (t := (0, (-2147483648), 2147483647)) hx hb hh hrd rfl rfl (hcl6 21 3 (0, (-2147483648), 2147483647) (by decide) rfl).1 f3 (eX7_minuteOf (180, .getfield 21, 3) (List.mem_of_getElem? (i := 92) rfl)) ?_
        refine lv_iload hx hb (eX7_minuteOf (183, .iload 7, 2) (List.mem_of_getElem? (i := 93) rfl)) (lv_at hl25 0 rfl) ?_
        refine ff_isub hx hb (eX7_minuteOf (185, .isub, 1) (List.mem_of_getElem? (i := 94) rfl)) (by omega) (by omega) (fun v26 e26 => ?_)
        refine ff_bipush hx hb (eX7_minuteOf (186, .bipush 7, 2) (List.mem_of_getElem? (i := 95) rfl)) (by decide) (by decide) (fun v27 e27 => ?_)
        refine ff_iadd hx hb (eX7_minuteOf (188, .iadd, 1) (List.mem_of_getElem? (i := 96) rfl)) (by omega) (by omega) (fun v28 e28 => ?_)
        refine ff_bipush hx hb (eX7_minuteOf (189, .bipush 7, 2) (List.mem_of_getElem? (i := 97) rfl)) (by decide) (by decide) (fun v29 e29 => ?_)
        refine ff_irem hx hb (eX7_minuteOf (191, .irem, 1) (List.mem_of_getElem? (i := 98) rfl)) (e29) (by decide) (fun v30 e30 => ?_)
        refine ff_iadd hx hb (eX7_minuteOf (192, .iadd, 1) (List.mem_of_getElem? (i := 99) rfl)) (by omega) (by omega) (fun v31 e31 => ?_)
        refine ff_bipush hx hb (eX7_minuteOf (193, .bipush 7, 2) (List.mem_of_getElem? (i := 100) rfl)) (by decide) (by decide) (fun v32 e32 => ?_)
        refine lv_aload_n hx hb (eX7_minuteOf (195, .aload_n 0, 1) (List.mem_of_getElem? (i := 101) rfl)) rfl (lv_at hl25 3 rfl) ?_
        refine tz_get (r := 6) (k := 2) (t := (0, (-2147483648), 2147483647)) hx hb hh hrd rfl rfl (hcl6 18 2 (0, (-2147483648), 2147483647) (by decide) rfl).1 f2 (eX7_minuteOf (196, .getfield 18, 3) (List.mem_of_getElem? (i := 102) rfl)) ?_
        refine ff_iconst hx hb (eX7_minuteOf (199, .iconst 1, 1) (List.mem_of_getElem? (i := 103) rfl)) (by decide) (by decide) (fun v33 e33 => ?_)
        refine ff_isub hx hb (eX7_minuteOf (200, .isub, 1) (List.mem_of_getElem? (i := 104) rfl)) (by omega) (by omega) (fun v34 e34 => ?_)
        refine ff_imulL hx hb (eX7_minuteOf (201, .imul, 1) (List.mem_of_getElem? (i := 105) rfl)) (e32) (by omega) (by omega) (fun v35 e35 => ?_)
        refine ff_iadd hx hb (eX7_minuteOf (202, .iadd, 1) (List.mem_of_getElem? (i := 106) rfl)) (by omega) (by omega) (fun v36 e36 => ?_)
        refine lv_istore hx hb (eX7_minuteOf (203, .istore 4, 2) (List.mem_of_getElem? (i := 107) rfl)) hl25 (by decide) rfl (fun ls37 hl37 => ?_)
        refine lv_iload hx hb (eX7_minuteOf (205, .iload 4, 2) (List.mem_of_getElem? (i := 108) rfl)) (lv_at hl37 0 rfl) ?_
        refine lv_iload hx hb (eX7_minuteOf (207, .iload 6, 2) (List.mem_of_getElem? (i := 109) rfl)) (lv_at hl37 2 rfl) ?_
        refine ff_icmp_ge hx hb (eX7_minuteOf (209, .if_icmp .ge 8, 3) (List.mem_of_getElem? (i := 110) rfl)) (tgt := 217) rfl (fun c38 => ?_) (fun c38 => ?_)
        · skip
          refine lv_iload hx hb (eX7_minuteOf (217, .iload 4, 2) (List.mem_of_getElem? (i := 113) rfl)) (lv_at hl37 0 rfl) ?_
          refine ff_bipush hx hb (eX7_minuteOf (219, .bipush 7, 2) (List.mem_of_getElem? (i := 114) rfl)) (by decide) (by decide) (fun v39 e39 => ?_)
          refine ff_isub hx hb (eX7_minuteOf (221, .isub, 1) (List.mem_of_getElem? (i := 115) rfl)) (by omega) (by omega) (fun v40 e40 => ?_)
          refine lv_istore hx hb (eX7_minuteOf (222, .istore 4, 2) (List.mem_of_getElem? (i := 116) rfl)) hl37 (by decide) rfl (fun ls41 hl41 => ?_)
          exact jn224 v40 ls41 (by unfold plF; rw [if_neg (show ¬ dd.1 = 1 by omega), if_neg (show ¬ dd.1 = 2 by omega), if_pos (show 1 ≤ dd.2.1 ∧ dd.2.1 ≤ 12 by omega)]; unfold mdF; rw [hbf, hbh]; split <;> omega) (lv_sub hl41 [0, 4, 5, 6] rfl)
        · skip
          refine lv_iload hx hb (eX7_minuteOf (212, .iload 4, 2) (List.mem_of_getElem? (i := 111) rfl)) (lv_at hl37 0 rfl) ?_
          refine lv_goto hx hb (eX7_minuteOf (214, .goto 8, 3) (List.mem_of_getElem? (i := 112) rfl)) (tgt := 222) rfl ?_
          refine lv_istore hx hb (eX7_minuteOf (222, .istore 4, 2) (List.mem_of_getElem? (i := 116) rfl)) hl37 (by decide) rfl (fun ls42 hl42 => ?_)
          exact jn224 v36 ls42 (by unfold plF; rw [if_neg (show ¬ dd.1 = 1 by omega), if_neg (show ¬ dd.1 = 2 by omega), if_pos (show 1 ≤ dd.2.1 ∧ dd.2.1 ≤ 12 by omega)]; unfold mdF; rw [hbf, hbh]; split <;> omega) (lv_sub hl42 [0, 4, 5, 6] rfl)
      have jn129 : ∀ (v5 : Int32) (ls : Array Slot), bfF l0.toInt dd.2.1 = v5.toInt → 0 ≤ v5.toInt ∧ v5.toInt ≤ 366 → lv_has ls 8 [(5, .int v5), (0, .ref rd), (1, .long y0), (3, .int l0)] → W p l e (headSpec (gW yX7_minuteOf cX7_minuteOf 8 (some .long)) { frames := 0, cells := 0, slots := 0, locals := 0 }).room s m ([.ref rd, .long y0, .int l0] : List Value).toArray below meth c s.heap [] 0 0 (MQ below (fun _ st oc t => t.heap = st.heap ∧ ∃ r : Int64, oc = .returned (some (.long r)) ∧ r.toInt = mmF y0.toInt l0.toInt dd) ([.ref rd, .long y0, .int l0] : List Value).toArray s 0 0 (zy_fr sz)) (F0 m 129 ls []) := by
        intro v5 ls hbf hbb hl
        refine zu_gs hx hb hown hz1 (h2 _ (tb_4 136 rfl rfl)) (eX7_minuteOf (129, .getstatic 45, 3) (List.mem_of_getElem? (i := 63) rfl)) ?_
        refine lv_aload_n hx hb (eX7_minuteOf (132, .aload_n 0, 1) (List.mem_of_getElem? (i := 64) rfl)) rfl (lv_at hl 1 rfl) ?_
        refine tz_get (r := 6) (k := 1) (t := (0, (-2147483648), 2147483647)) hx hb hh hrd rfl rfl (hcl6 15 1 (0, (-2147483648), 2147483647) (by decide) rfl).1 f1 (eX7_minuteOf (133, .getfield 15, 3) (List.mem_of_getElem? (i := 65) rfl)) ?_
        refine zu_bm (J := dd.2.1) hx hb hz2 hz3 hz4 (by omega) (by omega) (by omega) (eX7_minuteOf (136, .iaload, 1) (List.mem_of_getElem? (i := 66) rfl)) (fun v43 e43 => ?_)
        refine lv_iload_n hx hb (eX7_minuteOf (137, .iload_n 3, 1) (List.mem_of_getElem? (i := 67) rfl)) rfl (lv_at hl 3 rfl) ?_
        refine ff_if_eq hx hb (eX7_minuteOf (138, .ifCond .eq 15, 3) (List.mem_of_getElem? (i := 68) rfl)) (tgt := 153) rfl (fun c44 => ?_) (fun c44 => ?_)
        · skip
          refine ff_iconst hx hb (eX7_minuteOf (153, .iconst 0, 1) (List.mem_of_getElem? (i := 75) rfl)) (by decide) (by decide) (fun v45 e45 => ?_)
          refine ff_iadd hx hb (eX7_minuteOf (154, .iadd, 1) (List.mem_of_getElem? (i := 76) rfl)) (by omega) (by omega) (fun v46 e46 => ?_)
          refine lv_istore hx hb (eX7_minuteOf (155, .istore 6, 2) (List.mem_of_getElem? (i := 77) rfl)) hl (by decide) rfl (fun ls47 hl47 => ?_)
          exact jn157 v46 v5 ls47 hbf (by unfold bhF; split <;> omega) (by omega) (lv_sub hl47 [0, 1, 2, 3, 4] rfl)
        · skip
          refine lv_aload_n hx hb (eX7_minuteOf (141, .aload_n 0, 1) (List.mem_of_getElem? (i := 69) rfl)) rfl (lv_at hl 1 rfl) ?_
          refine tz_get (r := 6) (k := 1) (t := (0, (-2147483648), 2147483647)) hx hb hh hrd rfl rfl (hcl6 15 1 (0, (-2147483648), 2147483647) (by decide) rfl).1 f1 (eX7_minuteOf (142, .getfield 15, 3) (List.mem_of_getElem? (i := 70) rfl)) ?_
          refine ff_iconst hx hb (eX7_minuteOf (145, .iconst 2, 1) (List.mem_of_getElem? (i := 71) rfl)) (by decide) (by decide) (fun v48 e48 => ?_)
          refine ff_icmp_lt hx hb (eX7_minuteOf (146, .if_icmp .lt 7, 3) (List.mem_of_getElem? (i := 72) rfl)) (tgt := 153) rfl (fun c49 => ?_) (fun c49 => ?_)
          · skip
            refine ff_iconst hx hb (eX7_minuteOf (153, .iconst 0, 1) (List.mem_of_getElem? (i := 75) rfl)) (by decide) (by decide) (fun v50 e50 => ?_)
            refine ff_iadd hx hb (eX7_minuteOf (154, .iadd, 1) (List.mem_of_getElem? (i := 76) rfl)) (by omega) (by omega) (fun v51 e51 => ?_)
            refine lv_istore hx hb (eX7_minuteOf (155, .istore 6, 2) (List.mem_of_getElem? (i := 77) rfl)) hl (by decide) rfl (fun ls52 hl52 => ?_)
            exact jn157 v51 v5 ls52 hbf (by unfold bhF; split <;> omega) (by omega) (lv_sub hl52 [0, 1, 2, 3, 4] rfl)
          · skip
            refine ff_iconst hx hb (eX7_minuteOf (149, .iconst 1, 1) (List.mem_of_getElem? (i := 73) rfl)) (by decide) (by decide) (fun v53 e53 => ?_)
            refine lv_goto hx hb (eX7_minuteOf (150, .goto 4, 3) (List.mem_of_getElem? (i := 74) rfl)) (tgt := 154) rfl ?_
            refine ff_iadd hx hb (eX7_minuteOf (154, .iadd, 1) (List.mem_of_getElem? (i := 76) rfl)) (by omega) (by omega) (fun v54 e54 => ?_)
            refine lv_istore hx hb (eX7_minuteOf (155, .istore 6, 2) (List.mem_of_getElem? (i := 77) rfl)) hl (by decide) rfl (fun ls55 hl55 => ?_)
            exact jn157 v54 v5 ls55 hbf (by unfold bhF; split <;> omega) (by omega) (lv_sub hl55 [0, 1, 2, 3, 4] rfl)
      refine zu_gs hx hb hown hz1 (h2 _ (tb_4 136 rfl rfl)) (eX7_minuteOf (99, .getstatic 45, 3) (List.mem_of_getElem? (i := 46) rfl)) ?_
      refine lv_aload_n hx hb (eX7_minuteOf (102, .aload_n 0, 1) (List.mem_of_getElem? (i := 47) rfl)) rfl (lv_at hl7 1 rfl) ?_
      refine tz_get (r := 6) (k := 1) (t := (0, (-2147483648), 2147483647)) hx hb hh hrd rfl rfl (hcl6 15 1 (0, (-2147483648), 2147483647) (by decide) rfl).1 f1 (eX7_minuteOf (103, .getfield 15, 3) (List.mem_of_getElem? (i := 48) rfl)) ?_
      refine ff_iconst hx hb (eX7_minuteOf (106, .iconst 1, 1) (List.mem_of_getElem? (i := 49) rfl)) (by decide) (by decide) (fun v56 e56 => ?_)
      refine ff_isub hx hb (eX7_minuteOf (107, .isub, 1) (List.mem_of_getElem? (i := 50) rfl)) (by omega) (by omega) (fun v57 e57 => ?_)
      refine zu_bm (J := dd.2.1 - 1) hx hb hz2 hz3 hz4 (by omega) (by omega) (by omega) (eX7_minuteOf (108, .iaload, 1) (List.mem_of_getElem? (i := 51) rfl)) (fun v58 e58 => ?_)
      refine lv_iload_n hx hb (eX7_minuteOf (109, .iload_n 3, 1) (List.mem_of_getElem? (i := 52) rfl)) rfl (lv_at hl7 3 rfl) ?_
      refine ff_if_eq hx hb (eX7_minuteOf (110, .ifCond .eq 15, 3) (List.mem_of_getElem? (i := 53) rfl)) (tgt := 125) rfl (fun c59 => ?_) (fun c59 => ?_)
      · skip
        refine ff_iconst hx hb (eX7_minuteOf (125, .iconst 0, 1) (List.mem_of_getElem? (i := 60) rfl)) (by decide) (by decide) (fun v60 e60 => ?_)
        refine ff_iadd hx hb (eX7_minuteOf (126, .iadd, 1) (List.mem_of_getElem? (i := 61) rfl)) (by omega) (by omega) (fun v61 e61 => ?_)
        refine lv_istore hx hb (eX7_minuteOf (127, .istore 5, 2) (List.mem_of_getElem? (i := 62) rfl)) hl7 (by decide) rfl (fun ls62 hl62 => ?_)
        exact jn129 v61 ls62 (by unfold bfF; split <;> omega) (by omega) (lv_sub hl62 [0, 2, 3, 4] rfl)
      · skip
        refine lv_aload_n hx hb (eX7_minuteOf (113, .aload_n 0, 1) (List.mem_of_getElem? (i := 54) rfl)) rfl (lv_at hl7 1 rfl) ?_
        refine tz_get (r := 6) (k := 1) (t := (0, (-2147483648), 2147483647)) hx hb hh hrd rfl rfl (hcl6 15 1 (0, (-2147483648), 2147483647) (by decide) rfl).1 f1 (eX7_minuteOf (114, .getfield 15, 3) (List.mem_of_getElem? (i := 55) rfl)) ?_
        refine ff_iconst hx hb (eX7_minuteOf (117, .iconst 2, 1) (List.mem_of_getElem? (i := 56) rfl)) (by decide) (by decide) (fun v63 e63 => ?_)
        refine ff_icmp_le hx hb (eX7_minuteOf (118, .if_icmp .le 7, 3) (List.mem_of_getElem? (i := 57) rfl)) (tgt := 125) rfl (fun c64 => ?_) (fun c64 => ?_)
        · skip
          refine ff_iconst hx hb (eX7_minuteOf (125, .iconst 0, 1) (List.mem_of_getElem? (i := 60) rfl)) (by decide) (by decide) (fun v65 e65 => ?_)
          refine ff_iadd hx hb (eX7_minuteOf (126, .iadd, 1) (List.mem_of_getElem? (i := 61) rfl)) (by omega) (by omega) (fun v66 e66 => ?_)
          refine lv_istore hx hb (eX7_minuteOf (127, .istore 5, 2) (List.mem_of_getElem? (i := 62) rfl)) hl7 (by decide) rfl (fun ls67 hl67 => ?_)
          exact jn129 v66 ls67 (by unfold bfF; split <;> omega) (by omega) (lv_sub hl67 [0, 2, 3, 4] rfl)
        · skip
          refine ff_iconst hx hb (eX7_minuteOf (121, .iconst 1, 1) (List.mem_of_getElem? (i := 58) rfl)) (by decide) (by decide) (fun v68 e68 => ?_)
          refine lv_goto hx hb (eX7_minuteOf (122, .goto 4, 3) (List.mem_of_getElem? (i := 59) rfl)) (tgt := 126) rfl ?_
          refine ff_iadd hx hb (eX7_minuteOf (126, .iadd, 1) (List.mem_of_getElem? (i := 61) rfl)) (by omega) (by omega) (fun v69 e69 => ?_)
          refine lv_istore hx hb (eX7_minuteOf (127, .istore 5, 2) (List.mem_of_getElem? (i := 62) rfl)) hl7 (by decide) rfl (fun ls70 hl70 => ?_)
          exact jn129 v69 ls70 (by unfold bfF; split <;> omega) (by omega) (lv_sub hl70 [0, 2, 3, 4] rfl)
    · skip
      refine lv_iload_n hx hb (eX7_minuteOf (53, .iload_n 3, 1) (List.mem_of_getElem? (i := 26) rfl)) rfl (lv_at hl7 3 rfl) ?_
      refine ff_if_ne hx hb (eX7_minuteOf (54, .ifCond .ne 13, 3) (List.mem_of_getElem? (i := 27) rfl)) (tgt := 67) rfl (fun c71 => ?_) (fun c71 => ?_)
      · skip
        refine lv_aload_n hx hb (eX7_minuteOf (67, .aload_n 0, 1) (List.mem_of_getElem? (i := 32) rfl)) rfl (lv_at hl7 1 rfl) ?_
        refine tz_get (r := 6) (k := 1) (t := (0, (-2147483648), 2147483647)) hx hb hh hrd rfl rfl (hcl6 15 1 (0, (-2147483648), 2147483647) (by decide) rfl).1 f1 (eX7_minuteOf (68, .getfield 15, 3) (List.mem_of_getElem? (i := 33) rfl)) ?_
        refine lv_goto hx hb (eX7_minuteOf (71, .goto 6, 3) (List.mem_of_getElem? (i := 34) rfl)) (tgt := 77) rfl ?_
        refine lv_istore hx hb (eX7_minuteOf (77, .istore 4, 2) (List.mem_of_getElem? (i := 36) rfl)) hl7 (by decide) rfl (fun ls72 hl72 => ?_)
        refine lv_goto hx hb (eX7_minuteOf (79, .goto 145, 3) (List.mem_of_getElem? (i := 37) rfl)) (tgt := 224) rfl ?_
        exact jn224 nv ls72 (by unfold plF; first | (rw [if_pos (show dd.1 = 1 by omega)]; split <;> omega) | (rw [if_neg (show ¬ dd.1 = 1 by omega), if_pos (show dd.1 = 2 by omega)]; split <;> omega)) (lv_sub hl72 [0, 1, 2, 3] rfl)
      · skip
        refine lv_aload_n hx hb (eX7_minuteOf (57, .aload_n 0, 1) (List.mem_of_getElem? (i := 28) rfl)) rfl (lv_at hl7 1 rfl) ?_
        refine tz_get (r := 6) (k := 1) (t := (0, (-2147483648), 2147483647)) hx hb hh hrd rfl rfl (hcl6 15 1 (0, (-2147483648), 2147483647) (by decide) rfl).1 f1 (eX7_minuteOf (58, .getfield 15, 3) (List.mem_of_getElem? (i := 29) rfl)) ?_
        refine ff_sipush hx hb (eX7_minuteOf (61, .sipush 365, 3) (List.mem_of_getElem? (i := 30) rfl)) (by decide) (by decide) (fun v73 e73 => ?_)
        refine ff_icmp_ge hx hb (eX7_minuteOf (64, .if_icmp .ge 10, 3) (List.mem_of_getElem? (i := 31) rfl)) (tgt := 74) rfl (fun c74 => ?_) (fun c74 => ?_)
        · skip
          refine ff_sipush hx hb (eX7_minuteOf (74, .sipush 364, 3) (List.mem_of_getElem? (i := 35) rfl)) (by decide) (by decide) (fun v75 e75 => ?_)
          refine lv_istore hx hb (eX7_minuteOf (77, .istore 4, 2) (List.mem_of_getElem? (i := 36) rfl)) hl7 (by decide) rfl (fun ls76 hl76 => ?_)
          refine lv_goto hx hb (eX7_minuteOf (79, .goto 145, 3) (List.mem_of_getElem? (i := 37) rfl)) (tgt := 224) rfl ?_
          exact jn224 v75 ls76 (by unfold plF; first | (rw [if_pos (show dd.1 = 1 by omega)]; split <;> omega) | (rw [if_neg (show ¬ dd.1 = 1 by omega), if_pos (show dd.1 = 2 by omega)]; split <;> omega)) (lv_sub hl76 [0, 1, 2, 3] rfl)
        · skip
          refine lv_aload_n hx hb (eX7_minuteOf (67, .aload_n 0, 1) (List.mem_of_getElem? (i := 32) rfl)) rfl (lv_at hl7 1 rfl) ?_
          refine tz_get (r := 6) (k := 1) (t := (0, (-2147483648), 2147483647)) hx hb hh hrd rfl rfl (hcl6 15 1 (0, (-2147483648), 2147483647) (by decide) rfl).1 f1 (eX7_minuteOf (68, .getfield 15, 3) (List.mem_of_getElem? (i := 33) rfl)) ?_
          refine lv_goto hx hb (eX7_minuteOf (71, .goto 6, 3) (List.mem_of_getElem? (i := 34) rfl)) (tgt := 77) rfl ?_
          refine lv_istore hx hb (eX7_minuteOf (77, .istore 4, 2) (List.mem_of_getElem? (i := 36) rfl)) hl7 (by decide) rfl (fun ls77 hl77 => ?_)
          refine lv_goto hx hb (eX7_minuteOf (79, .goto 145, 3) (List.mem_of_getElem? (i := 37) rfl)) (tgt := 224) rfl ?_
          exact jn224 nv ls77 (by unfold plF; first | (rw [if_pos (show dd.1 = 1 by omega)]; split <;> omega) | (rw [if_neg (show ¬ dd.1 = 1 by omega), if_pos (show dd.1 = 2 by omega)]; split <;> omega)) (lv_sub hl77 [0, 1, 2, 3] rfl)
  · skip
    refine lv_iload_n hx hb (eX7_minuteOf (14, .iload_n 3, 1) (List.mem_of_getElem? (i := 7) rfl)) rfl (lv_at hl7 3 rfl) ?_
    refine ff_if_eq hx hb (eX7_minuteOf (15, .ifCond .eq 19, 3) (List.mem_of_getElem? (i := 8) rfl)) (tgt := 34) rfl (fun c78 => ?_) (fun c78 => ?_)
    · skip
      refine lv_aload_n hx hb (eX7_minuteOf (34, .aload_n 0, 1) (List.mem_of_getElem? (i := 16) rfl)) rfl (lv_at hl7 1 rfl) ?_
      refine tz_get (r := 6) (k := 1) (t := (0, (-2147483648), 2147483647)) hx hb hh hrd rfl rfl (hcl6 15 1 (0, (-2147483648), 2147483647) (by decide) rfl).1 f1 (eX7_minuteOf (35, .getfield 15, 3) (List.mem_of_getElem? (i := 17) rfl)) ?_
      refine ff_iconst hx hb (eX7_minuteOf (38, .iconst 1, 1) (List.mem_of_getElem? (i := 18) rfl)) (by decide) (by decide) (fun v79 e79 => ?_)
      refine ff_isub hx hb (eX7_minuteOf (39, .isub, 1) (List.mem_of_getElem? (i := 19) rfl)) (by omega) (by omega) (fun v80 e80 => ?_)
      refine lv_istore hx hb (eX7_minuteOf (40, .istore 4, 2) (List.mem_of_getElem? (i := 20) rfl)) hl7 (by decide) rfl (fun ls81 hl81 => ?_)
      refine lv_goto hx hb (eX7_minuteOf (42, .goto 182, 3) (List.mem_of_getElem? (i := 21) rfl)) (tgt := 224) rfl ?_
      exact jn224 v80 ls81 (by unfold plF; first | (rw [if_pos (show dd.1 = 1 by omega)]; split <;> omega) | (rw [if_neg (show ¬ dd.1 = 1 by omega), if_pos (show dd.1 = 2 by omega)]; split <;> omega)) (lv_sub hl81 [0, 1, 2, 3] rfl)
    · skip
      refine lv_aload_n hx hb (eX7_minuteOf (18, .aload_n 0, 1) (List.mem_of_getElem? (i := 9) rfl)) rfl (lv_at hl7 1 rfl) ?_
      refine tz_get (r := 6) (k := 1) (t := (0, (-2147483648), 2147483647)) hx hb hh hrd rfl rfl (hcl6 15 1 (0, (-2147483648), 2147483647) (by decide) rfl).1 f1 (eX7_minuteOf (19, .getfield 15, 3) (List.mem_of_getElem? (i := 10) rfl)) ?_
      refine ff_bipush hx hb (eX7_minuteOf (22, .bipush 60, 2) (List.mem_of_getElem? (i := 11) rfl)) (by decide) (by decide) (fun v82 e82 => ?_)
      refine ff_icmp_lt hx hb (eX7_minuteOf (24, .if_icmp .lt 10, 3) (List.mem_of_getElem? (i := 12) rfl)) (tgt := 34) rfl (fun c83 => ?_) (fun c83 => ?_)
      · skip
        refine lv_aload_n hx hb (eX7_minuteOf (34, .aload_n 0, 1) (List.mem_of_getElem? (i := 16) rfl)) rfl (lv_at hl7 1 rfl) ?_
        refine tz_get (r := 6) (k := 1) (t := (0, (-2147483648), 2147483647)) hx hb hh hrd rfl rfl (hcl6 15 1 (0, (-2147483648), 2147483647) (by decide) rfl).1 f1 (eX7_minuteOf (35, .getfield 15, 3) (List.mem_of_getElem? (i := 17) rfl)) ?_
        refine ff_iconst hx hb (eX7_minuteOf (38, .iconst 1, 1) (List.mem_of_getElem? (i := 18) rfl)) (by decide) (by decide) (fun v84 e84 => ?_)
        refine ff_isub hx hb (eX7_minuteOf (39, .isub, 1) (List.mem_of_getElem? (i := 19) rfl)) (by omega) (by omega) (fun v85 e85 => ?_)
        refine lv_istore hx hb (eX7_minuteOf (40, .istore 4, 2) (List.mem_of_getElem? (i := 20) rfl)) hl7 (by decide) rfl (fun ls86 hl86 => ?_)
        refine lv_goto hx hb (eX7_minuteOf (42, .goto 182, 3) (List.mem_of_getElem? (i := 21) rfl)) (tgt := 224) rfl ?_
        exact jn224 v85 ls86 (by unfold plF; first | (rw [if_pos (show dd.1 = 1 by omega)]; split <;> omega) | (rw [if_neg (show ¬ dd.1 = 1 by omega), if_pos (show dd.1 = 2 by omega)]; split <;> omega)) (lv_sub hl86 [0, 1, 2, 3] rfl)
      · skip
        refine lv_aload_n hx hb (eX7_minuteOf (27, .aload_n 0, 1) (List.mem_of_getElem? (i := 13) rfl)) rfl (lv_at hl7 1 rfl) ?_
        refine tz_get (r := 6) (k := 1) (t := (0, (-2147483648), 2147483647)) hx hb hh hrd rfl rfl (hcl6 15 1 (0, (-2147483648), 2147483647) (by decide) rfl).1 f1 (eX7_minuteOf (28, .getfield 15, 3) (List.mem_of_getElem? (i := 14) rfl)) ?_
        refine lv_goto hx hb (eX7_minuteOf (31, .goto 9, 3) (List.mem_of_getElem? (i := 15) rfl)) (tgt := 40) rfl ?_
        refine lv_istore hx hb (eX7_minuteOf (40, .istore 4, 2) (List.mem_of_getElem? (i := 20) rfl)) hl7 (by decide) rfl (fun ls87 hl87 => ?_)
        refine lv_goto hx hb (eX7_minuteOf (42, .goto 182, 3) (List.mem_of_getElem? (i := 21) rfl)) (tgt := 224) rfl ?_
        exact jn224 nv ls87 (by unfold plF; first | (rw [if_pos (show dd.1 = 1 by omega)]; split <;> omega) | (rw [if_neg (show ¬ dd.1 = 1 by omega), if_pos (show dd.1 = 2 by omega)]; split <;> omega)) (lv_sub hl87 [0, 1, 2, 3] rfl)
set_option maxRecDepth 100000 in
set_option maxHeartbeats 4000000 in
theorem hX6_offsetInYear (l : Launch) (D : va_G) (cA : Nat → ClassId) (ro : Nat → Option Nat) (sz : Nat) (H0 : Heap) (ru : Nat) (m0 : Int64) (rF rT : Nat) (rr : rU) (y0 : Int) (hru : ro ru = some 5)  : Met l yX6_offsetInYear (gW yX6_offsetInYear cX6_offsetInYear 6 (some .int)) { frames := 0, cells := 0, slots := 0, locals := 0 } (zs_P D cA ro sz H0 (fun H => jRo D ro H ru rF rT rr ∧ jAt D H ru y0) [.ref ru, .long m0]) (fun _ st oc t => t.heap = st.heap ∧ ∃ r : Int32, oc = .returned (some (.int r)) ∧ r.toInt = oyF rr y0 m0.toInt) 0 0 (zy_fr sz) := by
  refine zy_ofW (cc := cX6_offsetInYear) (maxL := 6) (ret := (some .int)) (by decide +kernel) rfl ?_
  intro p e s m args below meth c s1 B hml hv
  obtain ⟨rfl, hh, hKn, hJ⟩ := hv
  have hx := B.exec
  have hb := B.bytes
  have hr := B.returns
  have hlk := B.notSynchronized
  have hts0 := atoms_spec (ws := gW yX6_offsetInYear cX6_offsetInYear 6 (some .int)) B.pre
  have h2 : ∀ w ∈ gT, w.before ([.ref ru, .long m0] : List Value).toArray s = true := fun w hw => hts0 w (List.mem_cons_of_mem _ hw)
  have hown : s.vm.findClass RX6 = some m.cls := findClass_of_methodNamed B.named
  have hl := lv_entry [.ref ru, .long m0] (n := 6) (Nat.le_of_ble_eq_true rfl)
  rw [lg_entry_eq]
  generalize (lg_sl [.ref ru, .long m0] ++ List.replicate (6 - (lg_sl [.ref ru, .long m0]).length) Slot.unset).toArray = ls at hl ⊢
  have b_m0 := zn_i64 m0
  have hD := zD_all h2 hKn.1
  have hcl5 := fun (idx k : Nat) (t : zt_T) (h : (idx, 5, k) ∈ gfX6) (hk : fsX6[k]? = some t) => zf_clause (ro := ro) (ms := []) h2 hown hKn.1 gfX6_ok (by decide +kernel) idx 5 k 5 0 fsX6 t h rfl hk
  have kp0 : zc_kept D RTg ro [] s.heap s.heap := zc_kept.refl
  obtain ⟨⟨-, r6F, r6T, ⟨hF3, hF4, nn, a1, b1, f0, f1, f2, hnn, ha1, hb1⟩, ⟨tn, yv, ca, cb, cv, cd, f5, f6, f7, f8, f9, f10, hcc⟩, hw⟩, tn9, yv9, g5, g6, ht1, hy1⟩ := id hJ
  cases f5.symm.trans g5
  cases f6.symm.trans g6
  have hc1 : rr.1 = 2 ∧ ccR rr yv.toInt ca.toInt cb.toInt cv.toInt cd.toInt := by rcases hcc with h | h; exfalso; omega; exact h.2
  obtain ⟨hr2, hc2, hc3, hc4, hc5⟩ := hc1
  rw [hy1] at hc4 hc5
  have hb2 := (hb1 hr2).1
  have ha2 := ha1 (by omega)
  refine lv_lload_n hx hb (eX6_offsetInYear (0, .lload_n 1, 1) (List.mem_of_getElem? (i := 0) rfl)) rfl (lv_at hl 1 rfl) ?_
  refine lv_aload_n hx hb (eX6_offsetInYear (1, .aload_n 0, 1) (List.mem_of_getElem? (i := 1) rfl)) rfl (lv_at hl 0 rfl) ?_
  refine tz_get (r := 5) (k := 9) (t := (1, (-9223372036854775808), 9223372036854775807)) hx hb hh hru rfl rfl (hcl5 45 9 (1, (-9223372036854775808), 9223372036854775807) (by decide) rfl).1 f9 (eX6_offsetInYear (2, .getfield 45, 3) (List.mem_of_getElem? (i := 2) rfl)) ?_
  refine ff_lcmp hx hb (eX6_offsetInYear (5, .lcmp, 1) (List.mem_of_getElem? (i := 3) rfl)) (fun v1 e1 => ?_)
  refine ff_if_lt hx hb (eX6_offsetInYear (6, .ifCond .lt 7, 3) (List.mem_of_getElem? (i := 4) rfl)) (tgt := 13) rfl (fun c2 => ?_) (fun c2 => ?_)
  · skip
    refine ff_iconst hx hb (eX6_offsetInYear (13, .iconst 0, 1) (List.mem_of_getElem? (i := 7) rfl)) (by decide) (by decide) (fun v3 e3 => ?_)
    refine lv_istore_n hx hb (eX6_offsetInYear (14, .istore_n 3, 1) (List.mem_of_getElem? (i := 8) rfl)) rfl hl (by decide) rfl (fun ls4 hl4 => ?_)
    refine lv_lload_n hx hb (eX6_offsetInYear (15, .lload_n 1, 1) (List.mem_of_getElem? (i := 9) rfl)) rfl (lv_at hl4 2 rfl) ?_
    refine lv_aload_n hx hb (eX6_offsetInYear (16, .aload_n 0, 1) (List.mem_of_getElem? (i := 10) rfl)) rfl (lv_at hl4 1 rfl) ?_
    refine tz_get (r := 5) (k := 10) (t := (1, (-9223372036854775808), 9223372036854775807)) hx hb hh hru rfl rfl (hcl5 48 10 (1, (-9223372036854775808), 9223372036854775807) (by decide) rfl).1 f10 (eX6_offsetInYear (17, .getfield 48, 3) (List.mem_of_getElem? (i := 11) rfl)) ?_
    refine ff_lcmp hx hb (eX6_offsetInYear (20, .lcmp, 1) (List.mem_of_getElem? (i := 12) rfl)) (fun v5 e5 => ?_)
    refine ff_if_ge hx hb (eX6_offsetInYear (21, .ifCond .ge 7, 3) (List.mem_of_getElem? (i := 13) rfl)) (tgt := 28) rfl (fun c6 => ?_) (fun c6 => ?_)
    · skip
      refine ff_iconst hx hb (eX6_offsetInYear (28, .iconst 0, 1) (List.mem_of_getElem? (i := 16) rfl)) (by decide) (by decide) (fun v7 e7 => ?_)
      refine lv_istore hx hb (eX6_offsetInYear (29, .istore 4, 2) (List.mem_of_getElem? (i := 17) rfl)) hl4 (by decide) rfl (fun ls8 hl8 => ?_)
      refine lv_aload_n hx hb (eX6_offsetInYear (31, .aload_n 0, 1) (List.mem_of_getElem? (i := 18) rfl)) rfl (lv_at hl8 2 rfl) ?_
      refine tz_get (r := 5) (k := 9) (t := (1, (-9223372036854775808), 9223372036854775807)) hx hb hh hru rfl rfl (hcl5 45 9 (1, (-9223372036854775808), 9223372036854775807) (by decide) rfl).1 f9 (eX6_offsetInYear (32, .getfield 45, 3) (List.mem_of_getElem? (i := 19) rfl)) ?_
      refine lv_aload_n hx hb (eX6_offsetInYear (35, .aload_n 0, 1) (List.mem_of_getElem? (i := 20) rfl)) rfl (lv_at hl8 2 rfl) ?_
      refine tz_get (r := 5) (k := 10) (t := (1, (-9223372036854775808), 9223372036854775807)) hx hb hh hru rfl rfl (hcl5 48 10 (1, (-9223372036854775808), 9223372036854775807) (by decide) rfl).1 f10 (eX6_offsetInYear (36, .getfield 48, 3) (List.mem_of_getElem? (i := 21) rfl)) ?_
      refine ff_lcmp hx hb (eX6_offsetInYear (39, .lcmp, 1) (List.mem_of_getElem? (i := 22) rfl)) (fun v9 e9 => ?_)
      refine ff_if_ge hx hb (eX6_offsetInYear (40, .ifCond .ge 20, 3) (List.mem_of_getElem? (i := 23) rfl)) (tgt := 60) rfl (fun c10 => ?_) (fun c10 => ?_)
      · skip
        refine lv_iload_n hx hb (eX6_offsetInYear (60, .iload_n 3, 1) (List.mem_of_getElem? (i := 32) rfl)) rfl (lv_at hl8 1 rfl) ?_
        refine ff_if_ne hx hb (eX6_offsetInYear (61, .ifCond .ne 8, 3) (List.mem_of_getElem? (i := 33) rfl)) (tgt := 69) rfl (fun c11 => (by exfalso; omega)) (fun c11 => ?_)
        refine lv_iload hx hb (eX6_offsetInYear (64, .iload 4, 2) (List.mem_of_getElem? (i := 34) rfl)) (lv_at hl8 0 rfl) ?_
        refine ff_if_eq hx hb (eX6_offsetInYear (66, .ifCond .eq 7, 3) (List.mem_of_getElem? (i := 35) rfl)) (tgt := 73) rfl (fun c12 => ?_) (fun c12 => (by exfalso; omega))
        refine ff_iconst hx hb (eX6_offsetInYear (73, .iconst 0, 1) (List.mem_of_getElem? (i := 38) rfl)) (by decide) (by decide) (fun v13 e13 => ?_)
        refine lv_istore hx hb (eX6_offsetInYear (74, .istore 5, 2) (List.mem_of_getElem? (i := 39) rfl)) hl8 (by decide) rfl (fun ls14 hl14 => ?_)
        refine lv_iload hx hb (eX6_offsetInYear (76, .iload 5, 2) (List.mem_of_getElem? (i := 40) rfl)) (lv_at hl14 0 rfl) ?_
        refine ff_if_eq hx hb (eX6_offsetInYear (78, .ifCond .eq 10, 3) (List.mem_of_getElem? (i := 41) rfl)) (tgt := 88) rfl (fun c15 => ?_) (fun c15 => (by exfalso; omega))
        refine lv_aload_n hx hb (eX6_offsetInYear (88, .aload_n 0, 1) (List.mem_of_getElem? (i := 45) rfl)) rfl (lv_at hl14 3 rfl) ?_
        refine tz_get (r := 5) (k := 1) (t := (0, (-2147483648), 2147483647)) hx hb hh hru rfl rfl (hcl5 15 1 (0, (-2147483648), 2147483647) (by decide) rfl).1 f1 (eX6_offsetInYear (89, .getfield 15, 3) (List.mem_of_getElem? (i := 46) rfl)) ?_
        exact W.zret hx hb hr rfl (fun t ht hW => ⟨ht, _, rfl, by unfold oyF; rw [← hc4, ← hc5]; first | (rw [if_pos (inB_iff.mpr (by omega))]; omega) | (rw [if_neg (fun q => by have q9 := inB_iff.mp q; omega)]; omega)⟩) hh.2.2.1 (eX6_offsetInYear (92, .ireturn, 1) (List.mem_of_getElem? (i := 47) rfl))
      · skip
        refine lv_iload_n hx hb (eX6_offsetInYear (43, .iload_n 3, 1) (List.mem_of_getElem? (i := 24) rfl)) rfl (lv_at hl8 1 rfl) ?_
        refine ff_if_eq hx hb (eX6_offsetInYear (44, .ifCond .eq 12, 3) (List.mem_of_getElem? (i := 25) rfl)) (tgt := 56) rfl (fun c16 => ?_) (fun c16 => (by exfalso; omega))
        refine ff_iconst hx hb (eX6_offsetInYear (56, .iconst 0, 1) (List.mem_of_getElem? (i := 30) rfl)) (by decide) (by decide) (fun v17 e17 => ?_)
        refine lv_goto hx hb (eX6_offsetInYear (57, .goto 17, 3) (List.mem_of_getElem? (i := 31) rfl)) (tgt := 74) rfl ?_
        refine lv_istore hx hb (eX6_offsetInYear (74, .istore 5, 2) (List.mem_of_getElem? (i := 39) rfl)) hl8 (by decide) rfl (fun ls18 hl18 => ?_)
        refine lv_iload hx hb (eX6_offsetInYear (76, .iload 5, 2) (List.mem_of_getElem? (i := 40) rfl)) (lv_at hl18 0 rfl) ?_
        refine ff_if_eq hx hb (eX6_offsetInYear (78, .ifCond .eq 10, 3) (List.mem_of_getElem? (i := 41) rfl)) (tgt := 88) rfl (fun c19 => ?_) (fun c19 => (by exfalso; omega))
        refine lv_aload_n hx hb (eX6_offsetInYear (88, .aload_n 0, 1) (List.mem_of_getElem? (i := 45) rfl)) rfl (lv_at hl18 3 rfl) ?_
        refine tz_get (r := 5) (k := 1) (t := (0, (-2147483648), 2147483647)) hx hb hh hru rfl rfl (hcl5 15 1 (0, (-2147483648), 2147483647) (by decide) rfl).1 f1 (eX6_offsetInYear (89, .getfield 15, 3) (List.mem_of_getElem? (i := 46) rfl)) ?_
        exact W.zret hx hb hr rfl (fun t ht hW => ⟨ht, _, rfl, by unfold oyF; rw [← hc4, ← hc5]; first | (rw [if_pos (inB_iff.mpr (by omega))]; omega) | (rw [if_neg (fun q => by have q9 := inB_iff.mp q; omega)]; omega)⟩) hh.2.2.1 (eX6_offsetInYear (92, .ireturn, 1) (List.mem_of_getElem? (i := 47) rfl))
    · skip
      refine ff_iconst hx hb (eX6_offsetInYear (24, .iconst 1, 1) (List.mem_of_getElem? (i := 14) rfl)) (by decide) (by decide) (fun v20 e20 => ?_)
      refine lv_goto hx hb (eX6_offsetInYear (25, .goto 4, 3) (List.mem_of_getElem? (i := 15) rfl)) (tgt := 29) rfl ?_
      refine lv_istore hx hb (eX6_offsetInYear (29, .istore 4, 2) (List.mem_of_getElem? (i := 17) rfl)) hl4 (by decide) rfl (fun ls21 hl21 => ?_)
      refine lv_aload_n hx hb (eX6_offsetInYear (31, .aload_n 0, 1) (List.mem_of_getElem? (i := 18) rfl)) rfl (lv_at hl21 2 rfl) ?_
      refine tz_get (r := 5) (k := 9) (t := (1, (-9223372036854775808), 9223372036854775807)) hx hb hh hru rfl rfl (hcl5 45 9 (1, (-9223372036854775808), 9223372036854775807) (by decide) rfl).1 f9 (eX6_offsetInYear (32, .getfield 45, 3) (List.mem_of_getElem? (i := 19) rfl)) ?_
      refine lv_aload_n hx hb (eX6_offsetInYear (35, .aload_n 0, 1) (List.mem_of_getElem? (i := 20) rfl)) rfl (lv_at hl21 2 rfl) ?_
      refine tz_get (r := 5) (k := 10) (t := (1, (-9223372036854775808), 9223372036854775807)) hx hb hh hru rfl rfl (hcl5 48 10 (1, (-9223372036854775808), 9223372036854775807) (by decide) rfl).1 f10 (eX6_offsetInYear (36, .getfield 48, 3) (List.mem_of_getElem? (i := 21) rfl)) ?_
      refine ff_lcmp hx hb (eX6_offsetInYear (39, .lcmp, 1) (List.mem_of_getElem? (i := 22) rfl)) (fun v22 e22 => ?_)
      refine ff_if_ge hx hb (eX6_offsetInYear (40, .ifCond .ge 20, 3) (List.mem_of_getElem? (i := 23) rfl)) (tgt := 60) rfl (fun c23 => ?_) (fun c23 => ?_)
      · skip
        refine lv_iload_n hx hb (eX6_offsetInYear (60, .iload_n 3, 1) (List.mem_of_getElem? (i := 32) rfl)) rfl (lv_at hl21 1 rfl) ?_
        refine ff_if_ne hx hb (eX6_offsetInYear (61, .ifCond .ne 8, 3) (List.mem_of_getElem? (i := 33) rfl)) (tgt := 69) rfl (fun c24 => (by exfalso; omega)) (fun c24 => ?_)
        refine lv_iload hx hb (eX6_offsetInYear (64, .iload 4, 2) (List.mem_of_getElem? (i := 34) rfl)) (lv_at hl21 0 rfl) ?_
        refine ff_if_eq hx hb (eX6_offsetInYear (66, .ifCond .eq 7, 3) (List.mem_of_getElem? (i := 35) rfl)) (tgt := 73) rfl (fun c25 => (by exfalso; omega)) (fun c25 => ?_)
        refine ff_iconst hx hb (eX6_offsetInYear (69, .iconst 1, 1) (List.mem_of_getElem? (i := 36) rfl)) (by decide) (by decide) (fun v26 e26 => ?_)
        refine lv_goto hx hb (eX6_offsetInYear (70, .goto 4, 3) (List.mem_of_getElem? (i := 37) rfl)) (tgt := 74) rfl ?_
        refine lv_istore hx hb (eX6_offsetInYear (74, .istore 5, 2) (List.mem_of_getElem? (i := 39) rfl)) hl21 (by decide) rfl (fun ls27 hl27 => ?_)
        refine lv_iload hx hb (eX6_offsetInYear (76, .iload 5, 2) (List.mem_of_getElem? (i := 40) rfl)) (lv_at hl27 0 rfl) ?_
        refine ff_if_eq hx hb (eX6_offsetInYear (78, .ifCond .eq 10, 3) (List.mem_of_getElem? (i := 41) rfl)) (tgt := 88) rfl (fun c28 => (by exfalso; omega)) (fun c28 => ?_)
        refine lv_aload_n hx hb (eX6_offsetInYear (81, .aload_n 0, 1) (List.mem_of_getElem? (i := 42) rfl)) rfl (lv_at hl27 3 rfl) ?_
        refine tz_get (r := 5) (k := 2) (t := (0, (-2147483648), 2147483647)) hx hb hh hru rfl rfl (hcl5 18 2 (0, (-2147483648), 2147483647) (by decide) rfl).1 f2 (eX6_offsetInYear (82, .getfield 18, 3) (List.mem_of_getElem? (i := 43) rfl)) ?_
        refine lv_goto hx hb (eX6_offsetInYear (85, .goto 7, 3) (List.mem_of_getElem? (i := 44) rfl)) (tgt := 92) rfl ?_
        exact W.zret hx hb hr rfl (fun t ht hW => ⟨ht, _, rfl, by unfold oyF; rw [← hc4, ← hc5]; first | (rw [if_pos (inB_iff.mpr (by omega))]; omega) | (rw [if_neg (fun q => by have q9 := inB_iff.mp q; omega)]; omega)⟩) hh.2.2.1 (eX6_offsetInYear (92, .ireturn, 1) (List.mem_of_getElem? (i := 47) rfl))
      · skip
        refine lv_iload_n hx hb (eX6_offsetInYear (43, .iload_n 3, 1) (List.mem_of_getElem? (i := 24) rfl)) rfl (lv_at hl21 1 rfl) ?_
        refine ff_if_eq hx hb (eX6_offsetInYear (44, .ifCond .eq 12, 3) (List.mem_of_getElem? (i := 25) rfl)) (tgt := 56) rfl (fun c29 => ?_) (fun c29 => (by exfalso; omega))
        refine ff_iconst hx hb (eX6_offsetInYear (56, .iconst 0, 1) (List.mem_of_getElem? (i := 30) rfl)) (by decide) (by decide) (fun v30 e30 => ?_)
        refine lv_goto hx hb (eX6_offsetInYear (57, .goto 17, 3) (List.mem_of_getElem? (i := 31) rfl)) (tgt := 74) rfl ?_
        refine lv_istore hx hb (eX6_offsetInYear (74, .istore 5, 2) (List.mem_of_getElem? (i := 39) rfl)) hl21 (by decide) rfl (fun ls31 hl31 => ?_)
        refine lv_iload hx hb (eX6_offsetInYear (76, .iload 5, 2) (List.mem_of_getElem? (i := 40) rfl)) (lv_at hl31 0 rfl) ?_
        refine ff_if_eq hx hb (eX6_offsetInYear (78, .ifCond .eq 10, 3) (List.mem_of_getElem? (i := 41) rfl)) (tgt := 88) rfl (fun c32 => ?_) (fun c32 => (by exfalso; omega))
        refine lv_aload_n hx hb (eX6_offsetInYear (88, .aload_n 0, 1) (List.mem_of_getElem? (i := 45) rfl)) rfl (lv_at hl31 3 rfl) ?_
        refine tz_get (r := 5) (k := 1) (t := (0, (-2147483648), 2147483647)) hx hb hh hru rfl rfl (hcl5 15 1 (0, (-2147483648), 2147483647) (by decide) rfl).1 f1 (eX6_offsetInYear (89, .getfield 15, 3) (List.mem_of_getElem? (i := 46) rfl)) ?_
        exact W.zret hx hb hr rfl (fun t ht hW => ⟨ht, _, rfl, by unfold oyF; rw [← hc4, ← hc5]; first | (rw [if_pos (inB_iff.mpr (by omega))]; omega) | (rw [if_neg (fun q => by have q9 := inB_iff.mp q; omega)]; omega)⟩) hh.2.2.1 (eX6_offsetInYear (92, .ireturn, 1) (List.mem_of_getElem? (i := 47) rfl))
  · skip
    refine ff_iconst hx hb (eX6_offsetInYear (9, .iconst 1, 1) (List.mem_of_getElem? (i := 5) rfl)) (by decide) (by decide) (fun v33 e33 => ?_)
    refine lv_goto hx hb (eX6_offsetInYear (10, .goto 4, 3) (List.mem_of_getElem? (i := 6) rfl)) (tgt := 14) rfl ?_
    refine lv_istore_n hx hb (eX6_offsetInYear (14, .istore_n 3, 1) (List.mem_of_getElem? (i := 8) rfl)) rfl hl (by decide) rfl (fun ls34 hl34 => ?_)
    refine lv_lload_n hx hb (eX6_offsetInYear (15, .lload_n 1, 1) (List.mem_of_getElem? (i := 9) rfl)) rfl (lv_at hl34 2 rfl) ?_
    refine lv_aload_n hx hb (eX6_offsetInYear (16, .aload_n 0, 1) (List.mem_of_getElem? (i := 10) rfl)) rfl (lv_at hl34 1 rfl) ?_
    refine tz_get (r := 5) (k := 10) (t := (1, (-9223372036854775808), 9223372036854775807)) hx hb hh hru rfl rfl (hcl5 48 10 (1, (-9223372036854775808), 9223372036854775807) (by decide) rfl).1 f10 (eX6_offsetInYear (17, .getfield 48, 3) (List.mem_of_getElem? (i := 11) rfl)) ?_
    refine ff_lcmp hx hb (eX6_offsetInYear (20, .lcmp, 1) (List.mem_of_getElem? (i := 12) rfl)) (fun v35 e35 => ?_)
    refine ff_if_ge hx hb (eX6_offsetInYear (21, .ifCond .ge 7, 3) (List.mem_of_getElem? (i := 13) rfl)) (tgt := 28) rfl (fun c36 => ?_) (fun c36 => ?_)
    · skip
      refine ff_iconst hx hb (eX6_offsetInYear (28, .iconst 0, 1) (List.mem_of_getElem? (i := 16) rfl)) (by decide) (by decide) (fun v37 e37 => ?_)
      refine lv_istore hx hb (eX6_offsetInYear (29, .istore 4, 2) (List.mem_of_getElem? (i := 17) rfl)) hl34 (by decide) rfl (fun ls38 hl38 => ?_)
      refine lv_aload_n hx hb (eX6_offsetInYear (31, .aload_n 0, 1) (List.mem_of_getElem? (i := 18) rfl)) rfl (lv_at hl38 2 rfl) ?_
      refine tz_get (r := 5) (k := 9) (t := (1, (-9223372036854775808), 9223372036854775807)) hx hb hh hru rfl rfl (hcl5 45 9 (1, (-9223372036854775808), 9223372036854775807) (by decide) rfl).1 f9 (eX6_offsetInYear (32, .getfield 45, 3) (List.mem_of_getElem? (i := 19) rfl)) ?_
      refine lv_aload_n hx hb (eX6_offsetInYear (35, .aload_n 0, 1) (List.mem_of_getElem? (i := 20) rfl)) rfl (lv_at hl38 2 rfl) ?_
      refine tz_get (r := 5) (k := 10) (t := (1, (-9223372036854775808), 9223372036854775807)) hx hb hh hru rfl rfl (hcl5 48 10 (1, (-9223372036854775808), 9223372036854775807) (by decide) rfl).1 f10 (eX6_offsetInYear (36, .getfield 48, 3) (List.mem_of_getElem? (i := 21) rfl)) ?_
      refine ff_lcmp hx hb (eX6_offsetInYear (39, .lcmp, 1) (List.mem_of_getElem? (i := 22) rfl)) (fun v39 e39 => ?_)
      refine ff_if_ge hx hb (eX6_offsetInYear (40, .ifCond .ge 20, 3) (List.mem_of_getElem? (i := 23) rfl)) (tgt := 60) rfl (fun c40 => ?_) (fun c40 => ?_)
      · skip
        refine lv_iload_n hx hb (eX6_offsetInYear (60, .iload_n 3, 1) (List.mem_of_getElem? (i := 32) rfl)) rfl (lv_at hl38 1 rfl) ?_
        refine ff_if_ne hx hb (eX6_offsetInYear (61, .ifCond .ne 8, 3) (List.mem_of_getElem? (i := 33) rfl)) (tgt := 69) rfl (fun c41 => ?_) (fun c41 => (by exfalso; omega))
        refine ff_iconst hx hb (eX6_offsetInYear (69, .iconst 1, 1) (List.mem_of_getElem? (i := 36) rfl)) (by decide) (by decide) (fun v42 e42 => ?_)
        refine lv_goto hx hb (eX6_offsetInYear (70, .goto 4, 3) (List.mem_of_getElem? (i := 37) rfl)) (tgt := 74) rfl ?_
        refine lv_istore hx hb (eX6_offsetInYear (74, .istore 5, 2) (List.mem_of_getElem? (i := 39) rfl)) hl38 (by decide) rfl (fun ls43 hl43 => ?_)
        refine lv_iload hx hb (eX6_offsetInYear (76, .iload 5, 2) (List.mem_of_getElem? (i := 40) rfl)) (lv_at hl43 0 rfl) ?_
        refine ff_if_eq hx hb (eX6_offsetInYear (78, .ifCond .eq 10, 3) (List.mem_of_getElem? (i := 41) rfl)) (tgt := 88) rfl (fun c44 => (by exfalso; omega)) (fun c44 => ?_)
        refine lv_aload_n hx hb (eX6_offsetInYear (81, .aload_n 0, 1) (List.mem_of_getElem? (i := 42) rfl)) rfl (lv_at hl43 3 rfl) ?_
        refine tz_get (r := 5) (k := 2) (t := (0, (-2147483648), 2147483647)) hx hb hh hru rfl rfl (hcl5 18 2 (0, (-2147483648), 2147483647) (by decide) rfl).1 f2 (eX6_offsetInYear (82, .getfield 18, 3) (List.mem_of_getElem? (i := 43) rfl)) ?_
        refine lv_goto hx hb (eX6_offsetInYear (85, .goto 7, 3) (List.mem_of_getElem? (i := 44) rfl)) (tgt := 92) rfl ?_
        exact W.zret hx hb hr rfl (fun t ht hW => ⟨ht, _, rfl, by unfold oyF; rw [← hc4, ← hc5]; first | (rw [if_pos (inB_iff.mpr (by omega))]; omega) | (rw [if_neg (fun q => by have q9 := inB_iff.mp q; omega)]; omega)⟩) hh.2.2.1 (eX6_offsetInYear (92, .ireturn, 1) (List.mem_of_getElem? (i := 47) rfl))
      · skip
        refine lv_iload_n hx hb (eX6_offsetInYear (43, .iload_n 3, 1) (List.mem_of_getElem? (i := 24) rfl)) rfl (lv_at hl38 1 rfl) ?_
        refine ff_if_eq hx hb (eX6_offsetInYear (44, .ifCond .eq 12, 3) (List.mem_of_getElem? (i := 25) rfl)) (tgt := 56) rfl (fun c45 => (by exfalso; omega)) (fun c45 => ?_)
        refine lv_iload hx hb (eX6_offsetInYear (47, .iload 4, 2) (List.mem_of_getElem? (i := 26) rfl)) (lv_at hl38 0 rfl) ?_
        refine ff_if_eq hx hb (eX6_offsetInYear (49, .ifCond .eq 7, 3) (List.mem_of_getElem? (i := 27) rfl)) (tgt := 56) rfl (fun c46 => ?_) (fun c46 => (by exfalso; omega))
        refine ff_iconst hx hb (eX6_offsetInYear (56, .iconst 0, 1) (List.mem_of_getElem? (i := 30) rfl)) (by decide) (by decide) (fun v47 e47 => ?_)
        refine lv_goto hx hb (eX6_offsetInYear (57, .goto 17, 3) (List.mem_of_getElem? (i := 31) rfl)) (tgt := 74) rfl ?_
        refine lv_istore hx hb (eX6_offsetInYear (74, .istore 5, 2) (List.mem_of_getElem? (i := 39) rfl)) hl38 (by decide) rfl (fun ls48 hl48 => ?_)
        refine lv_iload hx hb (eX6_offsetInYear (76, .iload 5, 2) (List.mem_of_getElem? (i := 40) rfl)) (lv_at hl48 0 rfl) ?_
        refine ff_if_eq hx hb (eX6_offsetInYear (78, .ifCond .eq 10, 3) (List.mem_of_getElem? (i := 41) rfl)) (tgt := 88) rfl (fun c49 => ?_) (fun c49 => (by exfalso; omega))
        refine lv_aload_n hx hb (eX6_offsetInYear (88, .aload_n 0, 1) (List.mem_of_getElem? (i := 45) rfl)) rfl (lv_at hl48 3 rfl) ?_
        refine tz_get (r := 5) (k := 1) (t := (0, (-2147483648), 2147483647)) hx hb hh hru rfl rfl (hcl5 15 1 (0, (-2147483648), 2147483647) (by decide) rfl).1 f1 (eX6_offsetInYear (89, .getfield 15, 3) (List.mem_of_getElem? (i := 46) rfl)) ?_
        exact W.zret hx hb hr rfl (fun t ht hW => ⟨ht, _, rfl, by unfold oyF; rw [← hc4, ← hc5]; first | (rw [if_pos (inB_iff.mpr (by omega))]; omega) | (rw [if_neg (fun q => by have q9 := inB_iff.mp q; omega)]; omega)⟩) hh.2.2.1 (eX6_offsetInYear (92, .ireturn, 1) (List.mem_of_getElem? (i := 47) rfl))
    · skip
      refine ff_iconst hx hb (eX6_offsetInYear (24, .iconst 1, 1) (List.mem_of_getElem? (i := 14) rfl)) (by decide) (by decide) (fun v50 e50 => ?_)
      refine lv_goto hx hb (eX6_offsetInYear (25, .goto 4, 3) (List.mem_of_getElem? (i := 15) rfl)) (tgt := 29) rfl ?_
      refine lv_istore hx hb (eX6_offsetInYear (29, .istore 4, 2) (List.mem_of_getElem? (i := 17) rfl)) hl34 (by decide) rfl (fun ls51 hl51 => ?_)
      refine lv_aload_n hx hb (eX6_offsetInYear (31, .aload_n 0, 1) (List.mem_of_getElem? (i := 18) rfl)) rfl (lv_at hl51 2 rfl) ?_
      refine tz_get (r := 5) (k := 9) (t := (1, (-9223372036854775808), 9223372036854775807)) hx hb hh hru rfl rfl (hcl5 45 9 (1, (-9223372036854775808), 9223372036854775807) (by decide) rfl).1 f9 (eX6_offsetInYear (32, .getfield 45, 3) (List.mem_of_getElem? (i := 19) rfl)) ?_
      refine lv_aload_n hx hb (eX6_offsetInYear (35, .aload_n 0, 1) (List.mem_of_getElem? (i := 20) rfl)) rfl (lv_at hl51 2 rfl) ?_
      refine tz_get (r := 5) (k := 10) (t := (1, (-9223372036854775808), 9223372036854775807)) hx hb hh hru rfl rfl (hcl5 48 10 (1, (-9223372036854775808), 9223372036854775807) (by decide) rfl).1 f10 (eX6_offsetInYear (36, .getfield 48, 3) (List.mem_of_getElem? (i := 21) rfl)) ?_
      refine ff_lcmp hx hb (eX6_offsetInYear (39, .lcmp, 1) (List.mem_of_getElem? (i := 22) rfl)) (fun v52 e52 => ?_)
      refine ff_if_ge hx hb (eX6_offsetInYear (40, .ifCond .ge 20, 3) (List.mem_of_getElem? (i := 23) rfl)) (tgt := 60) rfl (fun c53 => ?_) (fun c53 => ?_)
      · skip
        refine lv_iload_n hx hb (eX6_offsetInYear (60, .iload_n 3, 1) (List.mem_of_getElem? (i := 32) rfl)) rfl (lv_at hl51 1 rfl) ?_
        refine ff_if_ne hx hb (eX6_offsetInYear (61, .ifCond .ne 8, 3) (List.mem_of_getElem? (i := 33) rfl)) (tgt := 69) rfl (fun c54 => ?_) (fun c54 => (by exfalso; omega))
        refine ff_iconst hx hb (eX6_offsetInYear (69, .iconst 1, 1) (List.mem_of_getElem? (i := 36) rfl)) (by decide) (by decide) (fun v55 e55 => ?_)
        refine lv_goto hx hb (eX6_offsetInYear (70, .goto 4, 3) (List.mem_of_getElem? (i := 37) rfl)) (tgt := 74) rfl ?_
        refine lv_istore hx hb (eX6_offsetInYear (74, .istore 5, 2) (List.mem_of_getElem? (i := 39) rfl)) hl51 (by decide) rfl (fun ls56 hl56 => ?_)
        refine lv_iload hx hb (eX6_offsetInYear (76, .iload 5, 2) (List.mem_of_getElem? (i := 40) rfl)) (lv_at hl56 0 rfl) ?_
        refine ff_if_eq hx hb (eX6_offsetInYear (78, .ifCond .eq 10, 3) (List.mem_of_getElem? (i := 41) rfl)) (tgt := 88) rfl (fun c57 => (by exfalso; omega)) (fun c57 => ?_)
        refine lv_aload_n hx hb (eX6_offsetInYear (81, .aload_n 0, 1) (List.mem_of_getElem? (i := 42) rfl)) rfl (lv_at hl56 3 rfl) ?_
        refine tz_get (r := 5) (k := 2) (t := (0, (-2147483648), 2147483647)) hx hb hh hru rfl rfl (hcl5 18 2 (0, (-2147483648), 2147483647) (by decide) rfl).1 f2 (eX6_offsetInYear (82, .getfield 18, 3) (List.mem_of_getElem? (i := 43) rfl)) ?_
        refine lv_goto hx hb (eX6_offsetInYear (85, .goto 7, 3) (List.mem_of_getElem? (i := 44) rfl)) (tgt := 92) rfl ?_
        exact W.zret hx hb hr rfl (fun t ht hW => ⟨ht, _, rfl, by unfold oyF; rw [← hc4, ← hc5]; first | (rw [if_pos (inB_iff.mpr (by omega))]; omega) | (rw [if_neg (fun q => by have q9 := inB_iff.mp q; omega)]; omega)⟩) hh.2.2.1 (eX6_offsetInYear (92, .ireturn, 1) (List.mem_of_getElem? (i := 47) rfl))
      · skip
        refine lv_iload_n hx hb (eX6_offsetInYear (43, .iload_n 3, 1) (List.mem_of_getElem? (i := 24) rfl)) rfl (lv_at hl51 1 rfl) ?_
        refine ff_if_eq hx hb (eX6_offsetInYear (44, .ifCond .eq 12, 3) (List.mem_of_getElem? (i := 25) rfl)) (tgt := 56) rfl (fun c58 => (by exfalso; omega)) (fun c58 => ?_)
        refine lv_iload hx hb (eX6_offsetInYear (47, .iload 4, 2) (List.mem_of_getElem? (i := 26) rfl)) (lv_at hl51 0 rfl) ?_
        refine ff_if_eq hx hb (eX6_offsetInYear (49, .ifCond .eq 7, 3) (List.mem_of_getElem? (i := 27) rfl)) (tgt := 56) rfl (fun c59 => (by exfalso; omega)) (fun c59 => ?_)
        refine ff_iconst hx hb (eX6_offsetInYear (52, .iconst 1, 1) (List.mem_of_getElem? (i := 28) rfl)) (by decide) (by decide) (fun v60 e60 => ?_)
        refine lv_goto hx hb (eX6_offsetInYear (53, .goto 21, 3) (List.mem_of_getElem? (i := 29) rfl)) (tgt := 74) rfl ?_
        refine lv_istore hx hb (eX6_offsetInYear (74, .istore 5, 2) (List.mem_of_getElem? (i := 39) rfl)) hl51 (by decide) rfl (fun ls61 hl61 => ?_)
        refine lv_iload hx hb (eX6_offsetInYear (76, .iload 5, 2) (List.mem_of_getElem? (i := 40) rfl)) (lv_at hl61 0 rfl) ?_
        refine ff_if_eq hx hb (eX6_offsetInYear (78, .ifCond .eq 10, 3) (List.mem_of_getElem? (i := 41) rfl)) (tgt := 88) rfl (fun c62 => (by exfalso; omega)) (fun c62 => ?_)
        refine lv_aload_n hx hb (eX6_offsetInYear (81, .aload_n 0, 1) (List.mem_of_getElem? (i := 42) rfl)) rfl (lv_at hl61 3 rfl) ?_
        refine tz_get (r := 5) (k := 2) (t := (0, (-2147483648), 2147483647)) hx hb hh hru rfl rfl (hcl5 18 2 (0, (-2147483648), 2147483647) (by decide) rfl).1 f2 (eX6_offsetInYear (82, .getfield 18, 3) (List.mem_of_getElem? (i := 43) rfl)) ?_
        refine lv_goto hx hb (eX6_offsetInYear (85, .goto 7, 3) (List.mem_of_getElem? (i := 44) rfl)) (tgt := 92) rfl ?_
        exact W.zret hx hb hr rfl (fun t ht hW => ⟨ht, _, rfl, by unfold oyF; rw [← hc4, ← hc5]; first | (rw [if_pos (inB_iff.mpr (by omega))]; omega) | (rw [if_neg (fun q => by have q9 := inB_iff.mp q; omega)]; omega)⟩) hh.2.2.1 (eX6_offsetInYear (92, .ireturn, 1) (List.mem_of_getElem? (i := 47) rfl))
theorem mmF_bd {ys lp : Int} {d : rD} (h : dW d) (h1 : -1000000000 ≤ ys) (h2 : ys ≤ 1000000000) : 1440 * ys - 20000 ≤ mmF ys lp d ∧ mmF ys lp d ≤ 1440 * ys + 1000000 := by
  have hp := plF_bd (ys := ys) (lp := lp) h
  have hb := h.2
  unfold mmF
  omega
