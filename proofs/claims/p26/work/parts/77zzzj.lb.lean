set_option maxRecDepth 100000 in
set_option maxHeartbeats 4000000 in
theorem hX12_listBegins (l : Launch) (D : va_G) (cA : Nat → ClassId) (ro : Nat → Option Nat) (sz : Nat) (H0 : Heap) (a : Nat) (zi : Int32) (ab : Int64) (be : Int64) (L : List Int) (Z : List zE) (R : List rU) (i0 : Nat) (ze : zE) (rr : rU) (ha : ro a = some 11) (hi0 : zi.toInt = (i0 : Int)) (hze : Z[i0]? = some ze) (hrr : R[i0]? = some rr) (ha1 : -32000000000000 ≤ ab.toInt) (ha2 : ab.toInt ≤ 32000000000000) : Met l yX12_listBegins (gW yX12_listBegins cX12_listBegins 10 none) { frames := 7, cells := 0, slots := 0, locals := 191 } (zs_P D cA ro sz H0 (fun H => jRY D cA ro H a L (Z, R)) [.ref a, .int zi, .long ab, .long be]) (fun _ st oc t => oc = .returned none ∧ zh_ok D cA RTg ro sz H0 t.heap [] ∧ zc_kept D RTg ro lbM st.heap t.heap ∧ ∃ B : List Int, jBg D cA ro t.heap a B ∧ B.length ≤ 93 ∧ ∀ x, x ∈ B ↔ cdG L ze rr ab.toInt x ∧ bgC L ze rr ab.toInt be.toInt x) 0 0 (zy_fr sz) := by
  refine zy_ofW (cc := cX12_listBegins) (maxL := 10) (ret := none) (by decide +kernel) rfl ?_
  intro p e s m args below meth c s1 B hml hv
  obtain ⟨rfl, hh, hKn, hJ⟩ := hv
  have hx := B.exec
  have hb := B.bytes
  have hr := B.returns
  have hlk := B.notSynchronized
  have hts0 := atoms_spec (ws := gW yX12_listBegins cX12_listBegins 10 none) B.pre
  have h2 : ∀ w ∈ gT, w.before ([.ref a, .int zi, .long ab, .long be] : List Value).toArray s = true := fun w hw => hts0 w (List.mem_cons_of_mem _ hw)
  have hown : s.vm.findClass RX12 = some m.cls := findClass_of_methodNamed B.named
  have hl := lv_entry [.ref a, .int zi, .long ab, .long be] (n := 10) (Nat.le_of_ble_eq_true rfl)
  rw [lg_entry_eq]
  generalize (lg_sl [.ref a, .int zi, .long ab, .long be] ++ List.replicate (10 - (lg_sl [.ref a, .int zi, .long ab, .long be]).length) Slot.unset).toArray = ls at hl ⊢
  have b_zi := zn_i32 zi
  have b_ab := zn_i64 ab
  have b_be := zn_i64 be
  have hD := zD_all h2 hKn.1
  have hcl11 := fun (idx k : Nat) (t : zt_T) (h : (idx, 11, k) ∈ gfX12) (hk : fsX12[k]? = some t) => zf_clause (ro := ro) (ms := lbM) h2 hown hKn.1 gfX12_ok (by decide +kernel) idx 11 k 11 0 fsX12 t h rfl hk
  have kp0 : zc_kept D RTg ro lbM s.heap s.heap := zc_kept.refl
  obtain ⟨hJz, hJq, hRl, hsr⟩ := id hJ
  have hJz : jRZ D cA ro s.heap a L Z := hJz
  have hJq : jRQ D cA ro s.heap a R := hJq
  have hRl : R.length = Z.length := hRl
  have hsr : ∀ e ∈ Z, srt e.2 := hsr
  obtain ⟨⟨la, n, z, fq2, r0, fq1, hn, hc, hz⟩, ⟨a4, a5, a6, a7, zq4, zq5, zq6, zq7, nz, ⟨fq4, rq4, cq4⟩, ⟨fq5, rq5, cq5⟩, ⟨fq6, rq6, cq6⟩, ⟨fq7, rq7, cq7⟩, fq3, hnz, hp⟩, hjl, hzw⟩ := id hJz
  have hjr := hJz.1
  have hjL := hjl.2.1
  have hzw1 := hzw.1
  obtain ⟨n9, g9, n1, n2⟩ := zh_fT (k := 1) (t := (0, 0, 40)) hh ha (show RTg[11]? = some (0, 11, 0, fsX12) from rfl) rfl
  cases fq1.symm.trans g9
  dsimp only at n1 n2
  clear g9
  obtain ⟨n9, g9, nz1, nz2⟩ := zh_fT (k := 3) (t := (0, 0, 8)) hh ha (show RTg[11]? = some (0, 11, 0, fsX12) from rfl) rfl
  cases fq3.symm.trans g9
  dsimp only at nz1 nz2
  clear g9
  obtain ⟨-, xla, dla, hla⟩ := zh_arr hh r0 (show RTg[21]? = some (1, 1, 40, [(1, (-9223372036854775808), 9223372036854775807)]) from rfl)
  have hyla : ∀ i, i < 40 → zt_ok ro (z i) (1, (-9223372036854775808), 9223372036854775807) := zs_arr (hc.symm.trans dla) hla
  obtain ⟨-, xa4, da4, ha4⟩ := zh_arr hh rq4 (show RTg[22]? = some (1, 0, 8, [(0, (-1439), 1439)]) from rfl)
  have hya4 : ∀ i, i < 8 → zt_ok ro (zq4 i) (0, (-1439), 1439) := zs_arr (cq4.symm.trans da4) ha4
  obtain ⟨-, xa5, da5, ha5⟩ := zh_arr hh rq5 (show RTg[23]? = some (1, 0, 8, [(0, 0, 60)]) from rfl)
  have hya5 : ∀ i, i < 8 → zt_ok ro (zq5 i) (0, 0, 60) := zs_arr (cq5.symm.trans da5) ha5
  obtain ⟨-, xa6, da6, ha6⟩ := zh_arr hh rq6 (show RTg[24]? = some (1, 1, 480, [(1, (-100000000000000), 100000000000000)]) from rfl)
  have hya6 : ∀ i, i < 480 → zt_ok ro (zq6 i) (1, (-100000000000000), 100000000000000) := zs_arr (cq6.symm.trans da6) ha6
  obtain ⟨-, xa7, da7, ha7⟩ := zh_arr hh rq7 (show RTg[25]? = some (1, 0, 480, [(0, (-1439), 1439)]) from rfl)
  have hya7 : ∀ i, i < 480 → zt_ok ro (zq7 i) (0, (-1439), 1439) := zs_arr (cq7.symm.trans da7) ha7
  obtain ⟨b8, b9, bA, bB, z8, z9, zA, zB, ⟨fq8, rq8, cq8⟩, ⟨fq9, rq9, cq9⟩, ⟨fqA, rqA, cqA⟩, ⟨fqB, rqB, cqB⟩, hrp, hrw⟩ := id hJq
  obtain ⟨-, xb8, db8, hb8⟩ := zh_arr hh rq8 (show RTg[26]? = some (1, 0, 8, [(0, 0, 2)]) from rfl)
  have hyb8 : ∀ i, i < 8 → zt_ok ro (z8 i) (0, 0, 2) := zs_arr (cq8.symm.trans db8) hb8
  obtain ⟨-, xb9, db9, hb9⟩ := zh_arr hh rq9 (show RTg[27]? = some (1, 0, 8, [(0, (-1000000), 1000000)]) from rfl)
  have hyb9 : ∀ i, i < 8 → zt_ok ro (z9 i) (0, (-1000000), 1000000) := zs_arr (cq9.symm.trans db9) hb9
  obtain ⟨-, xbA, dbA, hbA⟩ := zh_arr hh rqA (show RTg[28]? = some (1, 0, 8, [(0, (-1000000), 1000000)]) from rfl)
  have hybA : ∀ i, i < 8 → zt_ok ro (zA i) (0, (-1000000), 1000000) := zs_arr (cqA.symm.trans dbA) hbA
  obtain ⟨-, xbB, dbB, hbB⟩ := zh_arr hh rqB (show RTg[29]? = some (1, 0, 80, [(0, (-1000000), 1000000)]) from rfl)
  have hybB : ∀ i, i < 80 → zt_ok ro (zB i) (0, (-1000000), 1000000) := zs_arr (cqB.symm.trans dbB) hbB
  have hlt := (List.getElem?_eq_some_iff.mp hze).1
  have hle := hzw.2 ze (List.mem_of_getElem? hze)
  obtain ⟨⟨k4, ez4, hk4⟩, ⟨nc, ez5, hnc⟩, hcN⟩ := hp i0 ze hze
  obtain ⟨⟨nn, ez8, hnn⟩, hz9, hzA⟩ := hrp i0 rr hrr
  have hwr := hrw rr (List.mem_of_getElem? hrr)
  have hwN := hwr.1
  have hwC := hwr.2.1
  have hi8 : i0 < 8 := by omega
  refine lv_aload_n hx hb (eX12_listBegins (0, .aload_n 0, 1) (List.mem_of_getElem? (i := 0) rfl)) rfl (lv_at hl 0 rfl) ?_
  refine lv_iload_n hx hb (eX12_listBegins (1, .iload_n 1, 1) (List.mem_of_getElem? (i := 1) rfl)) rfl (lv_at hl 1 rfl) ?_
  refine tz_put (r := 11) (k := 28) (t := (0, 0, 7)) hx hb hD hh ha rfl rfl ((hcl11 256 28 (0, 0, 7) (by decide) rfl).2 (by decide)) (tz_i (by omega) (by omega)) (eX12_listBegins (2, .putfield 256, 3) (List.mem_of_getElem? (i := 2) rfl)) (fun H1 lo1 hh1 hf1 hk1 _ hq1 => ?_)
  have mf1_a_5 := (hk1.1 a 11 5 11 0 fsX12 ha rfl (by decide) (by decide)).trans fq5
  have mf1_a_6 := (hk1.1 a 11 6 11 0 fsX12 ha rfl (by decide) (by decide)).trans fq6
  have mf1_a_8 := (hk1.1 a 11 8 11 0 fsX12 ha rfl (by decide) (by decide)).trans fq8
  have mf1_a_9 := (hk1.1 a 11 9 11 0 fsX12 ha rfl (by decide) (by decide)).trans fq9
  have mf1_a_10 := (hk1.1 a 11 10 11 0 fsX12 ha rfl (by decide) (by decide)).trans fqA
  have mf1_a_11 := (hk1.1 a 11 11 11 0 fsX12 ha rfl (by decide) (by decide)).trans fqB
  have mc1_a5 := (hk1.2 a5 23 0 0 8 _ rq5 rfl (by decide)).trans cq5
  have mc1_a6 := (hk1.2 a6 24 0 1 480 _ rq6 rfl (by decide)).trans cq6
  have mc1_b8 := (hk1.2 b8 26 0 0 8 _ rq8 rfl (by decide)).trans cq8
  have mc1_b9 := (hk1.2 b9 27 0 0 8 _ rq9 rfl (by decide)).trans cq9
  have mc1_bA := (hk1.2 bA 28 0 0 8 _ rqA rfl (by decide)).trans cqA
  have mc1_bB := (hk1.2 bB 29 0 0 80 _ rqB rfl (by decide)).trans cqB
  have kp1 := kp0.trans (hk1.mono (ms' := lbM) (fun x hx => by cases List.mem_singleton.mp hx; decide))
  have jy1 := hJ.kept ha hk1 (by decide)
  refine lv_aload_n hx hb (eX12_listBegins (5, .aload_n 0, 1) (List.mem_of_getElem? (i := 3) rfl)) rfl (lv_at hl 0 rfl) ?_
  refine ff_iconst hx hb (eX12_listBegins (6, .iconst 0, 1) (List.mem_of_getElem? (i := 4) rfl)) (by decide) (by decide) (fun v2 e2 => ?_)
  refine tz_put (r := 11) (k := 27) (t := (0, 0, 128)) hx hb hD hh1 ha rfl rfl ((hcl11 253 27 (0, 0, 128) (by decide) rfl).2 (by decide)) (tz_i (by omega) (by omega)) (eX12_listBegins (7, .putfield 253, 3) (List.mem_of_getElem? (i := 5) rfl)) (fun H3 lo3 hh3 hf3 hk3 _ hq3 => ?_)
  have mf3_a_5 := (hk3.1 a 11 5 11 0 fsX12 ha rfl (by decide) (by decide)).trans mf1_a_5
  have mf3_a_6 := (hk3.1 a 11 6 11 0 fsX12 ha rfl (by decide) (by decide)).trans mf1_a_6
  have mf3_a_8 := (hk3.1 a 11 8 11 0 fsX12 ha rfl (by decide) (by decide)).trans mf1_a_8
  have mf3_a_9 := (hk3.1 a 11 9 11 0 fsX12 ha rfl (by decide) (by decide)).trans mf1_a_9
  have mf3_a_10 := (hk3.1 a 11 10 11 0 fsX12 ha rfl (by decide) (by decide)).trans mf1_a_10
  have mf3_a_11 := (hk3.1 a 11 11 11 0 fsX12 ha rfl (by decide) (by decide)).trans mf1_a_11
  have mf3_a_28 := (hk3.1 a 11 28 11 0 fsX12 ha rfl (by decide) (by decide)).trans hf1
  have mc3_a5 := (hk3.2 a5 23 0 0 8 _ rq5 rfl (by decide)).trans mc1_a5
  have mc3_a6 := (hk3.2 a6 24 0 1 480 _ rq6 rfl (by decide)).trans mc1_a6
  have mc3_b8 := (hk3.2 b8 26 0 0 8 _ rq8 rfl (by decide)).trans mc1_b8
  have mc3_b9 := (hk3.2 b9 27 0 0 8 _ rq9 rfl (by decide)).trans mc1_b9
  have mc3_bA := (hk3.2 bA 28 0 0 8 _ rqA rfl (by decide)).trans mc1_bA
  have mc3_bB := (hk3.2 bB 29 0 0 80 _ rqB rfl (by decide)).trans mc1_bB
  have kp3 := kp1.trans (hk3.mono (ms' := lbM) (fun x hx => by cases List.mem_singleton.mp hx; decide))
  have jy3 := jy1.kept ha hk3 (by decide)
  obtain ⟨ag, fag, rag⟩ := tz_ref (k := 26) (rr := 34) hh3 ha (show RTg[11]? = some (0, 11, 0, fsX12) from rfl) rfl
  obtain ⟨-, zg, cag, -⟩ := zh_arr hh3 rag (show RTg[34]? = some (1, 1, 128, [(1, (-100000000000000), 100000000000000)]) from rfl)
  have jb0 : jBg D cA ro H3 a [] := ⟨ag, zg, _, fag, rag, cag, hf3, by show _ = ((0 : Nat) : Int); omega, fun i hi => absurd hi (Nat.not_lt_zero _)⟩
  refine ff_bipush hx hb (eX12_listBegins (10, .bipush 60, 2) (List.mem_of_getElem? (i := 6) rfl)) (by decide) (by decide) (fun v4 e4 => ?_)
  refine lv_iload_n hx hb (eX12_listBegins (12, .iload_n 1, 1) (List.mem_of_getElem? (i := 7) rfl)) rfl (lv_at hl 1 rfl) ?_
  refine ff_imulL hx hb (eX12_listBegins (13, .imul, 1) (List.mem_of_getElem? (i := 8) rfl)) (e4) (by omega) (by omega) (fun v5 e5 => ?_)
  refine lv_istore hx hb (eX12_listBegins (14, .istore 6, 2) (List.mem_of_getElem? (i := 9) rfl)) hl (by decide) rfl (fun ls6 hl6 => ?_)
  have loop : ∀ (n0 i : Nat) (iv : Int32) (B : List Int) (ls : Array Slot) (H : Heap) (lo0 : List Loc), i + n0 = ze.2.length → iv.toInt = 60 * (i0 : Int) + (i : Int) → B.length ≤ i → (∀ x, x ∈ B ↔ (∃ c ∈ ze.2.take i, c.1 = x) ∧ bgC L ze rr ab.toInt be.toInt x) → zh_ok D cA RTg ro sz H0 H lo0 → zc_kept D RTg ro lbM s.heap H → jRY D cA ro H a L (Z, R) → jBg D cA ro H a B → zh_f D H a 11 28 = .int zi → zh_f D H a 11 5 = .ref a5 → zh_f D H a 11 6 = .ref a6 → zh_f D H a 11 8 = .ref b8 → zh_f D H a 11 9 = .ref b9 → zh_f D H a 11 10 = .ref bA → zh_f D H a 11 11 = .ref bB → H[a5]? = some (arrV (cA 0) 8 zq5) → H[a6]? = some (arrV (cA 1) 480 zq6) → H[b8]? = some (arrV (cA 0) 8 z8) → H[b9]? = some (arrV (cA 0) 8 z9) → H[bA]? = some (arrV (cA 0) 8 zA) → H[bB]? = some (arrV (cA 0) 80 zB) → lv_has ls 10 [(6, .int iv), (0, .ref a), (1, .int zi), (2, .long ab), (4, .long be)] → W p l e (headSpec (gW yX12_listBegins cX12_listBegins 10 none) { frames := 7, cells := 0, slots := 0, locals := 191 }).room s m ([.ref a, .int zi, .long ab, .long be] : List Value).toArray below meth c H lo0 0 0 (MQ below (fun _ st oc t => oc = .returned none ∧ zh_ok D cA RTg ro sz H0 t.heap [] ∧ zc_kept D RTg ro lbM st.heap t.heap ∧ ∃ B : List Int, jBg D cA ro t.heap a B ∧ B.length ≤ 93 ∧ ∀ x, x ∈ B ↔ cdG L ze rr ab.toInt x ∧ bgC L ze rr ab.toInt be.toInt x) ([.ref a, .int zi, .long ab, .long be] : List Value).toArray s 0 0 (zy_fr sz)) (F0 m 16 ls []) := by
    intro n0
    induction n0 with
    | zero =>
      intro i iv B ls H lo0 hi hiv hBi hbs hh0 kpl jyl jbl f28l lf5 lf6 lf8 lf9 lf10 lf11 lca5 lca6 lcb8 lcb9 lcbA lcbB hl
      refine lv_iload hx hb (eX12_listBegins (16, .iload 6, 2) (List.mem_of_getElem? (i := 10) rfl)) (lv_at hl 0 rfl) ?_
      refine ff_bipush hx hb (eX12_listBegins (18, .bipush 60, 2) (List.mem_of_getElem? (i := 11) rfl)) (by decide) (by decide) (fun v7 e7 => ?_)
      refine lv_iload_n hx hb (eX12_listBegins (20, .iload_n 1, 1) (List.mem_of_getElem? (i := 12) rfl)) rfl (lv_at hl 2 rfl) ?_
      refine ff_imulL hx hb (eX12_listBegins (21, .imul, 1) (List.mem_of_getElem? (i := 13) rfl)) (e7) (by omega) (by omega) (fun v8 e8 => ?_)
      refine lv_aload_n hx hb (eX12_listBegins (22, .aload_n 0, 1) (List.mem_of_getElem? (i := 14) rfl)) rfl (lv_at hl 1 rfl) ?_
      refine tz_get (r := 11) (k := 5) (t := (50, 0, 0)) hx hb hh0 ha rfl rfl (hcl11 19 5 (50, 0, 0) (by decide) rfl).1 lf5 (eX12_listBegins (23, .getfield 19, 3) (List.mem_of_getElem? (i := 15) rfl)) ?_
      refine lv_iload_n hx hb (eX12_listBegins (26, .iload_n 1, 1) (List.mem_of_getElem? (i := 16) rfl)) rfl (lv_at hl 2 rfl) ?_
      refine tz_iald hx hb (zAr hKn.1 0 (by decide)) lca5 (by omega) (by omega) (eX12_listBegins (27, .iaload, 1) (List.mem_of_getElem? (i := 17) rfl)) ?_
      rw [show zi.toNatClampNeg = i0 by show zi.toInt.toNat = _; omega, ez5]
      refine ff_iadd hx hb (eX12_listBegins (28, .iadd, 1) (List.mem_of_getElem? (i := 18) rfl)) (by omega) (by omega) (fun v9 e9 => ?_)
      refine ff_icmp_ge hx hb (eX12_listBegins (29, .if_icmp .ge 23, 3) (List.mem_of_getElem? (i := 19) rfl)) (tgt := 52) rfl (fun c10 => ?_) (fun c10 => (by exfalso; omega))
      rw [List.take_of_length_le (show ze.2.length ≤ i by omega)] at hbs
      refine lv_aload_n hx hb (eX12_listBegins (52, .aload_n 0, 1) (List.mem_of_getElem? (i := 30) rfl)) rfl (lv_at hl 1 rfl) ?_
      refine tz_get (r := 11) (k := 8) (t := (56, 0, 0)) hx hb hh0 ha rfl rfl (hcl11 28 8 (56, 0, 0) (by decide) rfl).1 lf8 (eX12_listBegins (53, .getfield 28, 3) (List.mem_of_getElem? (i := 31) rfl)) ?_
      refine lv_iload_n hx hb (eX12_listBegins (56, .iload_n 1, 1) (List.mem_of_getElem? (i := 32) rfl)) rfl (lv_at hl 2 rfl) ?_
      refine tz_iald hx hb (zAr hKn.1 0 (by decide)) lcb8 (by omega) (by omega) (eX12_listBegins (57, .iaload, 1) (List.mem_of_getElem? (i := 33) rfl)) ?_
      rw [show zi.toNatClampNeg = i0 by show zi.toInt.toNat = _; omega, ez8]
      refine ff_iconst hx hb (eX12_listBegins (58, .iconst 2, 1) (List.mem_of_getElem? (i := 34) rfl)) (by decide) (by decide) (fun v11 e11 => ?_)
      refine ff_icmp_ge hx hb (eX12_listBegins (59, .if_icmp .ge 4, 3) (List.mem_of_getElem? (i := 35) rfl)) (tgt := 63) rfl (fun c12 => ?_) (fun c12 => ?_)
      · skip
        have hr2 : rr.1 = 2 := by omega
        obtain ⟨na, ez9, hna⟩ := hz9 (by omega)
        obtain ⟨⟨nb, ezA, hnb⟩, hdn0, hdn1⟩ := hzA hr2
        obtain ⟨⟨hwB1, hwB2⟩, hdw0, hdw1⟩ := hwr.2.2.2 hr2
        have hwA : -1439 ≤ rr.2.1 ∧ rr.2.1 ≤ 1439 := hwr.2.2.1 (by omega)
        refine lv_aload_n hx hb (eX12_listBegins (63, .aload_n 0, 1) (List.mem_of_getElem? (i := 37) rfl)) rfl (lv_at hl 1 rfl) ?_
        refine lv_lload_n hx hb (eX12_listBegins (64, .lload_n 2, 1) (List.mem_of_getElem? (i := 38) rfl)) rfl (lv_at hl 3 rfl) ?_
        refine tz_rowV (As := [.long ab]) (st := []) (b := a) (C := RX12) (Ts := gT) hx hb hml hown h2 (fun _ h => h) (hX12_read0 l D cA ro sz H0 a ab L ha (by omega) (by omega)) ⟨rfl, rfl⟩ ⟨by decide, by decide⟩ ⟨by decide, by decide⟩ (tb_7 145 rfl rfl) (tb_1 12 rfl rfl) (tb_7 142 rfl rfl) (tb_7 144 rfl rfl) (tb_0 14 rfl rfl) (show yX12_read0.cls ≠ "java/lang/invoke/MethodHandle" ∧ yX12_read0.cls ≠ "java/lang/invoke/VarHandle" ∧ (parseMethodDescriptor yX12_read0.desc).map (fun d => d.parameters.length) = some 1 by decide +kernel) zs_blind (zs_ob hh0 ha (show RTg[11]? = some (0, 11, 0, fsX12) from rfl) (zCX12 hKn.1)) (fun U hU hW => ⟨rfl, by rw [hU]; exact hh0.l0, zKb s U hW.alike hKn, by rw [hU]; exact jyl.1.1⟩) hh0.2.2.1 hl.1 (Nat.le_of_ble_eq_true rfl) (eX12_listBegins (65, .invokevirtual 210, 3) (List.mem_of_getElem? (i := 39) rfl)) (fun r13 s13 t13 lo13 g13 f13 l13 => ?_)
        obtain ⟨q13, z13, c13, M7, S7, fM, -, hrd, -⟩ := f13
        cases q13
        rw [g13] at c13
        have hh13 : zh_ok D cA RTg ro sz H0 t13.heap lo13 := ⟨z13.1, z13.2.1, l13, z13.2.2.2⟩
        have kp13 := kpl.trans (c13.mono (ms' := lbM) (by decide))
        have hmm := mtI_eq hjL hrd
        have hmb := mtI_bd hjL ha1 ha2
        rw [← hmm] at hmb
        have jy13 := jyl.kept ha c13 (by decide)
        have jb13 := jbl.kept ha c13 (by decide)
        have mf13_a_28 := (c13.1 a 11 28 11 0 fsX12 ha rfl (by decide) (by decide)).trans f28l
        have mf13_a_5 := (c13.1 a 11 5 11 0 fsX12 ha rfl (by decide) (by decide)).trans lf5
        have mf13_a_6 := (c13.1 a 11 6 11 0 fsX12 ha rfl (by decide) (by decide)).trans lf6
        have mf13_a_8 := (c13.1 a 11 8 11 0 fsX12 ha rfl (by decide) (by decide)).trans lf8
        have mf13_a_9 := (c13.1 a 11 9 11 0 fsX12 ha rfl (by decide) (by decide)).trans lf9
        have mf13_a_10 := (c13.1 a 11 10 11 0 fsX12 ha rfl (by decide) (by decide)).trans lf10
        have mf13_a_11 := (c13.1 a 11 11 11 0 fsX12 ha rfl (by decide) (by decide)).trans lf11
        have mc13_a5 := (c13.2 a5 23 0 0 8 _ rq5 rfl (by decide)).trans lca5
        have mc13_a6 := (c13.2 a6 24 0 1 480 _ rq6 rfl (by decide)).trans lca6
        have mc13_b8 := (c13.2 b8 26 0 0 8 _ rq8 rfl (by decide)).trans lcb8
        have mc13_b9 := (c13.2 b9 27 0 0 8 _ rq9 rfl (by decide)).trans lcb9
        have mc13_bA := (c13.2 bA 28 0 0 8 _ rqA rfl (by decide)).trans lcbA
        have mc13_bB := (c13.2 bB 29 0 0 80 _ rqB rfl (by decide)).trans lcbB
        refine W.eq (g2 := F0 m 68 ls []) rfl ?_
        refine lv_aload_n hx hb (eX12_listBegins (68, .aload_n 0, 1) (List.mem_of_getElem? (i := 40) rfl)) rfl (lv_at hl 1 rfl) ?_
        refine lv_aload_n hx hb (eX12_listBegins (69, .aload_n 0, 1) (List.mem_of_getElem? (i := 41) rfl)) rfl (lv_at hl 1 rfl) ?_
        refine tz_get (r := 11) (k := 21) (t := (1, (-9223372036854775808), 9223372036854775807)) hx hb hh13 ha rfl rfl (hcl11 195 21 (1, (-9223372036854775808), 9223372036854775807) (by decide) rfl).1 fM (eX12_listBegins (70, .getfield 195, 3) (List.mem_of_getElem? (i := 42) rfl)) ?_
        refine lv_aload_n hx hb (eX12_listBegins (73, .aload_n 0, 1) (List.mem_of_getElem? (i := 43) rfl)) rfl (lv_at hl 1 rfl) ?_
        refine tz_get (r := 11) (k := 9) (t := (58, 0, 0)) hx hb hh13 ha rfl rfl (hcl11 31 9 (58, 0, 0) (by decide) rfl).1 mf13_a_9 (eX12_listBegins (74, .getfield 31, 3) (List.mem_of_getElem? (i := 44) rfl)) ?_
        refine lv_iload_n hx hb (eX12_listBegins (77, .iload_n 1, 1) (List.mem_of_getElem? (i := 45) rfl)) rfl (lv_at hl 2 rfl) ?_
        refine tz_iald hx hb (zAr hKn.1 0 (by decide)) mc13_b9 (by omega) (by omega) (eX12_listBegins (78, .iaload, 1) (List.mem_of_getElem? (i := 46) rfl)) ?_
        rw [show zi.toNatClampNeg = i0 by show zi.toInt.toNat = _; omega, ez9]
        refine ff_i2l hx hb (eX12_listBegins (79, .i2l, 1) (List.mem_of_getElem? (i := 47) rfl)) (fun v14 e14 => ?_)
        refine ff_ladd hx hb (eX12_listBegins (80, .ladd, 1) (List.mem_of_getElem? (i := 48) rfl)) (by omega) (by omega) (fun v15 e15 => ?_)
        refine ff_ldc2 (n := 1440) hx hb hown h2 (clX12_ok 180 1440 (List.mem_of_getElem? (i := 21) rfl)) (eX12_listBegins (81, .ldc2_w 180, 3) (List.mem_of_getElem? (i := 49) rfl)) (fun v16 e16 => ?_)
        refine zu_S (vs := [.long v15, .long v16]) (rest := [.ref a]) hx hb hml hown hts0 zu_BT (hX12_down1440 l v15 v16 (by omega) (by omega) (by omega)) ⟨rfl, rfl⟩ ⟨by decide, by decide⟩ ⟨by decide, by decide⟩ (tb_6 139 rfl rfl) (tb_1 12 rfl rfl) (tb_6 137 rfl rfl) (tb_6 138 rfl rfl) (show yX12_down.cls ≠ "java/lang/invoke/MethodHandle" ∧ yX12_down.cls ≠ "java/lang/invoke/VarHandle" ∧ (parseMethodDescriptor yX12_down.desc).map (fun d => d.parameters.length) = some 2 by decide +kernel) rfl (fun _ _ _ => trivial) hl.1 (Nat.le_of_ble_eq_true rfl) (eX12_listBegins (84, .invokestatic 99, 3) (List.mem_of_getElem? (i := 50) rfl)) (fun w17 f17 => ?_)
        obtain ⟨v17, rfl, e17⟩ := f17
        refine tz_rowV (As := [.long v17]) (st := []) (b := a) (C := RX12) (Ts := gT) hx hb hml hown h2 (fun _ h => h) (hX12_civilQ l D cA ro sz H0 a v17 R ha (by omega) (by omega)) ⟨rfl, rfl⟩ ⟨by decide, by decide⟩ ⟨by decide, by decide⟩ (tb_7 71 rfl rfl) (tb_1 12 rfl rfl) (tb_7 68 rfl rfl) (tb_7 70 rfl rfl) (tb_0 6 rfl rfl) (show yX12_civil.cls ≠ "java/lang/invoke/MethodHandle" ∧ yX12_civil.cls ≠ "java/lang/invoke/VarHandle" ∧ (parseMethodDescriptor yX12_civil.desc).map (fun d => d.parameters.length) = some 1 by decide +kernel) zs_blind (zs_ob hh13 ha (show RTg[11]? = some (0, 11, 0, fsX12) from rfl) (zCX12 hKn.1)) (fun U hU hW => ⟨rfl, by rw [hU]; exact hh13.l0, zKb s U hW.alike hKn, by rw [hU]; exact jy13.2.1⟩) hh13.2.2.1 hl.1 (Nat.le_of_ble_eq_true rfl) (eX12_listBegins (87, .invokevirtual 146, 3) (List.mem_of_getElem? (i := 51) rfl)) (fun r18 s18 t18 lo18 g18 f18 l18 => ?_)
        obtain ⟨q18, z18, -, c18, y7, m7, d7, fy, -, -, hcv⟩ := f18
        cases q18
        rw [g18] at c18
        have hh18 : zh_ok D cA RTg ro sz H0 t18.heap lo18 := ⟨z18.1, z18.2.1, l18, z18.2.2.2⟩
        have kp18 := kp13.trans (c18.mono (ms' := lbM) (by decide))
        have jy18 := jy13.kept ha c18 (by decide)
        have jb18 := jb13.kept ha c18 (by decide)
        have mf18_a_28 := (c18.1 a 11 28 11 0 fsX12 ha rfl (by decide) (by decide)).trans mf13_a_28
        have mf18_a_5 := (c18.1 a 11 5 11 0 fsX12 ha rfl (by decide) (by decide)).trans mf13_a_5
        have mf18_a_6 := (c18.1 a 11 6 11 0 fsX12 ha rfl (by decide) (by decide)).trans mf13_a_6
        have mf18_a_8 := (c18.1 a 11 8 11 0 fsX12 ha rfl (by decide) (by decide)).trans mf13_a_8
        have mf18_a_9 := (c18.1 a 11 9 11 0 fsX12 ha rfl (by decide) (by decide)).trans mf13_a_9
        have mf18_a_10 := (c18.1 a 11 10 11 0 fsX12 ha rfl (by decide) (by decide)).trans mf13_a_10
        have mf18_a_11 := (c18.1 a 11 11 11 0 fsX12 ha rfl (by decide) (by decide)).trans mf13_a_11
        have mc18_a5 := (c18.2 a5 23 0 0 8 _ rq5 rfl (by decide)).trans mc13_a5
        have mc18_a6 := (c18.2 a6 24 0 1 480 _ rq6 rfl (by decide)).trans mc13_a6
        have mc18_b8 := (c18.2 b8 26 0 0 8 _ rq8 rfl (by decide)).trans mc13_b8
        have mc18_b9 := (c18.2 b9 27 0 0 8 _ rq9 rfl (by decide)).trans mc13_b9
        have mc18_bA := (c18.2 bA 28 0 0 8 _ rqA rfl (by decide)).trans mc13_bA
        have mc18_bB := (c18.2 bB 29 0 0 80 _ rqB rfl (by decide)).trans mc13_bB
        have hiy := nu_isY hcv.1 hcv.2.1 hcv.2.2.1 hcv.2.2.2.1
        rw [hcv.2.2.2.2] at hiy
        have hyw := isY_w hiy (by omega) (by omega)
        have hyr : yoF rr (mtI L ab.toInt) = y7.toInt := yrI_eq (by rw [← hmm, show (M7.toInt + rr.2.1) / 1440 = v17.toInt by omega]; exact hiy)
        refine W.eq (g2 := F0 m 90 ls []) rfl ?_
        refine lv_aload_n hx hb (eX12_listBegins (90, .aload_n 0, 1) (List.mem_of_getElem? (i := 52) rfl)) rfl (lv_at hl 1 rfl) ?_
        refine tz_get (r := 11) (k := 18) (t := (1, (-9223372036854775808), 9223372036854775807)) hx hb hh18 ha rfl rfl (hcl11 127 18 (1, (-9223372036854775808), 9223372036854775807) (by decide) rfl).1 fy (eX12_listBegins (91, .getfield 127, 3) (List.mem_of_getElem? (i := 53) rfl)) ?_
        refine lv_lstore hx hb (eX12_listBegins (94, .lstore 6, 2) (List.mem_of_getElem? (i := 54) rfl)) hl (by decide) rfl (fun ls19 hl19 => ?_)
        refine lv_lload hx hb (eX12_listBegins (96, .lload 6, 2) (List.mem_of_getElem? (i := 55) rfl)) (lv_at hl19 0 rfl) ?_
        refine ff_ldc2 (n := 2) hx hb hown h2 (clX12_ok 105 2 (List.mem_of_getElem? (i := 7) rfl)) (eX12_listBegins (98, .ldc2_w 105, 3) (List.mem_of_getElem? (i := 56) rfl)) (fun v20 e20 => ?_)
        refine ff_lsub hx hb (eX12_listBegins (101, .lsub, 1) (List.mem_of_getElem? (i := 57) rfl)) (by omega) (by omega) (fun v21 e21 => ?_)
        refine lv_lstore hx hb (eX12_listBegins (102, .lstore 8, 2) (List.mem_of_getElem? (i := 58) rfl)) hl19 (by decide) rfl (fun ls22 hl22 => ?_)
        have loop2 : ∀ (n9 k9 : Nat) (yv : Int64) (B : List Int) (ls : Array Slot) (H : Heap) (lo0 : List Loc), k9 + n9 = 11 → yv.toInt = y7.toInt - 2 + (k9 : Int) → B.length ≤ 60 + 3 * k9 → (∀ x, x ∈ B ↔ ((∃ c ∈ ze.2, c.1 = x) ∨ ∃ y, y7.toInt - 2 ≤ y ∧ y < yv.toInt ∧ edY L rr y x) ∧ bgC L ze rr ab.toInt be.toInt x) → zh_ok D cA RTg ro sz H0 H lo0 → zc_kept D RTg ro lbM s.heap H → jRY D cA ro H a L (Z, R) → jBg D cA ro H a B → zh_f D H a 11 28 = .int zi → zh_f D H a 11 9 = .ref b9 → zh_f D H a 11 10 = .ref bA → zh_f D H a 11 11 = .ref bB → H[b9]? = some (arrV (cA 0) 8 z9) → H[bA]? = some (arrV (cA 0) 8 zA) → H[bB]? = some (arrV (cA 0) 80 zB) → lv_has ls 10 [(8, .long yv), (6, .long y7), (0, .ref a), (1, .int zi), (2, .long ab), (4, .long be)] → W p l e (headSpec (gW yX12_listBegins cX12_listBegins 10 none) { frames := 7, cells := 0, slots := 0, locals := 191 }).room s m ([.ref a, .int zi, .long ab, .long be] : List Value).toArray below meth c H lo0 0 0 (MQ below (fun _ st oc t => oc = .returned none ∧ zh_ok D cA RTg ro sz H0 t.heap [] ∧ zc_kept D RTg ro lbM st.heap t.heap ∧ ∃ B : List Int, jBg D cA ro t.heap a B ∧ B.length ≤ 93 ∧ ∀ x, x ∈ B ↔ cdG L ze rr ab.toInt x ∧ bgC L ze rr ab.toInt be.toInt x) ([.ref a, .int zi, .long ab, .long be] : List Value).toArray s 0 0 (zy_fr sz)) (F0 m 104 ls []) := by
          clear hbs hBi
          intro n9
          induction n9 with
          | zero =>
            intro k9 yv B ls H lo0 hk9 hyv hBk hbs hh0 kpl jyl jbl f28l mf9 mf10 mf11 mcb9 mcbA mcbB hl
            have hysb := ysI_bd (y := yv.toInt) (by omega) (by omega)
            refine lv_lload hx hb (eX12_listBegins (104, .lload 8, 2) (List.mem_of_getElem? (i := 59) rfl)) (lv_at hl 0 rfl) ?_
            refine lv_lload hx hb (eX12_listBegins (106, .lload 6, 2) (List.mem_of_getElem? (i := 60) rfl)) (lv_at hl 1 rfl) ?_
            refine ff_ldc2 (n := 9) hx hb hown h2 (clX12_ok 162 9 (List.mem_of_getElem? (i := 18) rfl)) (eX12_listBegins (108, .ldc2_w 162, 3) (List.mem_of_getElem? (i := 61) rfl)) (fun v23 e23 => ?_)
            refine ff_ladd hx hb (eX12_listBegins (111, .ladd, 1) (List.mem_of_getElem? (i := 62) rfl)) (by omega) (by omega) (fun v24 e24 => ?_)
            refine ff_lcmp hx hb (eX12_listBegins (112, .lcmp, 1) (List.mem_of_getElem? (i := 63) rfl)) (fun v25 e25 => ?_)
            refine ff_if_ge hx hb (eX12_listBegins (113, .ifCond .ge 96, 3) (List.mem_of_getElem? (i := 64) rfl)) (tgt := 209) rfl (fun c26 => ?_) (fun c26 => (by exfalso; omega))
            exact W.vret hx hb hr (fun t ht hW => ⟨rfl, by rw [ht]; exact hh0.l0, by rw [ht]; exact kpl, B, by rw [ht]; exact jbl, by omega, (bg_iff hbs (fun x => by unfold cdG; rw [hyr, show yv.toInt = y7.toInt + 9 by omega]; exact ⟨fun h => h.elim (fun g => Or.inl g) (fun g => Or.inr ⟨hr2, g⟩), fun h => h.elim (fun g => Or.inl g) (fun g => Or.inr g.2)⟩))⟩) hh0.2.2.1 (eX12_listBegins (209, .return_, 1) (List.mem_of_getElem? (i := 122) rfl))
          | succ n9 ih2 =>
            intro k9 yv B ls H lo0 hk9 hyv hBk hbs hh0 kpl jyl jbl f28l mf9 mf10 mf11 mcb9 mcbA mcbB hl
            have hysb := ysI_bd (y := yv.toInt) (by omega) (by omega)
            refine lv_lload hx hb (eX12_listBegins (104, .lload 8, 2) (List.mem_of_getElem? (i := 59) rfl)) (lv_at hl 0 rfl) ?_
            refine lv_lload hx hb (eX12_listBegins (106, .lload 6, 2) (List.mem_of_getElem? (i := 60) rfl)) (lv_at hl 1 rfl) ?_
            refine ff_ldc2 (n := 9) hx hb hown h2 (clX12_ok 162 9 (List.mem_of_getElem? (i := 18) rfl)) (eX12_listBegins (108, .ldc2_w 162, 3) (List.mem_of_getElem? (i := 61) rfl)) (fun v27 e27 => ?_)
            refine ff_ladd hx hb (eX12_listBegins (111, .ladd, 1) (List.mem_of_getElem? (i := 62) rfl)) (by omega) (by omega) (fun v28 e28 => ?_)
            refine ff_lcmp hx hb (eX12_listBegins (112, .lcmp, 1) (List.mem_of_getElem? (i := 63) rfl)) (fun v29 e29 => ?_)
            refine ff_if_ge hx hb (eX12_listBegins (113, .ifCond .ge 96, 3) (List.mem_of_getElem? (i := 64) rfl)) (tgt := 209) rfl (fun c30 => (by exfalso; omega)) (fun c30 => ?_)
            refine lv_aload_n hx hb (eX12_listBegins (116, .aload_n 0, 1) (List.mem_of_getElem? (i := 65) rfl)) rfl (lv_at hl 2 rfl) ?_
            refine lv_aload_n hx hb (eX12_listBegins (117, .aload_n 0, 1) (List.mem_of_getElem? (i := 66) rfl)) rfl (lv_at hl 2 rfl) ?_
            refine lv_aload_n hx hb (eX12_listBegins (118, .aload_n 0, 1) (List.mem_of_getElem? (i := 67) rfl)) rfl (lv_at hl 2 rfl) ?_
            refine lv_iload_n hx hb (eX12_listBegins (119, .iload_n 1, 1) (List.mem_of_getElem? (i := 68) rfl)) rfl (lv_at hl 3 rfl) ?_
            refine ff_iconst hx hb (eX12_listBegins (120, .iconst 0, 1) (List.mem_of_getElem? (i := 69) rfl)) (by decide) (by decide) (fun v31 e31 => ?_)
            refine lv_lload hx hb (eX12_listBegins (121, .lload 8, 2) (List.mem_of_getElem? (i := 70) rfl)) (lv_at hl 0 rfl) ?_
            refine tz_rowV (As := [.int zi, .int v31, .long yv]) (st := [.ref a, .ref a]) (b := a) (C := RX12) (Ts := gT) hx hb hml hown h2 (fun _ h => h) (hX12_ruleMinute l D cA ro sz H0 a zi v31 yv i0 0 rr.2.2.2.1 zB bB ha hi0 hi8 (by omega) (by decide) hdn0 hdw0 (by omega) (by omega)) ⟨rfl, rfl⟩ ⟨by decide, by decide⟩ ⟨by decide, by decide⟩ (tb_7 178 rfl rfl) (tb_1 12 rfl rfl) (tb_7 175 rfl rfl) (tb_7 177 rfl rfl) (tb_0 18 rfl rfl) (show yX12_ruleMinute.cls ≠ "java/lang/invoke/MethodHandle" ∧ yX12_ruleMinute.cls ≠ "java/lang/invoke/VarHandle" ∧ (parseMethodDescriptor yX12_ruleMinute.desc).map (fun d => d.parameters.length) = some 3 by decide +kernel) zs_blind (zs_ob hh0 ha (show RTg[11]? = some (0, 11, 0, fsX12) from rfl) (zCX12 hKn.1)) (fun U hU hW => ⟨rfl, by rw [hU]; exact hh0.l0, zKb s U hW.alike hKn, by rw [hU]; exact ⟨mf11, rqB, mcbB⟩⟩) hh0.2.2.1 hl.1 (Nat.le_of_ble_eq_true rfl) (eX12_listBegins (123, .invokevirtual 225, 3) (List.mem_of_getElem? (i := 71) rfl)) (fun r32 s32 t32 lo32 g32 f32 l32 => ?_)
            obtain ⟨z32, v32, q32, e32⟩ := f32
            cases q32
            rw [z32, g32]
            have hh32 : zh_ok D cA RTg ro sz H0 H lo32 := ⟨hh0.1, hh0.2.1, l32, hh0.2.2.2⟩
            rw [rv_mm hdw0] at e32
            have hmb0 := mmF_bd (lp := lpI yv.toInt) hdw0 hysb.1 hysb.2
            refine W.eq (g2 := F0 m 126 ls [.long v32, .ref a, .ref a]) rfl ?_
            refine lv_aload_n hx hb (eX12_listBegins (126, .aload_n 0, 1) (List.mem_of_getElem? (i := 72) rfl)) rfl (lv_at hl 2 rfl) ?_
            refine tz_get (r := 11) (k := 9) (t := (58, 0, 0)) hx hb hh32 ha rfl rfl (hcl11 31 9 (58, 0, 0) (by decide) rfl).1 mf9 (eX12_listBegins (127, .getfield 31, 3) (List.mem_of_getElem? (i := 73) rfl)) ?_
            refine lv_iload_n hx hb (eX12_listBegins (130, .iload_n 1, 1) (List.mem_of_getElem? (i := 74) rfl)) rfl (lv_at hl 3 rfl) ?_
            refine tz_iald hx hb (zAr hKn.1 0 (by decide)) mcb9 (by omega) (by omega) (eX12_listBegins (131, .iaload, 1) (List.mem_of_getElem? (i := 75) rfl)) ?_
            rw [show zi.toNatClampNeg = i0 by show zi.toInt.toNat = _; omega, ez9]
            refine ff_i2l hx hb (eX12_listBegins (132, .i2l, 1) (List.mem_of_getElem? (i := 76) rfl)) (fun v33 e33 => ?_)
            refine ff_lsub hx hb (eX12_listBegins (133, .lsub, 1) (List.mem_of_getElem? (i := 77) rfl)) (by omega) (by omega) (fun v34 e34 => ?_)
            refine tz_rowV (As := [.long v34]) (st := [.ref a]) (b := a) (C := RX12) (Ts := gT) hx hb hml hown h2 (fun _ h => h) (hX12_startOf l D cA ro sz H0 a v34 L ha (by omega) (by omega)) ⟨rfl, rfl⟩ ⟨by decide, by decide⟩ ⟨by decide, by decide⟩ (tb_7 127 rfl rfl) (tb_1 12 rfl rfl) (tb_7 124 rfl rfl) (tb_7 126 rfl rfl) (tb_0 11 rfl rfl) (show yX12_startOf.cls ≠ "java/lang/invoke/MethodHandle" ∧ yX12_startOf.cls ≠ "java/lang/invoke/VarHandle" ∧ (parseMethodDescriptor yX12_startOf.desc).map (fun d => d.parameters.length) = some 1 by decide +kernel) zs_blind (zs_ob hh32 ha (show RTg[11]? = some (0, 11, 0, fsX12) from rfl) (zCX12 hKn.1)) (fun U hU hW => ⟨rfl, by rw [hU]; exact hh32.l0, zKb s U hW.alike hKn, by rw [hU]; exact jyl.1.1⟩) hh32.2.2.1 hl.1 (Nat.le_of_ble_eq_true rfl) (eX12_listBegins (134, .invokevirtual 190, 3) (List.mem_of_getElem? (i := 78) rfl)) (fun r35 s35 t35 lo35 g35 f35 l35 => ?_)
            obtain ⟨z35, v35, q35, e35⟩ := f35
            cases q35
            rw [z35, g35]
            have hh35 : zh_ok D cA RTg ro sz H0 H lo35 := ⟨hh32.1, hh32.2.1, l35, hh32.2.2.2⟩
            have hsm0 : v34.toInt = fmF rr yv.toInt := by unfold fmF; omega
            have hlb0 := lsI_b hjL (v34.toInt / 1440)
            have hst0 := e35
            unfold stI at hst0
            rw [hsm0] at e35
            refine W.eq (g2 := F0 m 137 ls [.long v35, .ref a]) rfl ?_
            refine lv_lload_n hx hb (eX12_listBegins (137, .lload_n 2, 1) (List.mem_of_getElem? (i := 79) rfl)) rfl (lv_at hl 4 rfl) ?_
            refine lv_lload hx hb (eX12_listBegins (138, .lload 4, 2) (List.mem_of_getElem? (i := 80) rfl)) (lv_at hl 5 rfl) ?_
            refine tz_rowV (As := [.long v35, .long ab, .long be]) (st := []) (b := a) (C := RX12) (Ts := gT) hx hb hml hown h2 (fun _ h => h) (hX12_begin l D cA ro sz H0 a v35 ab be L Z R i0 ze rr zi B ha hi0 hze hrr (by omega) (by omega) (by omega)) ⟨rfl, rfl⟩ ⟨by decide, by decide⟩ ⟨by decide, by decide⟩ (tb_7 207 rfl rfl) (tb_1 12 rfl rfl) (tb_7 204 rfl rfl) (tb_7 206 rfl rfl) (tb_0 23 rfl rfl) (show yX12_begin.cls ≠ "java/lang/invoke/MethodHandle" ∧ yX12_begin.cls ≠ "java/lang/invoke/VarHandle" ∧ (parseMethodDescriptor yX12_begin.desc).map (fun d => d.parameters.length) = some 3 by decide +kernel) zs_blind (zs_ob hh35 ha (show RTg[11]? = some (0, 11, 0, fsX12) from rfl) (zCX12 hKn.1)) (fun U hU hW => ⟨rfl, by rw [hU]; exact hh35.l0, zKb s U hW.alike hKn, by rw [hU]; exact ⟨jyl, jbl, f28l⟩⟩) hh35.2.2.1 hl.1 (Nat.le_of_ble_eq_true rfl) (eX12_listBegins (140, .invokevirtual 259, 3) (List.mem_of_getElem? (i := 81) rfl)) (fun r36 s36 t36 lo36 g36 f36 l36 => ?_)
            obtain ⟨q36, z36, c36, B36, jb36, bl36, bm36⟩ := f36
            cases q36
            rw [g36] at c36
            have hh36 : zh_ok D cA RTg ro sz H0 t36.heap lo36 := ⟨z36.1, z36.2.1, l36, z36.2.2.2⟩
            have kp36 := kpl.trans (c36.mono (ms' := lbM) (by decide))
            have jy36 := jyl.kept ha c36 (by decide)
            have mf36_a_28 := (c36.1 a 11 28 11 0 fsX12 ha rfl (by decide) (by decide)).trans f28l
            have mf36_a_9 := (c36.1 a 11 9 11 0 fsX12 ha rfl (by decide) (by decide)).trans mf9
            have mf36_a_10 := (c36.1 a 11 10 11 0 fsX12 ha rfl (by decide) (by decide)).trans mf10
            have mf36_a_11 := (c36.1 a 11 11 11 0 fsX12 ha rfl (by decide) (by decide)).trans mf11
            have mc36_b9 := (c36.2 b9 27 0 0 8 _ rq9 rfl (by decide)).trans mcb9
            have mc36_bA := (c36.2 bA 28 0 0 8 _ rqA rfl (by decide)).trans mcbA
            have mc36_bB := (c36.2 bB 29 0 0 80 _ rqB rfl (by decide)).trans mcbB
            have bs36 := bg_step hbs bm36
            refine W.eq (g2 := F0 m 143 ls []) rfl ?_
            refine lv_aload_n hx hb (eX12_listBegins (143, .aload_n 0, 1) (List.mem_of_getElem? (i := 82) rfl)) rfl (lv_at hl 2 rfl) ?_
            refine lv_aload_n hx hb (eX12_listBegins (144, .aload_n 0, 1) (List.mem_of_getElem? (i := 83) rfl)) rfl (lv_at hl 2 rfl) ?_
            refine lv_aload_n hx hb (eX12_listBegins (145, .aload_n 0, 1) (List.mem_of_getElem? (i := 84) rfl)) rfl (lv_at hl 2 rfl) ?_
            refine lv_iload_n hx hb (eX12_listBegins (146, .iload_n 1, 1) (List.mem_of_getElem? (i := 85) rfl)) rfl (lv_at hl 3 rfl) ?_
            refine ff_iconst hx hb (eX12_listBegins (147, .iconst 1, 1) (List.mem_of_getElem? (i := 86) rfl)) (by decide) (by decide) (fun v37 e37 => ?_)
            refine lv_lload hx hb (eX12_listBegins (148, .lload 8, 2) (List.mem_of_getElem? (i := 87) rfl)) (lv_at hl 0 rfl) ?_
            refine tz_rowV (As := [.int zi, .int v37, .long yv]) (st := [.ref a, .ref a]) (b := a) (C := RX12) (Ts := gT) hx hb hml hown h2 (fun _ h => h) (hX12_ruleMinute l D cA ro sz H0 a zi v37 yv i0 1 rr.2.2.2.2 zB bB ha hi0 hi8 (by omega) (by decide) hdn1 hdw1 (by omega) (by omega)) ⟨rfl, rfl⟩ ⟨by decide, by decide⟩ ⟨by decide, by decide⟩ (tb_7 178 rfl rfl) (tb_1 12 rfl rfl) (tb_7 175 rfl rfl) (tb_7 177 rfl rfl) (tb_0 18 rfl rfl) (show yX12_ruleMinute.cls ≠ "java/lang/invoke/MethodHandle" ∧ yX12_ruleMinute.cls ≠ "java/lang/invoke/VarHandle" ∧ (parseMethodDescriptor yX12_ruleMinute.desc).map (fun d => d.parameters.length) = some 3 by decide +kernel) zs_blind (zs_ob hh36 ha (show RTg[11]? = some (0, 11, 0, fsX12) from rfl) (zCX12 hKn.1)) (fun U hU hW => ⟨rfl, by rw [hU]; exact hh36.l0, zKb s U hW.alike hKn, by rw [hU]; exact ⟨mf36_a_11, rqB, mc36_bB⟩⟩) hh36.2.2.1 hl.1 (Nat.le_of_ble_eq_true rfl) (eX12_listBegins (150, .invokevirtual 225, 3) (List.mem_of_getElem? (i := 88) rfl)) (fun r38 s38 t38 lo38 g38 f38 l38 => ?_)
            obtain ⟨z38, v38, q38, e38⟩ := f38
            cases q38
            rw [z38, g38]
            have hh38 : zh_ok D cA RTg ro sz H0 t36.heap lo38 := ⟨hh36.1, hh36.2.1, l38, hh36.2.2.2⟩
            rw [rv_mm hdw1] at e38
            have hmb1 := mmF_bd (lp := lpI yv.toInt) hdw1 hysb.1 hysb.2
            refine W.eq (g2 := F0 m 153 ls [.long v38, .ref a, .ref a]) rfl ?_
            refine lv_aload_n hx hb (eX12_listBegins (153, .aload_n 0, 1) (List.mem_of_getElem? (i := 89) rfl)) rfl (lv_at hl 2 rfl) ?_
            refine tz_get (r := 11) (k := 10) (t := (60, 0, 0)) hx hb hh38 ha rfl rfl (hcl11 34 10 (60, 0, 0) (by decide) rfl).1 mf36_a_10 (eX12_listBegins (154, .getfield 34, 3) (List.mem_of_getElem? (i := 90) rfl)) ?_
            refine lv_iload_n hx hb (eX12_listBegins (157, .iload_n 1, 1) (List.mem_of_getElem? (i := 91) rfl)) rfl (lv_at hl 3 rfl) ?_
            refine tz_iald hx hb (zAr hKn.1 0 (by decide)) mc36_bA (by omega) (by omega) (eX12_listBegins (158, .iaload, 1) (List.mem_of_getElem? (i := 92) rfl)) ?_
            rw [show zi.toNatClampNeg = i0 by show zi.toInt.toNat = _; omega, ezA]
            refine ff_i2l hx hb (eX12_listBegins (159, .i2l, 1) (List.mem_of_getElem? (i := 93) rfl)) (fun v39 e39 => ?_)
            refine ff_lsub hx hb (eX12_listBegins (160, .lsub, 1) (List.mem_of_getElem? (i := 94) rfl)) (by omega) (by omega) (fun v40 e40 => ?_)
            refine tz_rowV (As := [.long v40]) (st := [.ref a]) (b := a) (C := RX12) (Ts := gT) hx hb hml hown h2 (fun _ h => h) (hX12_startOf l D cA ro sz H0 a v40 L ha (by omega) (by omega)) ⟨rfl, rfl⟩ ⟨by decide, by decide⟩ ⟨by decide, by decide⟩ (tb_7 127 rfl rfl) (tb_1 12 rfl rfl) (tb_7 124 rfl rfl) (tb_7 126 rfl rfl) (tb_0 11 rfl rfl) (show yX12_startOf.cls ≠ "java/lang/invoke/MethodHandle" ∧ yX12_startOf.cls ≠ "java/lang/invoke/VarHandle" ∧ (parseMethodDescriptor yX12_startOf.desc).map (fun d => d.parameters.length) = some 1 by decide +kernel) zs_blind (zs_ob hh38 ha (show RTg[11]? = some (0, 11, 0, fsX12) from rfl) (zCX12 hKn.1)) (fun U hU hW => ⟨rfl, by rw [hU]; exact hh38.l0, zKb s U hW.alike hKn, by rw [hU]; exact jy36.1.1⟩) hh38.2.2.1 hl.1 (Nat.le_of_ble_eq_true rfl) (eX12_listBegins (161, .invokevirtual 190, 3) (List.mem_of_getElem? (i := 95) rfl)) (fun r41 s41 t41 lo41 g41 f41 l41 => ?_)
            obtain ⟨z41, v41, q41, e41⟩ := f41
            cases q41
            rw [z41, g41]
            have hh41 : zh_ok D cA RTg ro sz H0 t36.heap lo41 := ⟨hh38.1, hh38.2.1, l41, hh38.2.2.2⟩
            have hsm1 : v40.toInt = tmF rr yv.toInt := by unfold tmF; omega
            have hlb1 := lsI_b hjL (v40.toInt / 1440)
            have hst1 := e41
            unfold stI at hst1
            rw [hsm1] at e41
            refine W.eq (g2 := F0 m 164 ls [.long v41, .ref a]) rfl ?_
            refine lv_lload_n hx hb (eX12_listBegins (164, .lload_n 2, 1) (List.mem_of_getElem? (i := 96) rfl)) rfl (lv_at hl 4 rfl) ?_
            refine lv_lload hx hb (eX12_listBegins (165, .lload 4, 2) (List.mem_of_getElem? (i := 97) rfl)) (lv_at hl 5 rfl) ?_
            refine tz_rowV (As := [.long v41, .long ab, .long be]) (st := []) (b := a) (C := RX12) (Ts := gT) hx hb hml hown h2 (fun _ h => h) (hX12_begin l D cA ro sz H0 a v41 ab be L Z R i0 ze rr zi B36 ha hi0 hze hrr (by omega) (by omega) (by omega)) ⟨rfl, rfl⟩ ⟨by decide, by decide⟩ ⟨by decide, by decide⟩ (tb_7 207 rfl rfl) (tb_1 12 rfl rfl) (tb_7 204 rfl rfl) (tb_7 206 rfl rfl) (tb_0 23 rfl rfl) (show yX12_begin.cls ≠ "java/lang/invoke/MethodHandle" ∧ yX12_begin.cls ≠ "java/lang/invoke/VarHandle" ∧ (parseMethodDescriptor yX12_begin.desc).map (fun d => d.parameters.length) = some 3 by decide +kernel) zs_blind (zs_ob hh41 ha (show RTg[11]? = some (0, 11, 0, fsX12) from rfl) (zCX12 hKn.1)) (fun U hU hW => ⟨rfl, by rw [hU]; exact hh41.l0, zKb s U hW.alike hKn, by rw [hU]; exact ⟨jy36, jb36, mf36_a_28⟩⟩) hh41.2.2.1 hl.1 (Nat.le_of_ble_eq_true rfl) (eX12_listBegins (167, .invokevirtual 259, 3) (List.mem_of_getElem? (i := 98) rfl)) (fun r42 s42 t42 lo42 g42 f42 l42 => ?_)
            obtain ⟨q42, z42, c42, B42, jb42, bl42, bm42⟩ := f42
            cases q42
            rw [g42] at c42
            have hh42 : zh_ok D cA RTg ro sz H0 t42.heap lo42 := ⟨z42.1, z42.2.1, l42, z42.2.2.2⟩
            have kp42 := kp36.trans (c42.mono (ms' := lbM) (by decide))
            have jy42 := jy36.kept ha c42 (by decide)
            have mf42_a_28 := (c42.1 a 11 28 11 0 fsX12 ha rfl (by decide) (by decide)).trans mf36_a_28
            have mf42_a_9 := (c42.1 a 11 9 11 0 fsX12 ha rfl (by decide) (by decide)).trans mf36_a_9
            have mf42_a_10 := (c42.1 a 11 10 11 0 fsX12 ha rfl (by decide) (by decide)).trans mf36_a_10
            have mf42_a_11 := (c42.1 a 11 11 11 0 fsX12 ha rfl (by decide) (by decide)).trans mf36_a_11
            have mc42_b9 := (c42.2 b9 27 0 0 8 _ rq9 rfl (by decide)).trans mc36_b9
            have mc42_bA := (c42.2 bA 28 0 0 8 _ rqA rfl (by decide)).trans mc36_bA
            have mc42_bB := (c42.2 bB 29 0 0 80 _ rqB rfl (by decide)).trans mc36_bB
            have bs42 := bg_step bs36 bm42
            refine W.eq (g2 := F0 m 170 ls []) rfl ?_
            refine lv_aload_n hx hb (eX12_listBegins (170, .aload_n 0, 1) (List.mem_of_getElem? (i := 99) rfl)) rfl (lv_at hl 2 rfl) ?_
            refine lv_aload_n hx hb (eX12_listBegins (171, .aload_n 0, 1) (List.mem_of_getElem? (i := 100) rfl)) rfl (lv_at hl 2 rfl) ?_
            refine lv_lload hx hb (eX12_listBegins (172, .lload 8, 2) (List.mem_of_getElem? (i := 101) rfl)) (lv_at hl 0 rfl) ?_
            refine ff_iconst hx hb (eX12_listBegins (174, .iconst 1, 1) (List.mem_of_getElem? (i := 102) rfl)) (by decide) (by decide) (fun v43 e43 => ?_)
            refine ff_iconst hx hb (eX12_listBegins (175, .iconst 1, 1) (List.mem_of_getElem? (i := 103) rfl)) (by decide) (by decide) (fun v44 e44 => ?_)
            refine zu_S (vs := [.long yv, .int v43, .int v44]) (rest := [.ref a, .ref a]) hx hb hml hown hts0 zu_BT (hX12_dayOfW l yv v43 v44 (by omega) (by omega) (by omega) (by omega) (by omega) (by omega)) ⟨rfl, rfl⟩ ⟨by decide, by decide⟩ ⟨by decide, by decide⟩ (tb_6 135 rfl rfl) (tb_1 12 rfl rfl) (tb_6 133 rfl rfl) (tb_6 134 rfl rfl) (show yX12_dayOf.cls ≠ "java/lang/invoke/MethodHandle" ∧ yX12_dayOf.cls ≠ "java/lang/invoke/VarHandle" ∧ (parseMethodDescriptor yX12_dayOf.desc).map (fun d => d.parameters.length) = some 3 by decide +kernel) rfl (fun _ _ _ => trivial) hl.1 (Nat.le_of_ble_eq_true rfl) (eX12_listBegins (176, .invokestatic 70, 3) (List.mem_of_getElem? (i := 104) rfl)) (fun w45 f45 => ?_)
            obtain ⟨v45, rfl, e45⟩ := f45
            have g45 := (show v45.toInt = ysI yv.toInt by rw [e45, show v43.toInt = 1 by omega, show v44.toInt = 1 by omega, nu_cu]; show ysI yv.toInt + cuI yv.toInt 1 + 1 - 1 = _; rw [show cuI yv.toInt 1 = 0 by simp [cuI, bm]]; omega)
            refine ff_ldc2 (n := 1440) hx hb hown h2 (clX12_ok 180 1440 (List.mem_of_getElem? (i := 21) rfl)) (eX12_listBegins (179, .ldc2_w 180, 3) (List.mem_of_getElem? (i := 105) rfl)) (fun v46 e46 => ?_)
            refine ff_lmulR hx hb (eX12_listBegins (182, .lmul, 1) (List.mem_of_getElem? (i := 106) rfl)) (e46) (by omega) (by omega) (fun v47 e47 => ?_)
            refine lv_aload_n hx hb (eX12_listBegins (183, .aload_n 0, 1) (List.mem_of_getElem? (i := 107) rfl)) rfl (lv_at hl 2 rfl) ?_
            refine tz_get (r := 11) (k := 9) (t := (58, 0, 0)) hx hb hh42 ha rfl rfl (hcl11 31 9 (58, 0, 0) (by decide) rfl).1 mf42_a_9 (eX12_listBegins (184, .getfield 31, 3) (List.mem_of_getElem? (i := 108) rfl)) ?_
            refine lv_iload_n hx hb (eX12_listBegins (187, .iload_n 1, 1) (List.mem_of_getElem? (i := 109) rfl)) rfl (lv_at hl 3 rfl) ?_
            refine tz_iald hx hb (zAr hKn.1 0 (by decide)) mc42_b9 (by omega) (by omega) (eX12_listBegins (188, .iaload, 1) (List.mem_of_getElem? (i := 110) rfl)) ?_
            rw [show zi.toNatClampNeg = i0 by show zi.toInt.toNat = _; omega, ez9]
            refine ff_i2l hx hb (eX12_listBegins (189, .i2l, 1) (List.mem_of_getElem? (i := 111) rfl)) (fun v48 e48 => ?_)
            refine ff_lsub hx hb (eX12_listBegins (190, .lsub, 1) (List.mem_of_getElem? (i := 112) rfl)) (by omega) (by omega) (fun v49 e49 => ?_)
            refine tz_rowV (As := [.long v49]) (st := [.ref a]) (b := a) (C := RX12) (Ts := gT) hx hb hml hown h2 (fun _ h => h) (hX12_startOf l D cA ro sz H0 a v49 L ha (by omega) (by omega)) ⟨rfl, rfl⟩ ⟨by decide, by decide⟩ ⟨by decide, by decide⟩ (tb_7 127 rfl rfl) (tb_1 12 rfl rfl) (tb_7 124 rfl rfl) (tb_7 126 rfl rfl) (tb_0 11 rfl rfl) (show yX12_startOf.cls ≠ "java/lang/invoke/MethodHandle" ∧ yX12_startOf.cls ≠ "java/lang/invoke/VarHandle" ∧ (parseMethodDescriptor yX12_startOf.desc).map (fun d => d.parameters.length) = some 1 by decide +kernel) zs_blind (zs_ob hh42 ha (show RTg[11]? = some (0, 11, 0, fsX12) from rfl) (zCX12 hKn.1)) (fun U hU hW => ⟨rfl, by rw [hU]; exact hh42.l0, zKb s U hW.alike hKn, by rw [hU]; exact jy42.1.1⟩) hh42.2.2.1 hl.1 (Nat.le_of_ble_eq_true rfl) (eX12_listBegins (191, .invokevirtual 190, 3) (List.mem_of_getElem? (i := 113) rfl)) (fun r50 s50 t50 lo50 g50 f50 l50 => ?_)
            obtain ⟨z50, v50, q50, e50⟩ := f50
            cases q50
            rw [z50, g50]
            have hh50 : zh_ok D cA RTg ro sz H0 t42.heap lo50 := ⟨hh42.1, hh42.2.1, l50, hh42.2.2.2⟩
            have hsm2 : v49.toInt = ymF rr yv.toInt := by unfold ymF; omega
            have hlb2 := lsI_b hjL (v49.toInt / 1440)
            have hst2 := e50
            unfold stI at hst2
            rw [hsm2] at e50
            refine W.eq (g2 := F0 m 194 ls [.long v50, .ref a]) rfl ?_
            refine lv_lload_n hx hb (eX12_listBegins (194, .lload_n 2, 1) (List.mem_of_getElem? (i := 114) rfl)) rfl (lv_at hl 4 rfl) ?_
            refine lv_lload hx hb (eX12_listBegins (195, .lload 4, 2) (List.mem_of_getElem? (i := 115) rfl)) (lv_at hl 5 rfl) ?_
            refine tz_rowV (As := [.long v50, .long ab, .long be]) (st := []) (b := a) (C := RX12) (Ts := gT) hx hb hml hown h2 (fun _ h => h) (hX12_begin l D cA ro sz H0 a v50 ab be L Z R i0 ze rr zi B42 ha hi0 hze hrr (by omega) (by omega) (by omega)) ⟨rfl, rfl⟩ ⟨by decide, by decide⟩ ⟨by decide, by decide⟩ (tb_7 207 rfl rfl) (tb_1 12 rfl rfl) (tb_7 204 rfl rfl) (tb_7 206 rfl rfl) (tb_0 23 rfl rfl) (show yX12_begin.cls ≠ "java/lang/invoke/MethodHandle" ∧ yX12_begin.cls ≠ "java/lang/invoke/VarHandle" ∧ (parseMethodDescriptor yX12_begin.desc).map (fun d => d.parameters.length) = some 3 by decide +kernel) zs_blind (zs_ob hh50 ha (show RTg[11]? = some (0, 11, 0, fsX12) from rfl) (zCX12 hKn.1)) (fun U hU hW => ⟨rfl, by rw [hU]; exact hh50.l0, zKb s U hW.alike hKn, by rw [hU]; exact ⟨jy42, jb42, mf42_a_28⟩⟩) hh50.2.2.1 hl.1 (Nat.le_of_ble_eq_true rfl) (eX12_listBegins (197, .invokevirtual 259, 3) (List.mem_of_getElem? (i := 116) rfl)) (fun r51 s51 t51 lo51 g51 f51 l51 => ?_)
            obtain ⟨q51, z51, c51, B51, jb51, bl51, bm51⟩ := f51
            cases q51
            rw [g51] at c51
            have hh51 : zh_ok D cA RTg ro sz H0 t51.heap lo51 := ⟨z51.1, z51.2.1, l51, z51.2.2.2⟩
            have kp51 := kp42.trans (c51.mono (ms' := lbM) (by decide))
            have jy51 := jy42.kept ha c51 (by decide)
            have mf51_a_28 := (c51.1 a 11 28 11 0 fsX12 ha rfl (by decide) (by decide)).trans mf42_a_28
            have mf51_a_9 := (c51.1 a 11 9 11 0 fsX12 ha rfl (by decide) (by decide)).trans mf42_a_9
            have mf51_a_10 := (c51.1 a 11 10 11 0 fsX12 ha rfl (by decide) (by decide)).trans mf42_a_10
            have mf51_a_11 := (c51.1 a 11 11 11 0 fsX12 ha rfl (by decide) (by decide)).trans mf42_a_11
            have mc51_b9 := (c51.2 b9 27 0 0 8 _ rq9 rfl (by decide)).trans mc42_b9
            have mc51_bA := (c51.2 bA 28 0 0 8 _ rqA rfl (by decide)).trans mc42_bA
            have mc51_bB := (c51.2 bB 29 0 0 80 _ rqB rfl (by decide)).trans mc42_bB
            have bs51 := bg_step bs42 bm51
            refine W.eq (g2 := F0 m 200 ls []) rfl ?_
            refine lv_lload hx hb (eX12_listBegins (200, .lload 8, 2) (List.mem_of_getElem? (i := 117) rfl)) (lv_at hl 0 rfl) ?_
            refine ff_lconst hx hb (eX12_listBegins (202, .lconst 1, 1) (List.mem_of_getElem? (i := 118) rfl)) rfl (fun v52 e52 => ?_)
            refine ff_ladd hx hb (eX12_listBegins (203, .ladd, 1) (List.mem_of_getElem? (i := 119) rfl)) (by omega) (by omega) (fun v53 e53 => ?_)
            refine lv_lstore hx hb (eX12_listBegins (204, .lstore 8, 2) (List.mem_of_getElem? (i := 120) rfl)) hl (by decide) rfl (fun ls54 hl54 => ?_)
            refine lv_goto hx hb (eX12_listBegins (206, .goto (-102), 3) (List.mem_of_getElem? (i := 121) rfl)) (tgt := 104) rfl ?_
            exact ih2 (k9 + 1) v53 B51 ls54 _ _ (by omega) (by omega) (by omega) (by rw [show v53.toInt = yv.toInt + 1 by omega]; exact bg_iff bs51 (yr_step (A := fun x => ∃ c ∈ ze.2, c.1 = x) (by omega) e35 e41 e50)) hh51 kp51 jy51 jb51 mf51_a_28 mf51_a_9 mf51_a_10 mf51_a_11 mc51_b9 mc51_bA mc51_bB (lv_sub hl54 [0, 1, 2, 3, 4, 5] rfl)
        exact loop2 11 0 v21 B ls22 _ _ (by omega) (by omega) (by omega) (bg_iff hbs (fun x => ⟨Or.inl, fun h => h.elim id (fun g => by obtain ⟨y9, g1, g2, -⟩ := g; exfalso; omega)⟩)) hh18 kp18 jy18 jb18 mf18_a_28 mf18_a_9 mf18_a_10 mf18_a_11 mc18_b9 mc18_bA mc18_bB (lv_sub hl22 [0, 1, 2, 3, 4, 5] rfl)
      · skip
        exact W.vret hx hb hr (fun t ht hW => ⟨rfl, by rw [ht]; exact hh0.l0, by rw [ht]; exact kpl, B, by rw [ht]; exact jbl, by omega, (bg_iff hbs (fun x => ⟨fun h => Or.inl h, fun h => by rcases h with h | h; exact h; exfalso; have g1 := h.1; omega⟩))⟩) hh0.2.2.1 (eX12_listBegins (62, .return_, 1) (List.mem_of_getElem? (i := 36) rfl))
    | succ n0 ih =>
      intro i iv B ls H lo0 hi hiv hBi hbs hh0 kpl jyl jbl f28l lf5 lf6 lf8 lf9 lf10 lf11 lca5 lca6 lcb8 lcb9 lcbA lcbB hl
      obtain ⟨tv, wv, hy1, -, hC1⟩ := hcN i (by omega)
      have hy2 : zq6 (60 * i0 + i) = .long tv := hy1
      obtain ⟨y9, e99, l99, m99⟩ := hya6 (60 * i0 + i) (by omega)
      cases hy2.symm.trans e99
      dsimp only at l99 m99
      refine lv_iload hx hb (eX12_listBegins (16, .iload 6, 2) (List.mem_of_getElem? (i := 10) rfl)) (lv_at hl 0 rfl) ?_
      refine ff_bipush hx hb (eX12_listBegins (18, .bipush 60, 2) (List.mem_of_getElem? (i := 11) rfl)) (by decide) (by decide) (fun v55 e55 => ?_)
      refine lv_iload_n hx hb (eX12_listBegins (20, .iload_n 1, 1) (List.mem_of_getElem? (i := 12) rfl)) rfl (lv_at hl 2 rfl) ?_
      refine ff_imulL hx hb (eX12_listBegins (21, .imul, 1) (List.mem_of_getElem? (i := 13) rfl)) (e55) (by omega) (by omega) (fun v56 e56 => ?_)
      refine lv_aload_n hx hb (eX12_listBegins (22, .aload_n 0, 1) (List.mem_of_getElem? (i := 14) rfl)) rfl (lv_at hl 1 rfl) ?_
      refine tz_get (r := 11) (k := 5) (t := (50, 0, 0)) hx hb hh0 ha rfl rfl (hcl11 19 5 (50, 0, 0) (by decide) rfl).1 lf5 (eX12_listBegins (23, .getfield 19, 3) (List.mem_of_getElem? (i := 15) rfl)) ?_
      refine lv_iload_n hx hb (eX12_listBegins (26, .iload_n 1, 1) (List.mem_of_getElem? (i := 16) rfl)) rfl (lv_at hl 2 rfl) ?_
      refine tz_iald hx hb (zAr hKn.1 0 (by decide)) lca5 (by omega) (by omega) (eX12_listBegins (27, .iaload, 1) (List.mem_of_getElem? (i := 17) rfl)) ?_
      rw [show zi.toNatClampNeg = i0 by show zi.toInt.toNat = _; omega, ez5]
      refine ff_iadd hx hb (eX12_listBegins (28, .iadd, 1) (List.mem_of_getElem? (i := 18) rfl)) (by omega) (by omega) (fun v57 e57 => ?_)
      refine ff_icmp_ge hx hb (eX12_listBegins (29, .if_icmp .ge 23, 3) (List.mem_of_getElem? (i := 19) rfl)) (tgt := 52) rfl (fun c58 => (by exfalso; omega)) (fun c58 => ?_)
      refine lv_aload_n hx hb (eX12_listBegins (32, .aload_n 0, 1) (List.mem_of_getElem? (i := 20) rfl)) rfl (lv_at hl 1 rfl) ?_
      refine lv_aload_n hx hb (eX12_listBegins (33, .aload_n 0, 1) (List.mem_of_getElem? (i := 21) rfl)) rfl (lv_at hl 1 rfl) ?_
      refine tz_get (r := 11) (k := 6) (t := (52, 0, 0)) hx hb hh0 ha rfl rfl (hcl11 22 6 (52, 0, 0) (by decide) rfl).1 lf6 (eX12_listBegins (34, .getfield 22, 3) (List.mem_of_getElem? (i := 22) rfl)) ?_
      refine lv_iload hx hb (eX12_listBegins (37, .iload 6, 2) (List.mem_of_getElem? (i := 23) rfl)) (lv_at hl 0 rfl) ?_
      refine tz_lald hx hb (zAr hKn.1 1 (by decide)) lca6 (by omega) (by omega) (eX12_listBegins (39, .laload, 1) (List.mem_of_getElem? (i := 24) rfl)) ?_
      rw [show iv.toNatClampNeg = 60 * i0 + i by show iv.toInt.toNat = _; omega, hy2]
      refine lv_lload_n hx hb (eX12_listBegins (40, .lload_n 2, 1) (List.mem_of_getElem? (i := 25) rfl)) rfl (lv_at hl 3 rfl) ?_
      refine lv_lload hx hb (eX12_listBegins (41, .lload 4, 2) (List.mem_of_getElem? (i := 26) rfl)) (lv_at hl 4 rfl) ?_
      refine tz_rowV (As := [.long tv, .long ab, .long be]) (st := []) (b := a) (C := RX12) (Ts := gT) hx hb hml hown h2 (fun _ h => h) (hX12_begin l D cA ro sz H0 a tv ab be L Z R i0 ze rr zi B ha hi0 hze hrr (by omega) (by omega) (by omega)) ⟨rfl, rfl⟩ ⟨by decide, by decide⟩ ⟨by decide, by decide⟩ (tb_7 207 rfl rfl) (tb_1 12 rfl rfl) (tb_7 204 rfl rfl) (tb_7 206 rfl rfl) (tb_0 23 rfl rfl) (show yX12_begin.cls ≠ "java/lang/invoke/MethodHandle" ∧ yX12_begin.cls ≠ "java/lang/invoke/VarHandle" ∧ (parseMethodDescriptor yX12_begin.desc).map (fun d => d.parameters.length) = some 3 by decide +kernel) zs_blind (zs_ob hh0 ha (show RTg[11]? = some (0, 11, 0, fsX12) from rfl) (zCX12 hKn.1)) (fun U hU hW => ⟨rfl, by rw [hU]; exact hh0.l0, zKb s U hW.alike hKn, by rw [hU]; exact ⟨jyl, jbl, f28l⟩⟩) hh0.2.2.1 hl.1 (Nat.le_of_ble_eq_true rfl) (eX12_listBegins (43, .invokevirtual 259, 3) (List.mem_of_getElem? (i := 27) rfl)) (fun r59 s59 t59 lo59 g59 f59 l59 => ?_)
      obtain ⟨q59, z59, c59, B59, jb59, bl59, bm59⟩ := f59
      cases q59
      rw [g59] at c59
      have hh59 : zh_ok D cA RTg ro sz H0 t59.heap lo59 := ⟨z59.1, z59.2.1, l59, z59.2.2.2⟩
      have kp59 := kpl.trans (c59.mono (ms' := lbM) (by decide))
      have jy59 := jyl.kept ha c59 (by decide)
      have mf59_a_28 := (c59.1 a 11 28 11 0 fsX12 ha rfl (by decide) (by decide)).trans f28l
      have mf59_a_5 := (c59.1 a 11 5 11 0 fsX12 ha rfl (by decide) (by decide)).trans lf5
      have mf59_a_6 := (c59.1 a 11 6 11 0 fsX12 ha rfl (by decide) (by decide)).trans lf6
      have mf59_a_8 := (c59.1 a 11 8 11 0 fsX12 ha rfl (by decide) (by decide)).trans lf8
      have mf59_a_9 := (c59.1 a 11 9 11 0 fsX12 ha rfl (by decide) (by decide)).trans lf9
      have mf59_a_10 := (c59.1 a 11 10 11 0 fsX12 ha rfl (by decide) (by decide)).trans lf10
      have mf59_a_11 := (c59.1 a 11 11 11 0 fsX12 ha rfl (by decide) (by decide)).trans lf11
      have mc59_a5 := (c59.2 a5 23 0 0 8 _ rq5 rfl (by decide)).trans lca5
      have mc59_a6 := (c59.2 a6 24 0 1 480 _ rq6 rfl (by decide)).trans lca6
      have mc59_b8 := (c59.2 b8 26 0 0 8 _ rq8 rfl (by decide)).trans lcb8
      have mc59_b9 := (c59.2 b9 27 0 0 8 _ rq9 rfl (by decide)).trans lcb9
      have mc59_bA := (c59.2 bA 28 0 0 8 _ rqA rfl (by decide)).trans lcbA
      have mc59_bB := (c59.2 bB 29 0 0 80 _ rqB rfl (by decide)).trans lcbB
      have bs59 := bg_step hbs bm59
      refine W.eq (g2 := F0 m 46 ls []) rfl ?_
      refine ff_iinc (k := 0) hx hb (eX12_listBegins (46, .iinc 6 1, 3) (List.mem_of_getElem? (i := 28) rfl)) hl rfl (by decide) (by decide) (by decide) (by omega) (by omega) (fun v60 e60 ls60 hl60 => ?_)
      refine lv_goto hx hb (eX12_listBegins (49, .goto (-33), 3) (List.mem_of_getElem? (i := 29) rfl)) (tgt := 16) rfl ?_
      exact ih (i + 1) v60 B59 ls60 _ _ (by omega) (by omega) (by omega) (bg_iff bs59 (tk_step hC1)) hh59 kp59 jy59 jb59 mf59_a_28 mf59_a_5 mf59_a_6 mf59_a_8 mf59_a_9 mf59_a_10 mf59_a_11 mc59_a5 mc59_a6 mc59_b8 mc59_b9 mc59_bA mc59_bB (lv_sub hl60 [0, 1, 2, 3, 4] rfl)
  exact loop ze.2.length 0 v5 [] ls6 _ _ (by omega) (by omega) (Nat.le_refl _) (fun x => ⟨fun h => (by cases h), fun h => (by obtain ⟨⟨c9, h9, -⟩, -⟩ := h; cases h9)⟩) hh3 kp3 jy3 jb0 mf3_a_28 mf3_a_5 mf3_a_6 mf3_a_8 mf3_a_9 mf3_a_10 mf3_a_11 mc3_a5 mc3_a6 mc3_b8 mc3_b9 mc3_bA mc3_bB (lv_sub hl6 [0, 1, 2, 3, 4] rfl)
