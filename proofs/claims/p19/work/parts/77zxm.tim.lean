/-! p19: the times, scanning -/
theorem tenF_bd (n : Nat) : ∀ {k : Nat} {v : Int}, 0 ≤ v → v ≤ nB k → 0 ≤ tenF n v ∧ tenF n v ≤ nB (k + n) := by
  induction n with
  | zero => intro k v h0 h; exact ⟨h0, h⟩
  | succ n ih =>
    intro k v h0 h
    have := ih (k := k + 1) (v := v * 10) (by omega) (by show _ ≤ nB k * 10 + 9; omega)
    rw [show k + (n + 1) = k + 1 + n by omega]
    exact this
theorem ptR_bd {T : List Int} (m : Nat) : ∀ {v : Int} {k : Nat} {s : uS}, 0 ≤ v → v ≤ nB k → k ≤ 9 → ∃ k' : Nat, k' ≤ 9 ∧ (ptR T m v k s).1.2 = (k' : Int) ∧ 0 ≤ (ptR T m v k s).1.1 ∧ (ptR T m v k s).1.1 ≤ nB k' := by
  induction m with
  | zero => intro v k s h0 h hk; exact ⟨k, hk, rfl, h0, h⟩
  | succ m ih =>
    intro v k s h0 h hk
    have e : ptR T (m + 1) v k s = if dgF T s < 0 then ((v, (k : Int)), s) else if (k : Int) < 9 then ptR T m (v * 10 + dgF T s) ((k : Int) + 1) (s.1 + 1, s.2) else ptR T m v k (s.1 + 1, s.2) := rfl
    rw [e]
    by_cases d : dgF T s < 0
    · rw [if_pos d]; exact ⟨k, hk, rfl, h0, h⟩
    · rw [if_neg d]
      have hd : isD (lk T s) := dgF_iff.mp (by omega)
      have e := dgF_ge hd
      unfold isD at hd
      by_cases c : (k : Int) < 9
      · rw [if_pos c]
        exact ih (v := v * 10 + dgF T s) (k := k + 1) (s := (s.1 + 1, s.2)) (by omega) (by show _ ≤ nB k * 10 + 9; omega) (by omega)
      · rw [if_neg c]
        exact ih (s := (s.1 + 1, s.2)) h0 h hk
theorem ptF_bd (T : List Int) (s : uS) : 0 ≤ (ptF T s).1 ∧ (ptF T s).1 ≤ 999999999 := by
  obtain ⟨k, k1, k2, k3, k4⟩ := ptR_bd (T := T) 120 (v := 0) (k := 0) (s := if dgF T s < 0 then flF s else s) (by decide) (by decide) (by decide)
  have k2 : (ptR T 120 0 0 (if dgF T s < 0 then flF s else s)).1.2 = (k : Int) := k2
  have k3 : 0 ≤ (ptR T 120 0 0 (if dgF T s < 0 then flF s else s)).1.1 := k3
  have k4 : (ptR T 120 0 0 (if dgF T s < 0 then flF s else s)).1.1 ≤ nB k := k4
  show 0 ≤ tenF (9 - (ptR T 120 0 0 (if dgF T s < 0 then flF s else s)).1.2.toNat) _ ∧ tenF (9 - (ptR T 120 0 0 (if dgF T s < 0 then flF s else s)).1.2.toNat) _ ≤ 999999999
  rw [k2]
  have := tenF_bd (9 - ((k : Int)).toNat) k3 k4
  rw [show k + (9 - ((k : Int)).toNat) = 9 by omega] at this
  exact ⟨this.1, Int.le_trans this.2 (by decide)⟩
set_option maxRecDepth 100000 in
set_option maxHeartbeats 4000000 in
theorem hX8_start (l : Launch) (D : va_G) (cA : Nat → ClassId) (ro : Nat → Option Nat) (sz : Nat) (H0 : Heap) (tm : Nat) (tx : Nat) (T : List Int) (sg : uS) (f : fN) (htm : ro tm = some 7) (htx : ro tx = some 0) : Met l yX8_start (gW yX8_start cX8_start 2 none) { frames := 2, cells := 0, slots := 0, locals := 46 } (zs_P D cA ro sz H0 (fun H => jU D cA ro H tx T sg ∧ jF D H tm 7 14 f) [.ref tm, .ref tx]) (du_V D cA ro sz H0 tmM tx T tm 7 14 (tsF T (f, sg))) 0 0 (zy_fr sz) := by
  refine zy_ofW (cc := cX8_start) (maxL := 2) (ret := none) (by decide +kernel) rfl ?_
  intro p e s m args below meth c s1 B hml hv
  obtain ⟨rfl, hh, hKn, hJ⟩ := hv
  have hx := B.exec
  have hb := B.bytes
  have hr := B.returns
  have hlk := B.notSynchronized
  have hts0 := atoms_spec (ws := gW yX8_start cX8_start 2 none) B.pre
  have h2 : ∀ w ∈ gT, w.before ([.ref tm, .ref tx] : List Value).toArray s = true := fun w hw => hts0 w (List.mem_cons_of_mem _ hw)
  have hown : s.vm.findClass RX8 = some m.cls := findClass_of_methodNamed B.named
  have hl := lv_entry [.ref tm, .ref tx] (n := 2) (Nat.le_of_ble_eq_true rfl)
  rw [lg_entry_eq]
  generalize (lg_sl [.ref tm, .ref tx] ++ List.replicate (2 - (lg_sl [.ref tm, .ref tx]).length) Slot.unset).toArray = ls at hl ⊢
  have hD := zD_all h2 hKn.1
  have hcl0 := fun (idx k : Nat) (t : zt_T) (h : (idx, 0, k) ∈ gfX8) (hk : fsX0[k]? = some t) => zf_clause (ro := ro) (ms := tmM) h2 hown hKn.1 gfX8_ok (by decide +kernel) idx 0 k 0 0 fsX0 t h rfl hk
  have hcl7 := fun (idx k : Nat) (t : zt_T) (h : (idx, 7, k) ∈ gfX8) (hk : fsX8[k]? = some t) => zf_clause (ro := ro) (ms := tmM) h2 hown hKn.1 gfX8_ok (by decide +kernel) idx 7 k 7 0 fsX8 t h rfl hk
  have kp0 : zc_kept D RTg ro tmM s.heap s.heap := zc_kept.refl
  obtain ⟨hJ, jd0⟩ := hJ
  obtain ⟨hjt, ⟨av, bv, wv, f2, f3, f4, hav, hbv, hwv⟩, hu⟩ := id hJ
  obtain ⟨tb, n, z, f0, r0, f1, hn, hc, hz⟩ := id hjt
  obtain ⟨n9, g9, n1, n2⟩ := zh_fT (k := 1) (t := (0, 0, 120)) hh htx (show RTg[0]? = some (0, 0, 0, fsX0) from rfl) rfl
  cases f1.symm.trans g9
  dsimp only at n1 n2
  clear g9
  obtain ⟨-, z9, c9, hy9⟩ := zh_arr hh r0 (show RTg[12]? = some (1, 2, 120, [(0, (-128), 127)]) from rfl)
  have hy : ∀ i, i < 120 → zt_ok ro (z i) (0, (-128), 127) := zs_arr (hc.symm.trans c9) hy9
  obtain ⟨u1, u2, u3⟩ := id hu
  have fr0 : ∀ p9 : Nat, p9 ∉ [tx, tm] → s.heap[p9]? = s.heap[p9]? := fun _ _ => rfl
  refine lv_aload_n hx hb (eX8_start (0, .aload_n 0, 1) (List.mem_of_getElem? (i := 0) rfl)) rfl (lv_at hl 0 rfl) ?_
  refine ff_iconst hx hb (eX8_start (1, .iconst 0, 1) (List.mem_of_getElem? (i := 1) rfl)) (by decide) (by decide) (fun v1 e1 => ?_)
  refine tz_put (r := 7) (k := 3) (t := (0, (-2147483648), 2147483647)) hx hb hD hh htm rfl rfl ((hcl7 21 3 (0, (-2147483648), 2147483647) (by decide) rfl).2 (by decide)) (tz_i (zn_i32 _).1 (zn_i32 _).2) (eX8_start (2, .putfield 21, 3) (List.mem_of_getElem? (i := 2) rfl)) (fun H2 lo2 hh2 hf2 hk2 _ hq2 => ?_)
  have mf2_tx_0 := (hk2.1 tx 0 0 0 0 fsX0 htx rfl (by decide) (by decide)).trans f0
  have mf2_tx_1 := (hk2.1 tx 0 1 0 0 fsX0 htx rfl (by decide) (by decide)).trans f1
  have mf2_tx_2 := (hk2.1 tx 0 2 0 0 fsX0 htx rfl (by decide) (by decide)).trans f2
  have mf2_tx_3 := (hk2.1 tx 0 3 0 0 fsX0 htx rfl (by decide) (by decide)).trans f3
  have mf2_tx_4 := (hk2.1 tx 0 4 0 0 fsX0 htx rfl (by decide) (by decide)).trans f4
  have mc2_tb := (hk2.2 tb 12 0 2 120 _ r0 rfl (by decide)).trans hc
  have kp2 := kp0.trans (hk2.mono (ms' := tmM) (fun x hx => by cases List.mem_singleton.mp hx; decide))
  have jm2 := (hJ).kept htx hk2 (by decide)
  have fr2 : ∀ p9 : Nat, p9 ∉ [tx, tm] → H2[p9]? = s.heap[p9]? := fun p9 h9 => (hq2 p9 (fun e9 => h9 (by rw [e9]; exact (List.mem_cons_of_mem _ List.mem_cons_self)))).trans (fr0 p9 h9)
  have jd2 := jF.put htm rfl (by decide) hk2 hf2 (show v1.toInt = 0 by omega) jd0
  refine lv_aload_n hx hb (eX8_start (5, .aload_n 0, 1) (List.mem_of_getElem? (i := 3) rfl)) rfl (lv_at hl 0 rfl) ?_
  refine ff_iconst hx hb (eX8_start (6, .iconst 0, 1) (List.mem_of_getElem? (i := 4) rfl)) (by decide) (by decide) (fun v3 e3 => ?_)
  refine tz_put (r := 7) (k := 5) (t := (0, (-2147483648), 2147483647)) hx hb hD hh2 htm rfl rfl ((hcl7 27 5 (0, (-2147483648), 2147483647) (by decide) rfl).2 (by decide)) (tz_i (zn_i32 _).1 (zn_i32 _).2) (eX8_start (7, .putfield 27, 3) (List.mem_of_getElem? (i := 5) rfl)) (fun H4 lo4 hh4 hf4 hk4 _ hq4 => ?_)
  have mf4_tx_0 := (hk4.1 tx 0 0 0 0 fsX0 htx rfl (by decide) (by decide)).trans mf2_tx_0
  have mf4_tx_1 := (hk4.1 tx 0 1 0 0 fsX0 htx rfl (by decide) (by decide)).trans mf2_tx_1
  have mf4_tx_2 := (hk4.1 tx 0 2 0 0 fsX0 htx rfl (by decide) (by decide)).trans mf2_tx_2
  have mf4_tx_3 := (hk4.1 tx 0 3 0 0 fsX0 htx rfl (by decide) (by decide)).trans mf2_tx_3
  have mf4_tx_4 := (hk4.1 tx 0 4 0 0 fsX0 htx rfl (by decide) (by decide)).trans mf2_tx_4
  have mf4_tm_3 := (hk4.1 tm 7 3 7 0 fsX8 htm rfl (by decide) (by decide)).trans hf2
  have mc4_tb := (hk4.2 tb 12 0 2 120 _ r0 rfl (by decide)).trans mc2_tb
  have kp4 := kp2.trans (hk4.mono (ms' := tmM) (fun x hx => by cases List.mem_singleton.mp hx; decide))
  have jm4 := (jm2).kept htx hk4 (by decide)
  have fr4 : ∀ p9 : Nat, p9 ∉ [tx, tm] → H4[p9]? = s.heap[p9]? := fun p9 h9 => (hq4 p9 (fun e9 => h9 (by rw [e9]; exact (List.mem_cons_of_mem _ List.mem_cons_self)))).trans (fr2 p9 h9)
  have jd4 := jF.put htm rfl (by decide) hk4 hf4 (show v3.toInt = 0 by omega) jd2
  refine lv_aload_n hx hb (eX8_start (10, .aload_n 0, 1) (List.mem_of_getElem? (i := 6) rfl)) rfl (lv_at hl 0 rfl) ?_
  refine ff_iconst hx hb (eX8_start (11, .iconst 0, 1) (List.mem_of_getElem? (i := 7) rfl)) (by decide) (by decide) (fun v5 e5 => ?_)
  refine tz_put (r := 7) (k := 6) (t := (0, (-2147483648), 2147483647)) hx hb hD hh4 htm rfl rfl ((hcl7 30 6 (0, (-2147483648), 2147483647) (by decide) rfl).2 (by decide)) (tz_i (zn_i32 _).1 (zn_i32 _).2) (eX8_start (12, .putfield 30, 3) (List.mem_of_getElem? (i := 8) rfl)) (fun H6 lo6 hh6 hf6 hk6 _ hq6 => ?_)
  have mf6_tx_0 := (hk6.1 tx 0 0 0 0 fsX0 htx rfl (by decide) (by decide)).trans mf4_tx_0
  have mf6_tx_1 := (hk6.1 tx 0 1 0 0 fsX0 htx rfl (by decide) (by decide)).trans mf4_tx_1
  have mf6_tx_2 := (hk6.1 tx 0 2 0 0 fsX0 htx rfl (by decide) (by decide)).trans mf4_tx_2
  have mf6_tx_3 := (hk6.1 tx 0 3 0 0 fsX0 htx rfl (by decide) (by decide)).trans mf4_tx_3
  have mf6_tx_4 := (hk6.1 tx 0 4 0 0 fsX0 htx rfl (by decide) (by decide)).trans mf4_tx_4
  have mf6_tm_3 := (hk6.1 tm 7 3 7 0 fsX8 htm rfl (by decide) (by decide)).trans mf4_tm_3
  have mf6_tm_5 := (hk6.1 tm 7 5 7 0 fsX8 htm rfl (by decide) (by decide)).trans hf4
  have mc6_tb := (hk6.2 tb 12 0 2 120 _ r0 rfl (by decide)).trans mc4_tb
  have kp6 := kp4.trans (hk6.mono (ms' := tmM) (fun x hx => by cases List.mem_singleton.mp hx; decide))
  have jm6 := (jm4).kept htx hk6 (by decide)
  have fr6 : ∀ p9 : Nat, p9 ∉ [tx, tm] → H6[p9]? = s.heap[p9]? := fun p9 h9 => (hq6 p9 (fun e9 => h9 (by rw [e9]; exact (List.mem_cons_of_mem _ List.mem_cons_self)))).trans (fr4 p9 h9)
  have jd6 := jF.put htm rfl (by decide) hk6 hf6 (show v5.toInt = 0 by omega) jd4
  refine lv_aload_n hx hb (eX8_start (15, .aload_n 0, 1) (List.mem_of_getElem? (i := 9) rfl)) rfl (lv_at hl 0 rfl) ?_
  refine ff_iconst hx hb (eX8_start (16, .iconst (-1), 1) (List.mem_of_getElem? (i := 10) rfl)) (by decide) (by decide) (fun v7 e7 => ?_)
  refine tz_put (r := 7) (k := 8) (t := (0, (-2147483648), 2147483647)) hx hb hD hh6 htm rfl rfl ((hcl7 36 8 (0, (-2147483648), 2147483647) (by decide) rfl).2 (by decide)) (tz_i (zn_i32 _).1 (zn_i32 _).2) (eX8_start (17, .putfield 36, 3) (List.mem_of_getElem? (i := 11) rfl)) (fun H8 lo8 hh8 hf8 hk8 _ hq8 => ?_)
  have mf8_tx_0 := (hk8.1 tx 0 0 0 0 fsX0 htx rfl (by decide) (by decide)).trans mf6_tx_0
  have mf8_tx_1 := (hk8.1 tx 0 1 0 0 fsX0 htx rfl (by decide) (by decide)).trans mf6_tx_1
  have mf8_tx_2 := (hk8.1 tx 0 2 0 0 fsX0 htx rfl (by decide) (by decide)).trans mf6_tx_2
  have mf8_tx_3 := (hk8.1 tx 0 3 0 0 fsX0 htx rfl (by decide) (by decide)).trans mf6_tx_3
  have mf8_tx_4 := (hk8.1 tx 0 4 0 0 fsX0 htx rfl (by decide) (by decide)).trans mf6_tx_4
  have mf8_tm_3 := (hk8.1 tm 7 3 7 0 fsX8 htm rfl (by decide) (by decide)).trans mf6_tm_3
  have mf8_tm_5 := (hk8.1 tm 7 5 7 0 fsX8 htm rfl (by decide) (by decide)).trans mf6_tm_5
  have mf8_tm_6 := (hk8.1 tm 7 6 7 0 fsX8 htm rfl (by decide) (by decide)).trans hf6
  have mc8_tb := (hk8.2 tb 12 0 2 120 _ r0 rfl (by decide)).trans mc6_tb
  have kp8 := kp6.trans (hk8.mono (ms' := tmM) (fun x hx => by cases List.mem_singleton.mp hx; decide))
  have jm8 := (jm6).kept htx hk8 (by decide)
  have fr8 : ∀ p9 : Nat, p9 ∉ [tx, tm] → H8[p9]? = s.heap[p9]? := fun p9 h9 => (hq8 p9 (fun e9 => h9 (by rw [e9]; exact (List.mem_cons_of_mem _ List.mem_cons_self)))).trans (fr6 p9 h9)
  have jd8 := jF.put htm rfl (by decide) hk8 hf8 (show v7.toInt = (-1) by omega) jd6
  refine lv_aload_n hx hb (eX8_start (20, .aload_n 0, 1) (List.mem_of_getElem? (i := 12) rfl)) rfl (lv_at hl 0 rfl) ?_
  refine ff_iconst hx hb (eX8_start (21, .iconst 0, 1) (List.mem_of_getElem? (i := 13) rfl)) (by decide) (by decide) (fun v9 e9 => ?_)
  refine tz_put (r := 7) (k := 9) (t := (0, 0, 1)) hx hb hD hh8 htm rfl rfl ((hcl7 39 9 (0, 0, 1) (by decide) rfl).2 (by decide)) (tz_i (by omega) (by omega)) (eX8_start (22, .putfield 39, 3) (List.mem_of_getElem? (i := 14) rfl)) (fun H10 lo10 hh10 hf10 hk10 _ hq10 => ?_)
  have mf10_tx_0 := (hk10.1 tx 0 0 0 0 fsX0 htx rfl (by decide) (by decide)).trans mf8_tx_0
  have mf10_tx_1 := (hk10.1 tx 0 1 0 0 fsX0 htx rfl (by decide) (by decide)).trans mf8_tx_1
  have mf10_tx_2 := (hk10.1 tx 0 2 0 0 fsX0 htx rfl (by decide) (by decide)).trans mf8_tx_2
  have mf10_tx_3 := (hk10.1 tx 0 3 0 0 fsX0 htx rfl (by decide) (by decide)).trans mf8_tx_3
  have mf10_tx_4 := (hk10.1 tx 0 4 0 0 fsX0 htx rfl (by decide) (by decide)).trans mf8_tx_4
  have mf10_tm_3 := (hk10.1 tm 7 3 7 0 fsX8 htm rfl (by decide) (by decide)).trans mf8_tm_3
  have mf10_tm_5 := (hk10.1 tm 7 5 7 0 fsX8 htm rfl (by decide) (by decide)).trans mf8_tm_5
  have mf10_tm_6 := (hk10.1 tm 7 6 7 0 fsX8 htm rfl (by decide) (by decide)).trans mf8_tm_6
  have mf10_tm_8 := (hk10.1 tm 7 8 7 0 fsX8 htm rfl (by decide) (by decide)).trans hf8
  have mc10_tb := (hk10.2 tb 12 0 2 120 _ r0 rfl (by decide)).trans mc8_tb
  have kp10 := kp8.trans (hk10.mono (ms' := tmM) (fun x hx => by cases List.mem_singleton.mp hx; decide))
  have jm10 := (jm8).kept htx hk10 (by decide)
  have fr10 : ∀ p9 : Nat, p9 ∉ [tx, tm] → H10[p9]? = s.heap[p9]? := fun p9 h9 => (hq10 p9 (fun e9 => h9 (by rw [e9]; exact (List.mem_cons_of_mem _ List.mem_cons_self)))).trans (fr8 p9 h9)
  have jd10 := jF.put htm rfl (by decide) hk10 hf10 (show v9.toInt = 0 by omega) jd8
  refine lv_aload_n hx hb (eX8_start (25, .aload_n 0, 1) (List.mem_of_getElem? (i := 15) rfl)) rfl (lv_at hl 0 rfl) ?_
  refine ff_iconst hx hb (eX8_start (26, .iconst 0, 1) (List.mem_of_getElem? (i := 16) rfl)) (by decide) (by decide) (fun v11 e11 => ?_)
  refine tz_put (r := 7) (k := 11) (t := (0, (-2147483648), 2147483647)) hx hb hD hh10 htm rfl rfl ((hcl7 46 11 (0, (-2147483648), 2147483647) (by decide) rfl).2 (by decide)) (tz_i (zn_i32 _).1 (zn_i32 _).2) (eX8_start (27, .putfield 46, 3) (List.mem_of_getElem? (i := 17) rfl)) (fun H12 lo12 hh12 hf12 hk12 _ hq12 => ?_)
  have mf12_tx_0 := (hk12.1 tx 0 0 0 0 fsX0 htx rfl (by decide) (by decide)).trans mf10_tx_0
  have mf12_tx_1 := (hk12.1 tx 0 1 0 0 fsX0 htx rfl (by decide) (by decide)).trans mf10_tx_1
  have mf12_tx_2 := (hk12.1 tx 0 2 0 0 fsX0 htx rfl (by decide) (by decide)).trans mf10_tx_2
  have mf12_tx_3 := (hk12.1 tx 0 3 0 0 fsX0 htx rfl (by decide) (by decide)).trans mf10_tx_3
  have mf12_tx_4 := (hk12.1 tx 0 4 0 0 fsX0 htx rfl (by decide) (by decide)).trans mf10_tx_4
  have mf12_tm_3 := (hk12.1 tm 7 3 7 0 fsX8 htm rfl (by decide) (by decide)).trans mf10_tm_3
  have mf12_tm_5 := (hk12.1 tm 7 5 7 0 fsX8 htm rfl (by decide) (by decide)).trans mf10_tm_5
  have mf12_tm_6 := (hk12.1 tm 7 6 7 0 fsX8 htm rfl (by decide) (by decide)).trans mf10_tm_6
  have mf12_tm_8 := (hk12.1 tm 7 8 7 0 fsX8 htm rfl (by decide) (by decide)).trans mf10_tm_8
  have mf12_tm_9 := (hk12.1 tm 7 9 7 0 fsX8 htm rfl (by decide) (by decide)).trans hf10
  have mc12_tb := (hk12.2 tb 12 0 2 120 _ r0 rfl (by decide)).trans mc10_tb
  have kp12 := kp10.trans (hk12.mono (ms' := tmM) (fun x hx => by cases List.mem_singleton.mp hx; decide))
  have jm12 := (jm10).kept htx hk12 (by decide)
  have fr12 : ∀ p9 : Nat, p9 ∉ [tx, tm] → H12[p9]? = s.heap[p9]? := fun p9 h9 => (hq12 p9 (fun e9 => h9 (by rw [e9]; exact (List.mem_cons_of_mem _ List.mem_cons_self)))).trans (fr10 p9 h9)
  have jd12 := jF.put htm rfl (by decide) hk12 hf12 (show v11.toInt = 0 by omega) jd10
  refine lv_aload_n hx hb (eX8_start (30, .aload_n 0, 1) (List.mem_of_getElem? (i := 18) rfl)) rfl (lv_at hl 0 rfl) ?_
  refine ff_iconst hx hb (eX8_start (31, .iconst 0, 1) (List.mem_of_getElem? (i := 19) rfl)) (by decide) (by decide) (fun v13 e13 => ?_)
  refine tz_put (r := 7) (k := 13) (t := (0, (-2147483648), 2147483647)) hx hb hD hh12 htm rfl rfl ((hcl7 52 13 (0, (-2147483648), 2147483647) (by decide) rfl).2 (by decide)) (tz_i (zn_i32 _).1 (zn_i32 _).2) (eX8_start (32, .putfield 52, 3) (List.mem_of_getElem? (i := 20) rfl)) (fun H14 lo14 hh14 hf14 hk14 _ hq14 => ?_)
  have mf14_tx_0 := (hk14.1 tx 0 0 0 0 fsX0 htx rfl (by decide) (by decide)).trans mf12_tx_0
  have mf14_tx_1 := (hk14.1 tx 0 1 0 0 fsX0 htx rfl (by decide) (by decide)).trans mf12_tx_1
  have mf14_tx_2 := (hk14.1 tx 0 2 0 0 fsX0 htx rfl (by decide) (by decide)).trans mf12_tx_2
  have mf14_tx_3 := (hk14.1 tx 0 3 0 0 fsX0 htx rfl (by decide) (by decide)).trans mf12_tx_3
  have mf14_tx_4 := (hk14.1 tx 0 4 0 0 fsX0 htx rfl (by decide) (by decide)).trans mf12_tx_4
  have mf14_tm_3 := (hk14.1 tm 7 3 7 0 fsX8 htm rfl (by decide) (by decide)).trans mf12_tm_3
  have mf14_tm_5 := (hk14.1 tm 7 5 7 0 fsX8 htm rfl (by decide) (by decide)).trans mf12_tm_5
  have mf14_tm_6 := (hk14.1 tm 7 6 7 0 fsX8 htm rfl (by decide) (by decide)).trans mf12_tm_6
  have mf14_tm_8 := (hk14.1 tm 7 8 7 0 fsX8 htm rfl (by decide) (by decide)).trans mf12_tm_8
  have mf14_tm_9 := (hk14.1 tm 7 9 7 0 fsX8 htm rfl (by decide) (by decide)).trans mf12_tm_9
  have mf14_tm_11 := (hk14.1 tm 7 11 7 0 fsX8 htm rfl (by decide) (by decide)).trans hf12
  have mc14_tb := (hk14.2 tb 12 0 2 120 _ r0 rfl (by decide)).trans mc12_tb
  have kp14 := kp12.trans (hk14.mono (ms' := tmM) (fun x hx => by cases List.mem_singleton.mp hx; decide))
  have jm14 := (jm12).kept htx hk14 (by decide)
  have fr14 : ∀ p9 : Nat, p9 ∉ [tx, tm] → H14[p9]? = s.heap[p9]? := fun p9 h9 => (hq14 p9 (fun e9 => h9 (by rw [e9]; exact (List.mem_cons_of_mem _ List.mem_cons_self)))).trans (fr12 p9 h9)
  have jd14 := jF.put htm rfl (by decide) hk14 hf14 (show v13.toInt = 0 by omega) jd12
  refine lv_aload_n hx hb (eX8_start (35, .aload_n 0, 1) (List.mem_of_getElem? (i := 21) rfl)) rfl (lv_at hl 0 rfl) ?_
  refine lv_aload_n hx hb (eX8_start (36, .aload_n 1, 1) (List.mem_of_getElem? (i := 22) rfl)) rfl (lv_at hl 1 rfl) ?_
  refine tz_get (r := 0) (k := 2) (t := (0, (-2147483648), 2147483647)) hx hb hh14 htx rfl rfl (hcl0 55 2 (0, (-2147483648), 2147483647) (by decide) rfl).1 mf14_tx_2 (eX8_start (37, .getfield 55, 3) (List.mem_of_getElem? (i := 23) rfl)) ?_
  refine tz_put (r := 7) (k := 0) (t := (0, (-2147483648), 2147483647)) hx hb hD hh14 htm rfl rfl ((hcl7 9 0 (0, (-2147483648), 2147483647) (by decide) rfl).2 (by decide)) (tz_i (zn_i32 _).1 (zn_i32 _).2) (eX8_start (40, .putfield 9, 3) (List.mem_of_getElem? (i := 24) rfl)) (fun H15 lo15 hh15 hf15 hk15 _ hq15 => ?_)
  have mf15_tx_0 := (hk15.1 tx 0 0 0 0 fsX0 htx rfl (by decide) (by decide)).trans mf14_tx_0
  have mf15_tx_1 := (hk15.1 tx 0 1 0 0 fsX0 htx rfl (by decide) (by decide)).trans mf14_tx_1
  have mf15_tx_2 := (hk15.1 tx 0 2 0 0 fsX0 htx rfl (by decide) (by decide)).trans mf14_tx_2
  have mf15_tx_3 := (hk15.1 tx 0 3 0 0 fsX0 htx rfl (by decide) (by decide)).trans mf14_tx_3
  have mf15_tx_4 := (hk15.1 tx 0 4 0 0 fsX0 htx rfl (by decide) (by decide)).trans mf14_tx_4
  have mf15_tm_3 := (hk15.1 tm 7 3 7 0 fsX8 htm rfl (by decide) (by decide)).trans mf14_tm_3
  have mf15_tm_5 := (hk15.1 tm 7 5 7 0 fsX8 htm rfl (by decide) (by decide)).trans mf14_tm_5
  have mf15_tm_6 := (hk15.1 tm 7 6 7 0 fsX8 htm rfl (by decide) (by decide)).trans mf14_tm_6
  have mf15_tm_8 := (hk15.1 tm 7 8 7 0 fsX8 htm rfl (by decide) (by decide)).trans mf14_tm_8
  have mf15_tm_9 := (hk15.1 tm 7 9 7 0 fsX8 htm rfl (by decide) (by decide)).trans mf14_tm_9
  have mf15_tm_11 := (hk15.1 tm 7 11 7 0 fsX8 htm rfl (by decide) (by decide)).trans mf14_tm_11
  have mf15_tm_13 := (hk15.1 tm 7 13 7 0 fsX8 htm rfl (by decide) (by decide)).trans hf14
  have mc15_tb := (hk15.2 tb 12 0 2 120 _ r0 rfl (by decide)).trans mc14_tb
  have kp15 := kp14.trans (hk15.mono (ms' := tmM) (fun x hx => by cases List.mem_singleton.mp hx; decide))
  have jm15 := (jm14).kept htx hk15 (by decide)
  have fr15 : ∀ p9 : Nat, p9 ∉ [tx, tm] → H15[p9]? = s.heap[p9]? := fun p9 h9 => (hq15 p9 (fun e9 => h9 (by rw [e9]; exact (List.mem_cons_of_mem _ List.mem_cons_self)))).trans (fr14 p9 h9)
  have jd15 := jF.put htm rfl (by decide) hk15 hf15 (show av.toInt = (sg).1 by omega) jd14
  refine lv_aload_n hx hb (eX8_start (43, .aload_n 0, 1) (List.mem_of_getElem? (i := 25) rfl)) rfl (lv_at hl 0 rfl) ?_
  refine lv_aload_n hx hb (eX8_start (44, .aload_n 1, 1) (List.mem_of_getElem? (i := 26) rfl)) rfl (lv_at hl 1 rfl) ?_
  refine ff_iconst hx hb (eX8_start (45, .iconst 2, 1) (List.mem_of_getElem? (i := 27) rfl)) (by decide) (by decide) (fun v16 e16 => ?_)
  refine ff_iconst hx hb (eX8_start (46, .iconst 2, 1) (List.mem_of_getElem? (i := 28) rfl)) (by decide) (by decide) (fun v17 e17 => ?_)
  refine tz_rowV (As := [.int v16, .int v17]) (st := [.ref tm]) (b := tx) (C := RX0) (Ts := gT) hx hb hml hown h2 (fun _ h => h) (hX0_numberW l D cA ro sz H0 tx v16 v17 2 2 T (sg) htx (by omega) (by omega) (by decide)) ⟨rfl, rfl⟩ ⟨by decide, by decide⟩ ⟨by decide, by decide⟩ (tb_4 60 rfl rfl) (tb_1 5 rfl rfl) (tb_4 239 rfl rfl) (tb_4 58 rfl rfl) (tb_4 59 rfl rfl) (show yX0_number.cls ≠ "java/lang/invoke/MethodHandle" ∧ yX0_number.cls ≠ "java/lang/invoke/VarHandle" ∧ (parseMethodDescriptor yX0_number.desc).map (fun d => d.parameters.length) = some 2 by decide +kernel) zs_blind (zs_ob hh15 htx (show RTg[0]? = some (0, 0, 0, fsX0) from rfl) (zCX0 hKn.1)) (fun U hU hW => ⟨rfl, by rw [hU]; exact hh15.l0, zKb s U hW.alike hKn, by rw [hU]; exact jm15⟩) hh15.2.2.1 hl.1 (Nat.le_of_ble_eq_true rfl) (eX8_start (47, .invokevirtual 60, 3) (List.mem_of_getElem? (i := 29) rfl)) (fun r18 s18 t18 lo18 g18 f18 l18 => ?_)
  obtain ⟨v18, q18, e18, z18, c18, j18, fx18⟩ := f18
  cases q18
  rw [g18] at c18 fx18
  have fr18 : ∀ p9 : Nat, p9 ∉ [tx, tm] → t18.heap[p9]? = s.heap[p9]? := fun p9 h9 => (fx18 p9 (fun q => h9 (by rw [List.mem_singleton.mp q]; exact List.mem_cons_self))).trans (fr15 p9 h9)
  have hh18 : zh_ok D cA RTg ro sz H0 t18.heap lo18 := ⟨z18.1, z18.2.1, l18, z18.2.2.2⟩
  have kp18 := kp15.trans (c18.mono (ms' := tmM) (by decide))
  have kf18 := nbF_hM (T := T) (ld := 2) (n := 2) (s := sg) (M := 99) (by decide)
  generalize hx18 : nbF T 2 2 0 0 sg = x18 at j18 e18 kf18
  have uu18 := j18.2.2
  unfold uOK at uu18
  have mf18_tx_0 := (c18.1 tx 0 0 0 0 fsX0 htx rfl (by decide) (by decide)).trans mf15_tx_0
  have mf18_tx_1 := (c18.1 tx 0 1 0 0 fsX0 htx rfl (by decide) (by decide)).trans mf15_tx_1
  have mf18_tm_3 := (c18.1 tm 7 3 7 0 fsX8 htm rfl (by decide) (by decide)).trans mf15_tm_3
  have mf18_tm_5 := (c18.1 tm 7 5 7 0 fsX8 htm rfl (by decide) (by decide)).trans mf15_tm_5
  have mf18_tm_6 := (c18.1 tm 7 6 7 0 fsX8 htm rfl (by decide) (by decide)).trans mf15_tm_6
  have mf18_tm_8 := (c18.1 tm 7 8 7 0 fsX8 htm rfl (by decide) (by decide)).trans mf15_tm_8
  have mf18_tm_9 := (c18.1 tm 7 9 7 0 fsX8 htm rfl (by decide) (by decide)).trans mf15_tm_9
  have mf18_tm_11 := (c18.1 tm 7 11 7 0 fsX8 htm rfl (by decide) (by decide)).trans mf15_tm_11
  have mf18_tm_13 := (c18.1 tm 7 13 7 0 fsX8 htm rfl (by decide) (by decide)).trans mf15_tm_13
  have mf18_tm_0 := (c18.1 tm 7 0 7 0 fsX8 htm rfl (by decide) (by decide)).trans hf15
  have jd18 := jd15.kept htm rfl (by decide) c18 (by decide)
  refine W.eq (g2 := F0 m 50 ls [.int v18, .ref tm]) rfl ?_
  refine tz_put (r := 7) (k := 1) (t := (0, (-2147483648), 2147483647)) hx hb hD hh18 htm rfl rfl ((hcl7 15 1 (0, (-2147483648), 2147483647) (by decide) rfl).2 (by decide)) (tz_i (zn_i32 _).1 (zn_i32 _).2) (eX8_start (50, .putfield 15, 3) (List.mem_of_getElem? (i := 30) rfl)) (fun H19 lo19 hh19 hf19 hk19 _ hq19 => ?_)
  have mf19_tx_0 := (hk19.1 tx 0 0 0 0 fsX0 htx rfl (by decide) (by decide)).trans mf18_tx_0
  have mf19_tx_1 := (hk19.1 tx 0 1 0 0 fsX0 htx rfl (by decide) (by decide)).trans mf18_tx_1
  have mf19_tm_3 := (hk19.1 tm 7 3 7 0 fsX8 htm rfl (by decide) (by decide)).trans mf18_tm_3
  have mf19_tm_5 := (hk19.1 tm 7 5 7 0 fsX8 htm rfl (by decide) (by decide)).trans mf18_tm_5
  have mf19_tm_6 := (hk19.1 tm 7 6 7 0 fsX8 htm rfl (by decide) (by decide)).trans mf18_tm_6
  have mf19_tm_8 := (hk19.1 tm 7 8 7 0 fsX8 htm rfl (by decide) (by decide)).trans mf18_tm_8
  have mf19_tm_9 := (hk19.1 tm 7 9 7 0 fsX8 htm rfl (by decide) (by decide)).trans mf18_tm_9
  have mf19_tm_11 := (hk19.1 tm 7 11 7 0 fsX8 htm rfl (by decide) (by decide)).trans mf18_tm_11
  have mf19_tm_13 := (hk19.1 tm 7 13 7 0 fsX8 htm rfl (by decide) (by decide)).trans mf18_tm_13
  have mf19_tm_0 := (hk19.1 tm 7 0 7 0 fsX8 htm rfl (by decide) (by decide)).trans mf18_tm_0
  have kp19 := kp18.trans (hk19.mono (ms' := tmM) (fun x hx => by cases List.mem_singleton.mp hx; decide))
  have jm19 := (j18).kept htx hk19 (by decide)
  have fr19 : ∀ p9 : Nat, p9 ∉ [tx, tm] → H19[p9]? = s.heap[p9]? := fun p9 h9 => (hq19 p9 (fun e9 => h9 (by rw [e9]; exact (List.mem_cons_of_mem _ List.mem_cons_self)))).trans (fr18 p9 h9)
  have jd19 := jF.put htm rfl (by decide) hk19 hf19 (show v18.toInt = x18.1 by omega) jd18
  have hfin : tsF T (f, sg) = ((upF (upF (upF (upF (upF (upF (upF (upF (upF f 3 (0)) 5 (0)) 6 (0)) 8 ((-1))) 9 (0)) 11 (0)) 13 (0)) 0 ((sg).1)) 1 (x18.1)), x18.2) := by first | (simp only [tsF, nmF, hx18, up_eq]; done) | (simp only [tsF, nmF, hx18, up_eq] <;> rfl) | rfl
  exact W.vret hx hb hr (fun t ht hW => ⟨rfl, by rw [ht]; exact hh19.l0, by rw [ht]; exact kp19, by rw [ht, hfin]; exact jm19, by rw [ht, hfin]; exact jd19, by rw [ht]; exact fr19⟩) hh19.2.2.1 (eX8_start (53, .return_, 1) (List.mem_of_getElem? (i := 31) rfl))
set_option maxRecDepth 100000 in
set_option maxHeartbeats 4000000 in
theorem hX8_scanMinutes (l : Launch) (D : va_G) (cA : Nat → ClassId) (ro : Nat → Option Nat) (sz : Nat) (H0 : Heap) (tm : Nat) (tx : Nat) (T : List Int) (sg : uS) (f : fN) (htm : ro tm = some 7) (htx : ro tx = some 0) : Met l yX8_scanMinutes (gW yX8_scanMinutes cX8_scanMinutes 2 none) { frames := 2, cells := 0, slots := 0, locals := 46 } (zs_P D cA ro sz H0 (fun H => jU D cA ro H tx T sg ∧ jF D H tm 7 14 f) [.ref tm, .ref tx]) (du_V D cA ro sz H0 tmM tx T tm 7 14 (miF T (f, sg))) 0 0 (zy_fr sz) := by
  refine zy_ofW (cc := cX8_scanMinutes) (maxL := 2) (ret := none) (by decide +kernel) rfl ?_
  intro p e s m args below meth c s1 B hml hv
  obtain ⟨rfl, hh, hKn, hJ⟩ := hv
  have hx := B.exec
  have hb := B.bytes
  have hr := B.returns
  have hlk := B.notSynchronized
  have hts0 := atoms_spec (ws := gW yX8_scanMinutes cX8_scanMinutes 2 none) B.pre
  have h2 : ∀ w ∈ gT, w.before ([.ref tm, .ref tx] : List Value).toArray s = true := fun w hw => hts0 w (List.mem_cons_of_mem _ hw)
  have hown : s.vm.findClass RX8 = some m.cls := findClass_of_methodNamed B.named
  have hl := lv_entry [.ref tm, .ref tx] (n := 2) (Nat.le_of_ble_eq_true rfl)
  rw [lg_entry_eq]
  generalize (lg_sl [.ref tm, .ref tx] ++ List.replicate (2 - (lg_sl [.ref tm, .ref tx]).length) Slot.unset).toArray = ls at hl ⊢
  have hD := zD_all h2 hKn.1
  have hcl0 := fun (idx k : Nat) (t : zt_T) (h : (idx, 0, k) ∈ gfX8) (hk : fsX0[k]? = some t) => zf_clause (ro := ro) (ms := tmM) h2 hown hKn.1 gfX8_ok (by decide +kernel) idx 0 k 0 0 fsX0 t h rfl hk
  have hcl7 := fun (idx k : Nat) (t : zt_T) (h : (idx, 7, k) ∈ gfX8) (hk : fsX8[k]? = some t) => zf_clause (ro := ro) (ms := tmM) h2 hown hKn.1 gfX8_ok (by decide +kernel) idx 7 k 7 0 fsX8 t h rfl hk
  have kp0 : zc_kept D RTg ro tmM s.heap s.heap := zc_kept.refl
  obtain ⟨hJ, jd0⟩ := hJ
  obtain ⟨hjt, ⟨av, bv, wv, f2, f3, f4, hav, hbv, hwv⟩, hu⟩ := id hJ
  obtain ⟨tb, n, z, f0, r0, f1, hn, hc, hz⟩ := id hjt
  obtain ⟨n9, g9, n1, n2⟩ := zh_fT (k := 1) (t := (0, 0, 120)) hh htx (show RTg[0]? = some (0, 0, 0, fsX0) from rfl) rfl
  cases f1.symm.trans g9
  dsimp only at n1 n2
  clear g9
  obtain ⟨-, z9, c9, hy9⟩ := zh_arr hh r0 (show RTg[12]? = some (1, 2, 120, [(0, (-128), 127)]) from rfl)
  have hy : ∀ i, i < 120 → zt_ok ro (z i) (0, (-128), 127) := zs_arr (hc.symm.trans c9) hy9
  obtain ⟨u1, u2, u3⟩ := id hu
  have fr0 : ∀ p9 : Nat, p9 ∉ [tx, tm] → s.heap[p9]? = s.heap[p9]? := fun _ _ => rfl
  refine lv_aload_n hx hb (eX8_scanMinutes (0, .aload_n 0, 1) (List.mem_of_getElem? (i := 0) rfl)) rfl (lv_at hl 0 rfl) ?_
  refine ff_bipush hx hb (eX8_scanMinutes (1, .bipush 60, 2) (List.mem_of_getElem? (i := 1) rfl)) (by decide) (by decide) (fun v1 e1 => ?_)
  refine tz_put (r := 7) (k := 7) (t := (0, (-2147483648), 2147483647)) hx hb hD hh htm rfl rfl ((hcl7 33 7 (0, (-2147483648), 2147483647) (by decide) rfl).2 (by decide)) (tz_i (zn_i32 _).1 (zn_i32 _).2) (eX8_scanMinutes (3, .putfield 33, 3) (List.mem_of_getElem? (i := 2) rfl)) (fun H2 lo2 hh2 hf2 hk2 _ hq2 => ?_)
  have mf2_tx_0 := (hk2.1 tx 0 0 0 0 fsX0 htx rfl (by decide) (by decide)).trans f0
  have mf2_tx_1 := (hk2.1 tx 0 1 0 0 fsX0 htx rfl (by decide) (by decide)).trans f1
  have mf2_tx_2 := (hk2.1 tx 0 2 0 0 fsX0 htx rfl (by decide) (by decide)).trans f2
  have mf2_tx_3 := (hk2.1 tx 0 3 0 0 fsX0 htx rfl (by decide) (by decide)).trans f3
  have mf2_tx_4 := (hk2.1 tx 0 4 0 0 fsX0 htx rfl (by decide) (by decide)).trans f4
  have mc2_tb := (hk2.2 tb 12 0 2 120 _ r0 rfl (by decide)).trans hc
  have kp2 := kp0.trans (hk2.mono (ms' := tmM) (fun x hx => by cases List.mem_singleton.mp hx; decide))
  have jm2 := (hJ).kept htx hk2 (by decide)
  have fr2 : ∀ p9 : Nat, p9 ∉ [tx, tm] → H2[p9]? = s.heap[p9]? := fun p9 h9 => (hq2 p9 (fun e9 => h9 (by rw [e9]; exact (List.mem_cons_of_mem _ List.mem_cons_self)))).trans (fr0 p9 h9)
  have jd2 := jF.put htm rfl (by decide) hk2 hf2 (show v1.toInt = 60 by omega) jd0
  refine lv_aload_n hx hb (eX8_scanMinutes (6, .aload_n 0, 1) (List.mem_of_getElem? (i := 3) rfl)) rfl (lv_at hl 0 rfl) ?_
  refine lv_aload_n hx hb (eX8_scanMinutes (7, .aload_n 1, 1) (List.mem_of_getElem? (i := 4) rfl)) rfl (lv_at hl 1 rfl) ?_
  refine tz_get (r := 0) (k := 2) (t := (0, (-2147483648), 2147483647)) hx hb hh2 htx rfl rfl (hcl0 55 2 (0, (-2147483648), 2147483647) (by decide) rfl).1 mf2_tx_2 (eX8_scanMinutes (8, .getfield 55, 3) (List.mem_of_getElem? (i := 5) rfl)) ?_
  refine tz_put (r := 7) (k := 2) (t := (0, (-2147483648), 2147483647)) hx hb hD hh2 htm rfl rfl ((hcl7 18 2 (0, (-2147483648), 2147483647) (by decide) rfl).2 (by decide)) (tz_i (zn_i32 _).1 (zn_i32 _).2) (eX8_scanMinutes (11, .putfield 18, 3) (List.mem_of_getElem? (i := 6) rfl)) (fun H3 lo3 hh3 hf3 hk3 _ hq3 => ?_)
  have mf3_tx_0 := (hk3.1 tx 0 0 0 0 fsX0 htx rfl (by decide) (by decide)).trans mf2_tx_0
  have mf3_tx_1 := (hk3.1 tx 0 1 0 0 fsX0 htx rfl (by decide) (by decide)).trans mf2_tx_1
  have mf3_tx_2 := (hk3.1 tx 0 2 0 0 fsX0 htx rfl (by decide) (by decide)).trans mf2_tx_2
  have mf3_tx_3 := (hk3.1 tx 0 3 0 0 fsX0 htx rfl (by decide) (by decide)).trans mf2_tx_3
  have mf3_tx_4 := (hk3.1 tx 0 4 0 0 fsX0 htx rfl (by decide) (by decide)).trans mf2_tx_4
  have mf3_tm_7 := (hk3.1 tm 7 7 7 0 fsX8 htm rfl (by decide) (by decide)).trans hf2
  have mc3_tb := (hk3.2 tb 12 0 2 120 _ r0 rfl (by decide)).trans mc2_tb
  have kp3 := kp2.trans (hk3.mono (ms' := tmM) (fun x hx => by cases List.mem_singleton.mp hx; decide))
  have jm3 := (jm2).kept htx hk3 (by decide)
  have fr3 : ∀ p9 : Nat, p9 ∉ [tx, tm] → H3[p9]? = s.heap[p9]? := fun p9 h9 => (hq3 p9 (fun e9 => h9 (by rw [e9]; exact (List.mem_cons_of_mem _ List.mem_cons_self)))).trans (fr2 p9 h9)
  have jd3 := jF.put htm rfl (by decide) hk3 hf3 (show av.toInt = (sg).1 by omega) jd2
  refine lv_aload_n hx hb (eX8_scanMinutes (14, .aload_n 0, 1) (List.mem_of_getElem? (i := 7) rfl)) rfl (lv_at hl 0 rfl) ?_
  refine lv_aload_n hx hb (eX8_scanMinutes (15, .aload_n 1, 1) (List.mem_of_getElem? (i := 8) rfl)) rfl (lv_at hl 1 rfl) ?_
  refine ff_iconst hx hb (eX8_scanMinutes (16, .iconst 2, 1) (List.mem_of_getElem? (i := 9) rfl)) (by decide) (by decide) (fun v4 e4 => ?_)
  refine ff_iconst hx hb (eX8_scanMinutes (17, .iconst 2, 1) (List.mem_of_getElem? (i := 10) rfl)) (by decide) (by decide) (fun v5 e5 => ?_)
  refine tz_rowV (As := [.int v4, .int v5]) (st := [.ref tm]) (b := tx) (C := RX0) (Ts := gT) hx hb hml hown h2 (fun _ h => h) (hX0_numberW l D cA ro sz H0 tx v4 v5 2 2 T (sg) htx (by omega) (by omega) (by decide)) ⟨rfl, rfl⟩ ⟨by decide, by decide⟩ ⟨by decide, by decide⟩ (tb_4 60 rfl rfl) (tb_1 5 rfl rfl) (tb_4 239 rfl rfl) (tb_4 58 rfl rfl) (tb_4 59 rfl rfl) (show yX0_number.cls ≠ "java/lang/invoke/MethodHandle" ∧ yX0_number.cls ≠ "java/lang/invoke/VarHandle" ∧ (parseMethodDescriptor yX0_number.desc).map (fun d => d.parameters.length) = some 2 by decide +kernel) zs_blind (zs_ob hh3 htx (show RTg[0]? = some (0, 0, 0, fsX0) from rfl) (zCX0 hKn.1)) (fun U hU hW => ⟨rfl, by rw [hU]; exact hh3.l0, zKb s U hW.alike hKn, by rw [hU]; exact jm3⟩) hh3.2.2.1 hl.1 (Nat.le_of_ble_eq_true rfl) (eX8_scanMinutes (18, .invokevirtual 60, 3) (List.mem_of_getElem? (i := 11) rfl)) (fun r6 s6 t6 lo6 g6 f6 l6 => ?_)
  obtain ⟨v6, q6, e6, z6, c6, j6, fx6⟩ := f6
  cases q6
  rw [g6] at c6 fx6
  have fr6 : ∀ p9 : Nat, p9 ∉ [tx, tm] → t6.heap[p9]? = s.heap[p9]? := fun p9 h9 => (fx6 p9 (fun q => h9 (by rw [List.mem_singleton.mp q]; exact List.mem_cons_self))).trans (fr3 p9 h9)
  have hh6 : zh_ok D cA RTg ro sz H0 t6.heap lo6 := ⟨z6.1, z6.2.1, l6, z6.2.2.2⟩
  have kp6 := kp3.trans (c6.mono (ms' := tmM) (by decide))
  have kf6 := nbF_hM (T := T) (ld := 2) (n := 2) (s := sg) (M := 99) (by decide)
  generalize hx6 : nbF T 2 2 0 0 sg = x6 at j6 e6 kf6
  have uu6 := j6.2.2
  unfold uOK at uu6
  have mf6_tx_0 := (c6.1 tx 0 0 0 0 fsX0 htx rfl (by decide) (by decide)).trans mf3_tx_0
  have mf6_tx_1 := (c6.1 tx 0 1 0 0 fsX0 htx rfl (by decide) (by decide)).trans mf3_tx_1
  have mf6_tm_7 := (c6.1 tm 7 7 7 0 fsX8 htm rfl (by decide) (by decide)).trans mf3_tm_7
  have mf6_tm_2 := (c6.1 tm 7 2 7 0 fsX8 htm rfl (by decide) (by decide)).trans hf3
  have jd6 := jd3.kept htm rfl (by decide) c6 (by decide)
  refine W.eq (g2 := F0 m 21 ls [.int v6, .ref tm]) rfl ?_
  refine tz_put (r := 7) (k := 3) (t := (0, (-2147483648), 2147483647)) hx hb hD hh6 htm rfl rfl ((hcl7 21 3 (0, (-2147483648), 2147483647) (by decide) rfl).2 (by decide)) (tz_i (zn_i32 _).1 (zn_i32 _).2) (eX8_scanMinutes (21, .putfield 21, 3) (List.mem_of_getElem? (i := 12) rfl)) (fun H7 lo7 hh7 hf7 hk7 _ hq7 => ?_)
  have mf7_tx_0 := (hk7.1 tx 0 0 0 0 fsX0 htx rfl (by decide) (by decide)).trans mf6_tx_0
  have mf7_tx_1 := (hk7.1 tx 0 1 0 0 fsX0 htx rfl (by decide) (by decide)).trans mf6_tx_1
  have mf7_tm_7 := (hk7.1 tm 7 7 7 0 fsX8 htm rfl (by decide) (by decide)).trans mf6_tm_7
  have mf7_tm_2 := (hk7.1 tm 7 2 7 0 fsX8 htm rfl (by decide) (by decide)).trans mf6_tm_2
  have kp7 := kp6.trans (hk7.mono (ms' := tmM) (fun x hx => by cases List.mem_singleton.mp hx; decide))
  have jm7 := (j6).kept htx hk7 (by decide)
  have fr7 : ∀ p9 : Nat, p9 ∉ [tx, tm] → H7[p9]? = s.heap[p9]? := fun p9 h9 => (hq7 p9 (fun e9 => h9 (by rw [e9]; exact (List.mem_cons_of_mem _ List.mem_cons_self)))).trans (fr6 p9 h9)
  have jd7 := jF.put htm rfl (by decide) hk7 hf7 (show v6.toInt = x6.1 by omega) jd6
  have hfin : miF T (f, sg) = ((upF (upF (upF f 7 (60)) 2 ((sg).1)) 3 (x6.1)), x6.2) := by first | (simp only [miF, nmF, hx6, up_eq]; done) | (simp only [miF, nmF, hx6, up_eq] <;> rfl) | rfl
  exact W.vret hx hb hr (fun t ht hW => ⟨rfl, by rw [ht]; exact hh7.l0, by rw [ht]; exact kp7, by rw [ht, hfin]; exact jm7, by rw [ht, hfin]; exact jd7, by rw [ht]; exact fr7⟩) hh7.2.2.1 (eX8_scanMinutes (24, .return_, 1) (List.mem_of_getElem? (i := 13) rfl))
set_option maxRecDepth 100000 in
set_option maxHeartbeats 4000000 in
theorem hX8_scanSeconds (l : Launch) (D : va_G) (cA : Nat → ClassId) (ro : Nat → Option Nat) (sz : Nat) (H0 : Heap) (tm : Nat) (tx : Nat) (T : List Int) (sg : uS) (f : fN) (htm : ro tm = some 7) (htx : ro tx = some 0) : Met l yX8_scanSeconds (gW yX8_scanSeconds cX8_scanSeconds 2 none) { frames := 2, cells := 0, slots := 0, locals := 46 } (zs_P D cA ro sz H0 (fun H => jU D cA ro H tx T sg ∧ jF D H tm 7 14 f) [.ref tm, .ref tx]) (du_V D cA ro sz H0 tmM tx T tm 7 14 (scF9 T (f, sg))) 0 0 (zy_fr sz) := by
  refine zy_ofW (cc := cX8_scanSeconds) (maxL := 2) (ret := none) (by decide +kernel) rfl ?_
  intro p e s m args below meth c s1 B hml hv
  obtain ⟨rfl, hh, hKn, hJ⟩ := hv
  have hx := B.exec
  have hb := B.bytes
  have hr := B.returns
  have hlk := B.notSynchronized
  have hts0 := atoms_spec (ws := gW yX8_scanSeconds cX8_scanSeconds 2 none) B.pre
  have h2 : ∀ w ∈ gT, w.before ([.ref tm, .ref tx] : List Value).toArray s = true := fun w hw => hts0 w (List.mem_cons_of_mem _ hw)
  have hown : s.vm.findClass RX8 = some m.cls := findClass_of_methodNamed B.named
  have hl := lv_entry [.ref tm, .ref tx] (n := 2) (Nat.le_of_ble_eq_true rfl)
  rw [lg_entry_eq]
  generalize (lg_sl [.ref tm, .ref tx] ++ List.replicate (2 - (lg_sl [.ref tm, .ref tx]).length) Slot.unset).toArray = ls at hl ⊢
  have hD := zD_all h2 hKn.1
  have hcl0 := fun (idx k : Nat) (t : zt_T) (h : (idx, 0, k) ∈ gfX8) (hk : fsX0[k]? = some t) => zf_clause (ro := ro) (ms := tmM) h2 hown hKn.1 gfX8_ok (by decide +kernel) idx 0 k 0 0 fsX0 t h rfl hk
  have hcl7 := fun (idx k : Nat) (t : zt_T) (h : (idx, 7, k) ∈ gfX8) (hk : fsX8[k]? = some t) => zf_clause (ro := ro) (ms := tmM) h2 hown hKn.1 gfX8_ok (by decide +kernel) idx 7 k 7 0 fsX8 t h rfl hk
  have kp0 : zc_kept D RTg ro tmM s.heap s.heap := zc_kept.refl
  obtain ⟨hJ, jd0⟩ := hJ
  obtain ⟨hjt, ⟨av, bv, wv, f2, f3, f4, hav, hbv, hwv⟩, hu⟩ := id hJ
  obtain ⟨tb, n, z, f0, r0, f1, hn, hc, hz⟩ := id hjt
  obtain ⟨n9, g9, n1, n2⟩ := zh_fT (k := 1) (t := (0, 0, 120)) hh htx (show RTg[0]? = some (0, 0, 0, fsX0) from rfl) rfl
  cases f1.symm.trans g9
  dsimp only at n1 n2
  clear g9
  obtain ⟨-, z9, c9, hy9⟩ := zh_arr hh r0 (show RTg[12]? = some (1, 2, 120, [(0, (-128), 127)]) from rfl)
  have hy : ∀ i, i < 120 → zt_ok ro (z i) (0, (-128), 127) := zs_arr (hc.symm.trans c9) hy9
  obtain ⟨u1, u2, u3⟩ := id hu
  have fr0 : ∀ p9 : Nat, p9 ∉ [tx, tm] → s.heap[p9]? = s.heap[p9]? := fun _ _ => rfl
  refine lv_aload_n hx hb (eX8_scanSeconds (0, .aload_n 0, 1) (List.mem_of_getElem? (i := 0) rfl)) rfl (lv_at hl 0 rfl) ?_
  refine ff_iconst hx hb (eX8_scanSeconds (1, .iconst 1, 1) (List.mem_of_getElem? (i := 1) rfl)) (by decide) (by decide) (fun v1 e1 => ?_)
  refine tz_put (r := 7) (k := 7) (t := (0, (-2147483648), 2147483647)) hx hb hD hh htm rfl rfl ((hcl7 33 7 (0, (-2147483648), 2147483647) (by decide) rfl).2 (by decide)) (tz_i (zn_i32 _).1 (zn_i32 _).2) (eX8_scanSeconds (2, .putfield 33, 3) (List.mem_of_getElem? (i := 2) rfl)) (fun H2 lo2 hh2 hf2 hk2 _ hq2 => ?_)
  have mf2_tx_0 := (hk2.1 tx 0 0 0 0 fsX0 htx rfl (by decide) (by decide)).trans f0
  have mf2_tx_1 := (hk2.1 tx 0 1 0 0 fsX0 htx rfl (by decide) (by decide)).trans f1
  have mf2_tx_2 := (hk2.1 tx 0 2 0 0 fsX0 htx rfl (by decide) (by decide)).trans f2
  have mf2_tx_3 := (hk2.1 tx 0 3 0 0 fsX0 htx rfl (by decide) (by decide)).trans f3
  have mf2_tx_4 := (hk2.1 tx 0 4 0 0 fsX0 htx rfl (by decide) (by decide)).trans f4
  have mc2_tb := (hk2.2 tb 12 0 2 120 _ r0 rfl (by decide)).trans hc
  have kp2 := kp0.trans (hk2.mono (ms' := tmM) (fun x hx => by cases List.mem_singleton.mp hx; decide))
  have jm2 := (hJ).kept htx hk2 (by decide)
  have fr2 : ∀ p9 : Nat, p9 ∉ [tx, tm] → H2[p9]? = s.heap[p9]? := fun p9 h9 => (hq2 p9 (fun e9 => h9 (by rw [e9]; exact (List.mem_cons_of_mem _ List.mem_cons_self)))).trans (fr0 p9 h9)
  have jd2 := jF.put htm rfl (by decide) hk2 hf2 (show v1.toInt = 1 by omega) jd0
  refine lv_aload_n hx hb (eX8_scanSeconds (5, .aload_n 0, 1) (List.mem_of_getElem? (i := 3) rfl)) rfl (lv_at hl 0 rfl) ?_
  refine lv_aload_n hx hb (eX8_scanSeconds (6, .aload_n 1, 1) (List.mem_of_getElem? (i := 4) rfl)) rfl (lv_at hl 1 rfl) ?_
  refine tz_get (r := 0) (k := 2) (t := (0, (-2147483648), 2147483647)) hx hb hh2 htx rfl rfl (hcl0 55 2 (0, (-2147483648), 2147483647) (by decide) rfl).1 mf2_tx_2 (eX8_scanSeconds (7, .getfield 55, 3) (List.mem_of_getElem? (i := 5) rfl)) ?_
  refine tz_put (r := 7) (k := 4) (t := (0, (-2147483648), 2147483647)) hx hb hD hh2 htm rfl rfl ((hcl7 24 4 (0, (-2147483648), 2147483647) (by decide) rfl).2 (by decide)) (tz_i (zn_i32 _).1 (zn_i32 _).2) (eX8_scanSeconds (10, .putfield 24, 3) (List.mem_of_getElem? (i := 6) rfl)) (fun H3 lo3 hh3 hf3 hk3 _ hq3 => ?_)
  have mf3_tx_0 := (hk3.1 tx 0 0 0 0 fsX0 htx rfl (by decide) (by decide)).trans mf2_tx_0
  have mf3_tx_1 := (hk3.1 tx 0 1 0 0 fsX0 htx rfl (by decide) (by decide)).trans mf2_tx_1
  have mf3_tx_2 := (hk3.1 tx 0 2 0 0 fsX0 htx rfl (by decide) (by decide)).trans mf2_tx_2
  have mf3_tx_3 := (hk3.1 tx 0 3 0 0 fsX0 htx rfl (by decide) (by decide)).trans mf2_tx_3
  have mf3_tx_4 := (hk3.1 tx 0 4 0 0 fsX0 htx rfl (by decide) (by decide)).trans mf2_tx_4
  have mf3_tm_7 := (hk3.1 tm 7 7 7 0 fsX8 htm rfl (by decide) (by decide)).trans hf2
  have mc3_tb := (hk3.2 tb 12 0 2 120 _ r0 rfl (by decide)).trans mc2_tb
  have kp3 := kp2.trans (hk3.mono (ms' := tmM) (fun x hx => by cases List.mem_singleton.mp hx; decide))
  have jm3 := (jm2).kept htx hk3 (by decide)
  have fr3 : ∀ p9 : Nat, p9 ∉ [tx, tm] → H3[p9]? = s.heap[p9]? := fun p9 h9 => (hq3 p9 (fun e9 => h9 (by rw [e9]; exact (List.mem_cons_of_mem _ List.mem_cons_self)))).trans (fr2 p9 h9)
  have jd3 := jF.put htm rfl (by decide) hk3 hf3 (show av.toInt = (sg).1 by omega) jd2
  refine lv_aload_n hx hb (eX8_scanSeconds (13, .aload_n 0, 1) (List.mem_of_getElem? (i := 7) rfl)) rfl (lv_at hl 0 rfl) ?_
  refine lv_aload_n hx hb (eX8_scanSeconds (14, .aload_n 1, 1) (List.mem_of_getElem? (i := 8) rfl)) rfl (lv_at hl 1 rfl) ?_
  refine ff_iconst hx hb (eX8_scanSeconds (15, .iconst 2, 1) (List.mem_of_getElem? (i := 9) rfl)) (by decide) (by decide) (fun v4 e4 => ?_)
  refine ff_iconst hx hb (eX8_scanSeconds (16, .iconst 2, 1) (List.mem_of_getElem? (i := 10) rfl)) (by decide) (by decide) (fun v5 e5 => ?_)
  refine tz_rowV (As := [.int v4, .int v5]) (st := [.ref tm]) (b := tx) (C := RX0) (Ts := gT) hx hb hml hown h2 (fun _ h => h) (hX0_numberW l D cA ro sz H0 tx v4 v5 2 2 T (sg) htx (by omega) (by omega) (by decide)) ⟨rfl, rfl⟩ ⟨by decide, by decide⟩ ⟨by decide, by decide⟩ (tb_4 60 rfl rfl) (tb_1 5 rfl rfl) (tb_4 239 rfl rfl) (tb_4 58 rfl rfl) (tb_4 59 rfl rfl) (show yX0_number.cls ≠ "java/lang/invoke/MethodHandle" ∧ yX0_number.cls ≠ "java/lang/invoke/VarHandle" ∧ (parseMethodDescriptor yX0_number.desc).map (fun d => d.parameters.length) = some 2 by decide +kernel) zs_blind (zs_ob hh3 htx (show RTg[0]? = some (0, 0, 0, fsX0) from rfl) (zCX0 hKn.1)) (fun U hU hW => ⟨rfl, by rw [hU]; exact hh3.l0, zKb s U hW.alike hKn, by rw [hU]; exact jm3⟩) hh3.2.2.1 hl.1 (Nat.le_of_ble_eq_true rfl) (eX8_scanSeconds (17, .invokevirtual 60, 3) (List.mem_of_getElem? (i := 11) rfl)) (fun r6 s6 t6 lo6 g6 f6 l6 => ?_)
  obtain ⟨v6, q6, e6, z6, c6, j6, fx6⟩ := f6
  cases q6
  rw [g6] at c6 fx6
  have fr6 : ∀ p9 : Nat, p9 ∉ [tx, tm] → t6.heap[p9]? = s.heap[p9]? := fun p9 h9 => (fx6 p9 (fun q => h9 (by rw [List.mem_singleton.mp q]; exact List.mem_cons_self))).trans (fr3 p9 h9)
  have hh6 : zh_ok D cA RTg ro sz H0 t6.heap lo6 := ⟨z6.1, z6.2.1, l6, z6.2.2.2⟩
  have kp6 := kp3.trans (c6.mono (ms' := tmM) (by decide))
  have kf6 := nbF_hM (T := T) (ld := 2) (n := 2) (s := sg) (M := 99) (by decide)
  generalize hx6 : nbF T 2 2 0 0 sg = x6 at j6 e6 kf6
  have uu6 := j6.2.2
  unfold uOK at uu6
  have mf6_tx_0 := (c6.1 tx 0 0 0 0 fsX0 htx rfl (by decide) (by decide)).trans mf3_tx_0
  have mf6_tx_1 := (c6.1 tx 0 1 0 0 fsX0 htx rfl (by decide) (by decide)).trans mf3_tx_1
  have mf6_tm_7 := (c6.1 tm 7 7 7 0 fsX8 htm rfl (by decide) (by decide)).trans mf3_tm_7
  have mf6_tm_4 := (c6.1 tm 7 4 7 0 fsX8 htm rfl (by decide) (by decide)).trans hf3
  have jd6 := jd3.kept htm rfl (by decide) c6 (by decide)
  refine W.eq (g2 := F0 m 20 ls [.int v6, .ref tm]) rfl ?_
  refine tz_put (r := 7) (k := 5) (t := (0, (-2147483648), 2147483647)) hx hb hD hh6 htm rfl rfl ((hcl7 27 5 (0, (-2147483648), 2147483647) (by decide) rfl).2 (by decide)) (tz_i (zn_i32 _).1 (zn_i32 _).2) (eX8_scanSeconds (20, .putfield 27, 3) (List.mem_of_getElem? (i := 12) rfl)) (fun H7 lo7 hh7 hf7 hk7 _ hq7 => ?_)
  have mf7_tx_0 := (hk7.1 tx 0 0 0 0 fsX0 htx rfl (by decide) (by decide)).trans mf6_tx_0
  have mf7_tx_1 := (hk7.1 tx 0 1 0 0 fsX0 htx rfl (by decide) (by decide)).trans mf6_tx_1
  have mf7_tm_7 := (hk7.1 tm 7 7 7 0 fsX8 htm rfl (by decide) (by decide)).trans mf6_tm_7
  have mf7_tm_4 := (hk7.1 tm 7 4 7 0 fsX8 htm rfl (by decide) (by decide)).trans mf6_tm_4
  have kp7 := kp6.trans (hk7.mono (ms' := tmM) (fun x hx => by cases List.mem_singleton.mp hx; decide))
  have jm7 := (j6).kept htx hk7 (by decide)
  have fr7 : ∀ p9 : Nat, p9 ∉ [tx, tm] → H7[p9]? = s.heap[p9]? := fun p9 h9 => (hq7 p9 (fun e9 => h9 (by rw [e9]; exact (List.mem_cons_of_mem _ List.mem_cons_self)))).trans (fr6 p9 h9)
  have jd7 := jF.put htm rfl (by decide) hk7 hf7 (show v6.toInt = x6.1 by omega) jd6
  have hfin : scF9 T (f, sg) = ((upF (upF (upF f 7 (1)) 4 ((sg).1)) 5 (x6.1)), x6.2) := by first | (simp only [scF9, nmF, hx6, up_eq]; done) | (simp only [scF9, nmF, hx6, up_eq] <;> rfl) | rfl
  exact W.vret hx hb hr (fun t ht hW => ⟨rfl, by rw [ht]; exact hh7.l0, by rw [ht]; exact kp7, by rw [ht, hfin]; exact jm7, by rw [ht, hfin]; exact jd7, by rw [ht]; exact fr7⟩) hh7.2.2.1 (eX8_scanSeconds (23, .return_, 1) (List.mem_of_getElem? (i := 13) rfl))
set_option maxRecDepth 100000 in
set_option maxHeartbeats 4000000 in
theorem hX8_scanOffsetMinutes (l : Launch) (D : va_G) (cA : Nat → ClassId) (ro : Nat → Option Nat) (sz : Nat) (H0 : Heap) (tm : Nat) (tx : Nat) (T : List Int) (sg : uS) (f : fN) (htm : ro tm = some 7) (htx : ro tx = some 0) : Met l yX8_scanOffsetMinutes (gW yX8_scanOffsetMinutes cX8_scanOffsetMinutes 2 none) { frames := 2, cells := 0, slots := 0, locals := 46 } (zs_P D cA ro sz H0 (fun H => jU D cA ro H tx T sg ∧ jF D H tm 7 14 f) [.ref tm, .ref tx]) (du_V D cA ro sz H0 tmM tx T tm 7 14 (omF T (f, sg))) 0 0 (zy_fr sz) := by
  refine zy_ofW (cc := cX8_scanOffsetMinutes) (maxL := 2) (ret := none) (by decide +kernel) rfl ?_
  intro p e s m args below meth c s1 B hml hv
  obtain ⟨rfl, hh, hKn, hJ⟩ := hv
  have hx := B.exec
  have hb := B.bytes
  have hr := B.returns
  have hlk := B.notSynchronized
  have hts0 := atoms_spec (ws := gW yX8_scanOffsetMinutes cX8_scanOffsetMinutes 2 none) B.pre
  have h2 : ∀ w ∈ gT, w.before ([.ref tm, .ref tx] : List Value).toArray s = true := fun w hw => hts0 w (List.mem_cons_of_mem _ hw)
  have hown : s.vm.findClass RX8 = some m.cls := findClass_of_methodNamed B.named
  have hl := lv_entry [.ref tm, .ref tx] (n := 2) (Nat.le_of_ble_eq_true rfl)
  rw [lg_entry_eq]
  generalize (lg_sl [.ref tm, .ref tx] ++ List.replicate (2 - (lg_sl [.ref tm, .ref tx]).length) Slot.unset).toArray = ls at hl ⊢
  have hD := zD_all h2 hKn.1
  have hcl0 := fun (idx k : Nat) (t : zt_T) (h : (idx, 0, k) ∈ gfX8) (hk : fsX0[k]? = some t) => zf_clause (ro := ro) (ms := tmM) h2 hown hKn.1 gfX8_ok (by decide +kernel) idx 0 k 0 0 fsX0 t h rfl hk
  have hcl7 := fun (idx k : Nat) (t : zt_T) (h : (idx, 7, k) ∈ gfX8) (hk : fsX8[k]? = some t) => zf_clause (ro := ro) (ms := tmM) h2 hown hKn.1 gfX8_ok (by decide +kernel) idx 7 k 7 0 fsX8 t h rfl hk
  have kp0 : zc_kept D RTg ro tmM s.heap s.heap := zc_kept.refl
  obtain ⟨hJ, jd0⟩ := hJ
  obtain ⟨hjt, ⟨av, bv, wv, f2, f3, f4, hav, hbv, hwv⟩, hu⟩ := id hJ
  obtain ⟨tb, n, z, f0, r0, f1, hn, hc, hz⟩ := id hjt
  obtain ⟨n9, g9, n1, n2⟩ := zh_fT (k := 1) (t := (0, 0, 120)) hh htx (show RTg[0]? = some (0, 0, 0, fsX0) from rfl) rfl
  cases f1.symm.trans g9
  dsimp only at n1 n2
  clear g9
  obtain ⟨-, z9, c9, hy9⟩ := zh_arr hh r0 (show RTg[12]? = some (1, 2, 120, [(0, (-128), 127)]) from rfl)
  have hy : ∀ i, i < 120 → zt_ok ro (z i) (0, (-128), 127) := zs_arr (hc.symm.trans c9) hy9
  obtain ⟨u1, u2, u3⟩ := id hu
  have fr0 : ∀ p9 : Nat, p9 ∉ [tx, tm] → s.heap[p9]? = s.heap[p9]? := fun _ _ => rfl
  refine lv_aload_n hx hb (eX8_scanOffsetMinutes (0, .aload_n 0, 1) (List.mem_of_getElem? (i := 0) rfl)) rfl (lv_at hl 0 rfl) ?_
  refine lv_aload_n hx hb (eX8_scanOffsetMinutes (1, .aload_n 1, 1) (List.mem_of_getElem? (i := 1) rfl)) rfl (lv_at hl 1 rfl) ?_
  refine tz_get (r := 0) (k := 2) (t := (0, (-2147483648), 2147483647)) hx hb hh htx rfl rfl (hcl0 55 2 (0, (-2147483648), 2147483647) (by decide) rfl).1 f2 (eX8_scanOffsetMinutes (2, .getfield 55, 3) (List.mem_of_getElem? (i := 2) rfl)) ?_
  refine tz_put (r := 7) (k := 12) (t := (0, (-2147483648), 2147483647)) hx hb hD hh htm rfl rfl ((hcl7 49 12 (0, (-2147483648), 2147483647) (by decide) rfl).2 (by decide)) (tz_i (zn_i32 _).1 (zn_i32 _).2) (eX8_scanOffsetMinutes (5, .putfield 49, 3) (List.mem_of_getElem? (i := 3) rfl)) (fun H1 lo1 hh1 hf1 hk1 _ hq1 => ?_)
  have mf1_tx_0 := (hk1.1 tx 0 0 0 0 fsX0 htx rfl (by decide) (by decide)).trans f0
  have mf1_tx_1 := (hk1.1 tx 0 1 0 0 fsX0 htx rfl (by decide) (by decide)).trans f1
  have mf1_tx_2 := (hk1.1 tx 0 2 0 0 fsX0 htx rfl (by decide) (by decide)).trans f2
  have mf1_tx_3 := (hk1.1 tx 0 3 0 0 fsX0 htx rfl (by decide) (by decide)).trans f3
  have mf1_tx_4 := (hk1.1 tx 0 4 0 0 fsX0 htx rfl (by decide) (by decide)).trans f4
  have mc1_tb := (hk1.2 tb 12 0 2 120 _ r0 rfl (by decide)).trans hc
  have kp1 := kp0.trans (hk1.mono (ms' := tmM) (fun x hx => by cases List.mem_singleton.mp hx; decide))
  have jm1 := (hJ).kept htx hk1 (by decide)
  have fr1 : ∀ p9 : Nat, p9 ∉ [tx, tm] → H1[p9]? = s.heap[p9]? := fun p9 h9 => (hq1 p9 (fun e9 => h9 (by rw [e9]; exact (List.mem_cons_of_mem _ List.mem_cons_self)))).trans (fr0 p9 h9)
  have jd1 := jF.put htm rfl (by decide) hk1 hf1 (show av.toInt = (sg).1 by omega) jd0
  refine lv_aload_n hx hb (eX8_scanOffsetMinutes (8, .aload_n 0, 1) (List.mem_of_getElem? (i := 4) rfl)) rfl (lv_at hl 0 rfl) ?_
  refine lv_aload_n hx hb (eX8_scanOffsetMinutes (9, .aload_n 1, 1) (List.mem_of_getElem? (i := 5) rfl)) rfl (lv_at hl 1 rfl) ?_
  refine ff_iconst hx hb (eX8_scanOffsetMinutes (10, .iconst 2, 1) (List.mem_of_getElem? (i := 6) rfl)) (by decide) (by decide) (fun v2 e2 => ?_)
  refine ff_iconst hx hb (eX8_scanOffsetMinutes (11, .iconst 2, 1) (List.mem_of_getElem? (i := 7) rfl)) (by decide) (by decide) (fun v3 e3 => ?_)
  refine tz_rowV (As := [.int v2, .int v3]) (st := [.ref tm]) (b := tx) (C := RX0) (Ts := gT) hx hb hml hown h2 (fun _ h => h) (hX0_numberW l D cA ro sz H0 tx v2 v3 2 2 T (sg) htx (by omega) (by omega) (by decide)) ⟨rfl, rfl⟩ ⟨by decide, by decide⟩ ⟨by decide, by decide⟩ (tb_4 60 rfl rfl) (tb_1 5 rfl rfl) (tb_4 239 rfl rfl) (tb_4 58 rfl rfl) (tb_4 59 rfl rfl) (show yX0_number.cls ≠ "java/lang/invoke/MethodHandle" ∧ yX0_number.cls ≠ "java/lang/invoke/VarHandle" ∧ (parseMethodDescriptor yX0_number.desc).map (fun d => d.parameters.length) = some 2 by decide +kernel) zs_blind (zs_ob hh1 htx (show RTg[0]? = some (0, 0, 0, fsX0) from rfl) (zCX0 hKn.1)) (fun U hU hW => ⟨rfl, by rw [hU]; exact hh1.l0, zKb s U hW.alike hKn, by rw [hU]; exact jm1⟩) hh1.2.2.1 hl.1 (Nat.le_of_ble_eq_true rfl) (eX8_scanOffsetMinutes (12, .invokevirtual 60, 3) (List.mem_of_getElem? (i := 8) rfl)) (fun r4 s4 t4 lo4 g4 f4 l4 => ?_)
  obtain ⟨v4, q4, e4, z4, c4, j4, fx4⟩ := f4
  cases q4
  rw [g4] at c4 fx4
  have fr4 : ∀ p9 : Nat, p9 ∉ [tx, tm] → t4.heap[p9]? = s.heap[p9]? := fun p9 h9 => (fx4 p9 (fun q => h9 (by rw [List.mem_singleton.mp q]; exact List.mem_cons_self))).trans (fr1 p9 h9)
  have hh4 : zh_ok D cA RTg ro sz H0 t4.heap lo4 := ⟨z4.1, z4.2.1, l4, z4.2.2.2⟩
  have kp4 := kp1.trans (c4.mono (ms' := tmM) (by decide))
  have kf4 := nbF_hM (T := T) (ld := 2) (n := 2) (s := sg) (M := 99) (by decide)
  generalize hx4 : nbF T 2 2 0 0 sg = x4 at j4 e4 kf4
  have uu4 := j4.2.2
  unfold uOK at uu4
  have mf4_tx_0 := (c4.1 tx 0 0 0 0 fsX0 htx rfl (by decide) (by decide)).trans mf1_tx_0
  have mf4_tx_1 := (c4.1 tx 0 1 0 0 fsX0 htx rfl (by decide) (by decide)).trans mf1_tx_1
  have mf4_tm_12 := (c4.1 tm 7 12 7 0 fsX8 htm rfl (by decide) (by decide)).trans hf1
  have jd4 := jd1.kept htm rfl (by decide) c4 (by decide)
  refine W.eq (g2 := F0 m 15 ls [.int v4, .ref tm]) rfl ?_
  refine tz_put (r := 7) (k := 13) (t := (0, (-2147483648), 2147483647)) hx hb hD hh4 htm rfl rfl ((hcl7 52 13 (0, (-2147483648), 2147483647) (by decide) rfl).2 (by decide)) (tz_i (zn_i32 _).1 (zn_i32 _).2) (eX8_scanOffsetMinutes (15, .putfield 52, 3) (List.mem_of_getElem? (i := 9) rfl)) (fun H5 lo5 hh5 hf5 hk5 _ hq5 => ?_)
  have mf5_tx_0 := (hk5.1 tx 0 0 0 0 fsX0 htx rfl (by decide) (by decide)).trans mf4_tx_0
  have mf5_tx_1 := (hk5.1 tx 0 1 0 0 fsX0 htx rfl (by decide) (by decide)).trans mf4_tx_1
  have mf5_tm_12 := (hk5.1 tm 7 12 7 0 fsX8 htm rfl (by decide) (by decide)).trans mf4_tm_12
  have kp5 := kp4.trans (hk5.mono (ms' := tmM) (fun x hx => by cases List.mem_singleton.mp hx; decide))
  have jm5 := (j4).kept htx hk5 (by decide)
  have fr5 : ∀ p9 : Nat, p9 ∉ [tx, tm] → H5[p9]? = s.heap[p9]? := fun p9 h9 => (hq5 p9 (fun e9 => h9 (by rw [e9]; exact (List.mem_cons_of_mem _ List.mem_cons_self)))).trans (fr4 p9 h9)
  have jd5 := jF.put htm rfl (by decide) hk5 hf5 (show v4.toInt = x4.1 by omega) jd4
  have hfin : omF T (f, sg) = ((upF (upF f 12 ((sg).1)) 13 (x4.1)), x4.2) := by first | (simp only [omF, nmF, hx4, up_eq]; done) | (simp only [omF, nmF, hx4, up_eq] <;> rfl) | rfl
  exact W.vret hx hb hr (fun t ht hW => ⟨rfl, by rw [ht]; exact hh5.l0, by rw [ht]; exact kp5, by rw [ht, hfin]; exact jm5, by rw [ht, hfin]; exact jd5, by rw [ht]; exact fr5⟩) hh5.2.2.1 (eX8_scanOffsetMinutes (18, .return_, 1) (List.mem_of_getElem? (i := 10) rfl))
theorem lk_at {T : List Int} {g : uS} (hu : uOK T g) (h : lk T g = 43 ∨ lk T g = 45) : g.1 < (T.length : Int) := by
  have hb : g.2.1 = 0 := by
    apply Decidable.byContradiction
    intro b
    rw [lk_1 b] at h
    omega
  rw [lk_0 hb] at h
  exact byI_lt hu.1 (by omega)
set_option maxRecDepth 100000 in
set_option maxHeartbeats 4000000 in
theorem hX8_scanOffset (l : Launch) (D : va_G) (cA : Nat → ClassId) (ro : Nat → Option Nat) (sz : Nat) (H0 : Heap) (tm : Nat) (tx : Nat) (T : List Int) (sg : uS) (f : fN) (htm : ro tm = some 7) (htx : ro tx = some 0) (hpm : lk T sg = 43 ∨ lk T sg = 45) : Met l yX8_scanOffset (gW yX8_scanOffset cX8_scanOffset 2 none) { frames := 2, cells := 0, slots := 0, locals := 46 } (zs_P D cA ro sz H0 (fun H => jU D cA ro H tx T sg ∧ jF D H tm 7 14 f) [.ref tm, .ref tx]) (du_V D cA ro sz H0 tmM tx T tm 7 14 (ohF T (f, sg))) 0 0 (zy_fr sz) := by
  refine zy_ofW (cc := cX8_scanOffset) (maxL := 2) (ret := none) (by decide +kernel) rfl ?_
  intro p e s m args below meth c s1 B hml hv
  obtain ⟨rfl, hh, hKn, hJ⟩ := hv
  have hx := B.exec
  have hb := B.bytes
  have hr := B.returns
  have hlk := B.notSynchronized
  have hts0 := atoms_spec (ws := gW yX8_scanOffset cX8_scanOffset 2 none) B.pre
  have h2 : ∀ w ∈ gT, w.before ([.ref tm, .ref tx] : List Value).toArray s = true := fun w hw => hts0 w (List.mem_cons_of_mem _ hw)
  have hown : s.vm.findClass RX8 = some m.cls := findClass_of_methodNamed B.named
  have hl := lv_entry [.ref tm, .ref tx] (n := 2) (Nat.le_of_ble_eq_true rfl)
  rw [lg_entry_eq]
  generalize (lg_sl [.ref tm, .ref tx] ++ List.replicate (2 - (lg_sl [.ref tm, .ref tx]).length) Slot.unset).toArray = ls at hl ⊢
  have hD := zD_all h2 hKn.1
  have hcl0 := fun (idx k : Nat) (t : zt_T) (h : (idx, 0, k) ∈ gfX8) (hk : fsX0[k]? = some t) => zf_clause (ro := ro) (ms := tmM) h2 hown hKn.1 gfX8_ok (by decide +kernel) idx 0 k 0 0 fsX0 t h rfl hk
  have hcl7 := fun (idx k : Nat) (t : zt_T) (h : (idx, 7, k) ∈ gfX8) (hk : fsX8[k]? = some t) => zf_clause (ro := ro) (ms := tmM) h2 hown hKn.1 gfX8_ok (by decide +kernel) idx 7 k 7 0 fsX8 t h rfl hk
  have kp0 : zc_kept D RTg ro tmM s.heap s.heap := zc_kept.refl
  obtain ⟨hJ, jd0⟩ := hJ
  obtain ⟨hjt, ⟨av, bv, wv, f2, f3, f4, hav, hbv, hwv⟩, hu⟩ := id hJ
  obtain ⟨tb, n, z, f0, r0, f1, hn, hc, hz⟩ := id hjt
  obtain ⟨n9, g9, n1, n2⟩ := zh_fT (k := 1) (t := (0, 0, 120)) hh htx (show RTg[0]? = some (0, 0, 0, fsX0) from rfl) rfl
  cases f1.symm.trans g9
  dsimp only at n1 n2
  clear g9
  obtain ⟨-, z9, c9, hy9⟩ := zh_arr hh r0 (show RTg[12]? = some (1, 2, 120, [(0, (-128), 127)]) from rfl)
  have hy : ∀ i, i < 120 → zt_ok ro (z i) (0, (-128), 127) := zs_arr (hc.symm.trans c9) hy9
  obtain ⟨u1, u2, u3⟩ := id hu
  have hlt := lk_at hu hpm
  have fr0 : ∀ p9 : Nat, p9 ∉ [tx, tm] → s.heap[p9]? = s.heap[p9]? := fun _ _ => rfl
  refine lv_aload_n hx hb (eX8_scanOffset (0, .aload_n 0, 1) (List.mem_of_getElem? (i := 0) rfl)) rfl (lv_at hl 0 rfl) ?_
  refine ff_iconst hx hb (eX8_scanOffset (1, .iconst 0, 1) (List.mem_of_getElem? (i := 1) rfl)) (by decide) (by decide) (fun v1 e1 => ?_)
  refine tz_put (r := 7) (k := 8) (t := (0, (-2147483648), 2147483647)) hx hb hD hh htm rfl rfl ((hcl7 36 8 (0, (-2147483648), 2147483647) (by decide) rfl).2 (by decide)) (tz_i (zn_i32 _).1 (zn_i32 _).2) (eX8_scanOffset (2, .putfield 36, 3) (List.mem_of_getElem? (i := 2) rfl)) (fun H2 lo2 hh2 hf2 hk2 _ hq2 => ?_)
  have mf2_tx_0 := (hk2.1 tx 0 0 0 0 fsX0 htx rfl (by decide) (by decide)).trans f0
  have mf2_tx_1 := (hk2.1 tx 0 1 0 0 fsX0 htx rfl (by decide) (by decide)).trans f1
  have mf2_tx_2 := (hk2.1 tx 0 2 0 0 fsX0 htx rfl (by decide) (by decide)).trans f2
  have mf2_tx_3 := (hk2.1 tx 0 3 0 0 fsX0 htx rfl (by decide) (by decide)).trans f3
  have mf2_tx_4 := (hk2.1 tx 0 4 0 0 fsX0 htx rfl (by decide) (by decide)).trans f4
  have mc2_tb := (hk2.2 tb 12 0 2 120 _ r0 rfl (by decide)).trans hc
  have kp2 := kp0.trans (hk2.mono (ms' := tmM) (fun x hx => by cases List.mem_singleton.mp hx; decide))
  have jm2 := (hJ).kept htx hk2 (by decide)
  have fr2 : ∀ p9 : Nat, p9 ∉ [tx, tm] → H2[p9]? = s.heap[p9]? := fun p9 h9 => (hq2 p9 (fun e9 => h9 (by rw [e9]; exact (List.mem_cons_of_mem _ List.mem_cons_self)))).trans (fr0 p9 h9)
  have jd2 := jF.put htm rfl (by decide) hk2 hf2 (show v1.toInt = 0 by omega) jd0
  refine lv_aload_n hx hb (eX8_scanOffset (5, .aload_n 0, 1) (List.mem_of_getElem? (i := 3) rfl)) rfl (lv_at hl 0 rfl) ?_
  refine lv_aload_n hx hb (eX8_scanOffset (6, .aload_n 1, 1) (List.mem_of_getElem? (i := 4) rfl)) rfl (lv_at hl 1 rfl) ?_
  refine ff_bipush hx hb (eX8_scanOffset (7, .bipush 45, 2) (List.mem_of_getElem? (i := 5) rfl)) (by decide) (by decide) (fun v3 e3 => ?_)
  refine tz_rowV (As := [.int v3]) (st := [.ref tm]) (b := tx) (C := RX0) (Ts := gT) hx hb hml hown h2 (fun _ h => h) (hX0_isAt l D cA ro sz H0 tx v3 45 T (sg) htx (by omega)) ⟨rfl, rfl⟩ ⟨by decide, by decide⟩ ⟨by decide, by decide⟩ (tb_4 32 rfl rfl) (tb_1 5 rfl rfl) (tb_5 14 rfl rfl) (tb_4 30 rfl rfl) (tb_4 31 rfl rfl) (show yX0_isAt.cls ≠ "java/lang/invoke/MethodHandle" ∧ yX0_isAt.cls ≠ "java/lang/invoke/VarHandle" ∧ (parseMethodDescriptor yX0_isAt.desc).map (fun d => d.parameters.length) = some 1 by decide +kernel) zs_blind (zs_ob hh2 htx (show RTg[0]? = some (0, 0, 0, fsX0) from rfl) (zCX0 hKn.1)) (fun U hU hW => ⟨rfl, by rw [hU]; exact hh2.l0, zKb s U hW.alike hKn, by rw [hU]; exact jm2⟩) hh2.2.2.1 hl.1 (Nat.le_of_ble_eq_true rfl) (eX8_scanOffset (9, .invokevirtual 85, 3) (List.mem_of_getElem? (i := 6) rfl)) (fun r4 s4 t4 lo4 g4 f4 l4 => ?_)
  obtain ⟨z4, v4, q4, e4⟩ := f4
  cases q4
  rw [z4, g4]
  have hh4 : zh_ok D cA RTg ro sz H0 H2 lo4 := ⟨hh2.1, hh2.2.1, l4, hh2.2.2.2⟩
  refine W.eq (g2 := F0 m 12 ls [.int v4, .ref tm]) rfl ?_
  have hng : v4.toInt = (if lk T sg = 45 then 1 else 0) := by split <;> omega
  refine tz_put (r := 7) (k := 9) (t := (0, 0, 1)) hx hb hD hh4 htm rfl rfl ((hcl7 39 9 (0, 0, 1) (by decide) rfl).2 (by decide)) (tz_i (by omega) (by omega)) (eX8_scanOffset (12, .putfield 39, 3) (List.mem_of_getElem? (i := 7) rfl)) (fun H6 lo6 hh6 hf6 hk6 _ hq6 => ?_)
  have mf6_tx_0 := (hk6.1 tx 0 0 0 0 fsX0 htx rfl (by decide) (by decide)).trans mf2_tx_0
  have mf6_tx_1 := (hk6.1 tx 0 1 0 0 fsX0 htx rfl (by decide) (by decide)).trans mf2_tx_1
  have mf6_tx_2 := (hk6.1 tx 0 2 0 0 fsX0 htx rfl (by decide) (by decide)).trans mf2_tx_2
  have mf6_tx_3 := (hk6.1 tx 0 3 0 0 fsX0 htx rfl (by decide) (by decide)).trans mf2_tx_3
  have mf6_tx_4 := (hk6.1 tx 0 4 0 0 fsX0 htx rfl (by decide) (by decide)).trans mf2_tx_4
  have mf6_tm_8 := (hk6.1 tm 7 8 7 0 fsX8 htm rfl (by decide) (by decide)).trans hf2
  have mc6_tb := (hk6.2 tb 12 0 2 120 _ r0 rfl (by decide)).trans mc2_tb
  have kp6 := kp2.trans (hk6.mono (ms' := tmM) (fun x hx => by cases List.mem_singleton.mp hx; decide))
  have jm6 := (jm2).kept htx hk6 (by decide)
  have fr6 : ∀ p9 : Nat, p9 ∉ [tx, tm] → H6[p9]? = s.heap[p9]? := fun p9 h9 => (hq6 p9 (fun e9 => h9 (by rw [e9]; exact (List.mem_cons_of_mem _ List.mem_cons_self)))).trans (fr2 p9 h9)
  have jd6 := jF.put htm rfl (by decide) hk6 hf6 (show v4.toInt = if lk T sg = 45 then 1 else 0 by omega) jd2
  refine lv_aload_n hx hb (eX8_scanOffset (15, .aload_n 1, 1) (List.mem_of_getElem? (i := 8) rfl)) rfl (lv_at hl 1 rfl) ?_
  refine tz_rowV (As := []) (st := []) (b := tx) (C := RX0) (Ts := gT) hx hb hml hown h2 (fun _ h => h) (hX0_skip l D cA ro sz H0 tx T (sg) htx (hlt)) ⟨rfl, rfl⟩ ⟨by decide, by decide⟩ ⟨by decide, by decide⟩ (tb_4 36 rfl rfl) (tb_1 5 rfl rfl) (tb_5 19 rfl rfl) (tb_4 34 rfl rfl) (tb_4 35 rfl rfl) (show yX0_skip.cls ≠ "java/lang/invoke/MethodHandle" ∧ yX0_skip.cls ≠ "java/lang/invoke/VarHandle" ∧ (parseMethodDescriptor yX0_skip.desc).map (fun d => d.parameters.length) = some 0 by decide +kernel) zs_blind (zs_ob hh6 htx (show RTg[0]? = some (0, 0, 0, fsX0) from rfl) (zCX0 hKn.1)) (fun U hU hW => ⟨rfl, by rw [hU]; exact hh6.l0, zKb s U hW.alike hKn, by rw [hU]; exact jm6⟩) hh6.2.2.1 hl.1 (Nat.le_of_ble_eq_true rfl) (eX8_scanOffset (16, .invokevirtual 101, 3) (List.mem_of_getElem? (i := 9) rfl)) (fun r7 s7 t7 lo7 g7 f7 l7 => ?_)
  obtain ⟨q7, z7, c7, j7, fx7⟩ := f7
  cases q7
  rw [g7] at c7 fx7
  have fr7 : ∀ p9 : Nat, p9 ∉ [tx, tm] → t7.heap[p9]? = s.heap[p9]? := fun p9 h9 => (fx7 p9 (fun q => h9 (by rw [List.mem_singleton.mp q]; exact List.mem_cons_self))).trans (fr6 p9 h9)
  have hh7 : zh_ok D cA RTg ro sz H0 t7.heap lo7 := ⟨z7.1, z7.2.1, l7, z7.2.2.2⟩
  have kp7 := kp6.trans (c7.mono (ms' := tmM) (by decide))
  have mf7_tx_0 := (c7.1 tx 0 0 0 0 fsX0 htx rfl (by decide) (by decide)).trans mf6_tx_0
  have mf7_tx_1 := (c7.1 tx 0 1 0 0 fsX0 htx rfl (by decide) (by decide)).trans mf6_tx_1
  have mf7_tm_8 := (c7.1 tm 7 8 7 0 fsX8 htm rfl (by decide) (by decide)).trans mf6_tm_8
  have mf7_tm_9 := (c7.1 tm 7 9 7 0 fsX8 htm rfl (by decide) (by decide)).trans hf6
  have uu7 := j7.2.2
  unfold uOK at uu7
  have jd7 := jd6.kept htm rfl (by decide) c7 (by decide)
  refine W.eq (g2 := F0 m 19 ls []) rfl ?_
  refine lv_aload_n hx hb (eX8_scanOffset (19, .aload_n 0, 1) (List.mem_of_getElem? (i := 10) rfl)) rfl (lv_at hl 0 rfl) ?_
  refine lv_aload_n hx hb (eX8_scanOffset (20, .aload_n 1, 1) (List.mem_of_getElem? (i := 11) rfl)) rfl (lv_at hl 1 rfl) ?_
  obtain ⟨jt8, ⟨av8, bv8, wv8, f28, f38, f48, hav8, hbv8, hwv8⟩, hu8⟩ := id j7
  refine tz_get (r := 0) (k := 2) (t := (0, (-2147483648), 2147483647)) hx hb hh7 htx rfl rfl (hcl0 55 2 (0, (-2147483648), 2147483647) (by decide) rfl).1 f28 (eX8_scanOffset (21, .getfield 55, 3) (List.mem_of_getElem? (i := 12) rfl)) ?_
  refine tz_put (r := 7) (k := 10) (t := (0, (-2147483648), 2147483647)) hx hb hD hh7 htm rfl rfl ((hcl7 43 10 (0, (-2147483648), 2147483647) (by decide) rfl).2 (by decide)) (tz_i (zn_i32 _).1 (zn_i32 _).2) (eX8_scanOffset (24, .putfield 43, 3) (List.mem_of_getElem? (i := 13) rfl)) (fun H9 lo9 hh9 hf9 hk9 _ hq9 => ?_)
  have mf9_tx_0 := (hk9.1 tx 0 0 0 0 fsX0 htx rfl (by decide) (by decide)).trans mf7_tx_0
  have mf9_tx_1 := (hk9.1 tx 0 1 0 0 fsX0 htx rfl (by decide) (by decide)).trans mf7_tx_1
  have mf9_tm_8 := (hk9.1 tm 7 8 7 0 fsX8 htm rfl (by decide) (by decide)).trans mf7_tm_8
  have mf9_tm_9 := (hk9.1 tm 7 9 7 0 fsX8 htm rfl (by decide) (by decide)).trans mf7_tm_9
  have mf9_tx_2 := (hk9.1 tx 0 2 0 0 fsX0 htx rfl (by decide) (by decide)).trans f28
  have mf9_tx_3 := (hk9.1 tx 0 3 0 0 fsX0 htx rfl (by decide) (by decide)).trans f38
  have mf9_tx_4 := (hk9.1 tx 0 4 0 0 fsX0 htx rfl (by decide) (by decide)).trans f48
  have kp9 := kp7.trans (hk9.mono (ms' := tmM) (fun x hx => by cases List.mem_singleton.mp hx; decide))
  have jm9 := (j7).kept htx hk9 (by decide)
  have fr9 : ∀ p9 : Nat, p9 ∉ [tx, tm] → H9[p9]? = s.heap[p9]? := fun p9 h9 => (hq9 p9 (fun e9 => h9 (by rw [e9]; exact (List.mem_cons_of_mem _ List.mem_cons_self)))).trans (fr7 p9 h9)
  have jd9 := jF.put htm rfl (by decide) hk9 hf9 (show av8.toInt = ((sg.1 + 1, sg.2)).1 by omega) jd7
  refine lv_aload_n hx hb (eX8_scanOffset (27, .aload_n 0, 1) (List.mem_of_getElem? (i := 14) rfl)) rfl (lv_at hl 0 rfl) ?_
  refine lv_aload_n hx hb (eX8_scanOffset (28, .aload_n 1, 1) (List.mem_of_getElem? (i := 15) rfl)) rfl (lv_at hl 1 rfl) ?_
  refine ff_iconst hx hb (eX8_scanOffset (29, .iconst 2, 1) (List.mem_of_getElem? (i := 16) rfl)) (by decide) (by decide) (fun v10 e10 => ?_)
  refine ff_iconst hx hb (eX8_scanOffset (30, .iconst 2, 1) (List.mem_of_getElem? (i := 17) rfl)) (by decide) (by decide) (fun v11 e11 => ?_)
  refine tz_rowV (As := [.int v10, .int v11]) (st := [.ref tm]) (b := tx) (C := RX0) (Ts := gT) hx hb hml hown h2 (fun _ h => h) (hX0_numberW l D cA ro sz H0 tx v10 v11 2 2 T ((sg.1 + 1, sg.2)) htx (by omega) (by omega) (by decide)) ⟨rfl, rfl⟩ ⟨by decide, by decide⟩ ⟨by decide, by decide⟩ (tb_4 60 rfl rfl) (tb_1 5 rfl rfl) (tb_4 239 rfl rfl) (tb_4 58 rfl rfl) (tb_4 59 rfl rfl) (show yX0_number.cls ≠ "java/lang/invoke/MethodHandle" ∧ yX0_number.cls ≠ "java/lang/invoke/VarHandle" ∧ (parseMethodDescriptor yX0_number.desc).map (fun d => d.parameters.length) = some 2 by decide +kernel) zs_blind (zs_ob hh9 htx (show RTg[0]? = some (0, 0, 0, fsX0) from rfl) (zCX0 hKn.1)) (fun U hU hW => ⟨rfl, by rw [hU]; exact hh9.l0, zKb s U hW.alike hKn, by rw [hU]; exact jm9⟩) hh9.2.2.1 hl.1 (Nat.le_of_ble_eq_true rfl) (eX8_scanOffset (31, .invokevirtual 60, 3) (List.mem_of_getElem? (i := 18) rfl)) (fun r12 s12 t12 lo12 g12 f12 l12 => ?_)
  obtain ⟨v12, q12, e12, z12, c12, j12, fx12⟩ := f12
  cases q12
  rw [g12] at c12 fx12
  have fr12 : ∀ p9 : Nat, p9 ∉ [tx, tm] → t12.heap[p9]? = s.heap[p9]? := fun p9 h9 => (fx12 p9 (fun q => h9 (by rw [List.mem_singleton.mp q]; exact List.mem_cons_self))).trans (fr9 p9 h9)
  have hh12 : zh_ok D cA RTg ro sz H0 t12.heap lo12 := ⟨z12.1, z12.2.1, l12, z12.2.2.2⟩
  have kp12 := kp9.trans (c12.mono (ms' := tmM) (by decide))
  have kf12 := nbF_hM (T := T) (ld := 2) (n := 2) (s := (sg.1 + 1, sg.2)) (M := 99) (by decide)
  generalize hx12 : nbF T 2 2 0 0 ((sg.1 + 1, sg.2)) = x12 at j12 e12 kf12
  have uu12 := j12.2.2
  unfold uOK at uu12
  have mf12_tx_0 := (c12.1 tx 0 0 0 0 fsX0 htx rfl (by decide) (by decide)).trans mf9_tx_0
  have mf12_tx_1 := (c12.1 tx 0 1 0 0 fsX0 htx rfl (by decide) (by decide)).trans mf9_tx_1
  have mf12_tm_8 := (c12.1 tm 7 8 7 0 fsX8 htm rfl (by decide) (by decide)).trans mf9_tm_8
  have mf12_tm_9 := (c12.1 tm 7 9 7 0 fsX8 htm rfl (by decide) (by decide)).trans mf9_tm_9
  have mf12_tm_10 := (c12.1 tm 7 10 7 0 fsX8 htm rfl (by decide) (by decide)).trans hf9
  have jd12 := jd9.kept htm rfl (by decide) c12 (by decide)
  refine W.eq (g2 := F0 m 34 ls [.int v12, .ref tm]) rfl ?_
  refine tz_put (r := 7) (k := 11) (t := (0, (-2147483648), 2147483647)) hx hb hD hh12 htm rfl rfl ((hcl7 46 11 (0, (-2147483648), 2147483647) (by decide) rfl).2 (by decide)) (tz_i (zn_i32 _).1 (zn_i32 _).2) (eX8_scanOffset (34, .putfield 46, 3) (List.mem_of_getElem? (i := 19) rfl)) (fun H13 lo13 hh13 hf13 hk13 _ hq13 => ?_)
  have mf13_tx_0 := (hk13.1 tx 0 0 0 0 fsX0 htx rfl (by decide) (by decide)).trans mf12_tx_0
  have mf13_tx_1 := (hk13.1 tx 0 1 0 0 fsX0 htx rfl (by decide) (by decide)).trans mf12_tx_1
  have mf13_tm_8 := (hk13.1 tm 7 8 7 0 fsX8 htm rfl (by decide) (by decide)).trans mf12_tm_8
  have mf13_tm_9 := (hk13.1 tm 7 9 7 0 fsX8 htm rfl (by decide) (by decide)).trans mf12_tm_9
  have mf13_tm_10 := (hk13.1 tm 7 10 7 0 fsX8 htm rfl (by decide) (by decide)).trans mf12_tm_10
  have kp13 := kp12.trans (hk13.mono (ms' := tmM) (fun x hx => by cases List.mem_singleton.mp hx; decide))
  have jm13 := (j12).kept htx hk13 (by decide)
  have fr13 : ∀ p9 : Nat, p9 ∉ [tx, tm] → H13[p9]? = s.heap[p9]? := fun p9 h9 => (hq13 p9 (fun e9 => h9 (by rw [e9]; exact (List.mem_cons_of_mem _ List.mem_cons_self)))).trans (fr12 p9 h9)
  have jd13 := jF.put htm rfl (by decide) hk13 hf13 (show v12.toInt = x12.1 by omega) jd12
  have hfin : ohF T (f, sg) = ((upF (upF (upF (upF f 8 (0)) 9 (if lk T sg = 45 then 1 else 0)) 10 (((sg.1 + 1, sg.2)).1)) 11 (x12.1)), x12.2) := by first | (simp only [ohF, nmF, hx12, up_eq]; done) | (simp only [ohF, nmF, hx12, up_eq] <;> rfl) | rfl
  exact W.vret hx hb hr (fun t ht hW => ⟨rfl, by rw [ht]; exact hh13.l0, by rw [ht]; exact kp13, by rw [ht, hfin]; exact jm13, by rw [ht, hfin]; exact jd13, by rw [ht]; exact fr13⟩) hh13.2.2.1 (eX8_scanOffset (37, .return_, 1) (List.mem_of_getElem? (i := 20) rfl))
set_option maxRecDepth 100000 in
set_option maxHeartbeats 4000000 in
theorem hX8_scan (l : Launch) (D : va_G) (cA : Nat → ClassId) (ro : Nat → Option Nat) (sz : Nat) (H0 : Heap) (tm : Nat) (tx : Nat) (mv : Int32) (mk : Int) (T : List Int) (sg : uS) (f : fN) (htm : ro tm = some 7) (htx : ro tx = some 0) (hmk : mv.toInt = mk) : Met l yX8_scan (gW yX8_scan cX8_scan 4 none) { frames := 3, cells := 0, slots := 0, locals := 67 } (zs_P D cA ro sz H0 (fun H => jU D cA ro H tx T sg ∧ jF D H tm 7 14 f) [.ref tm, .ref tx, .int mv]) (du_V D cA ro sz H0 tmM tx T tm 7 14 (tmF9 T mk (f, sg))) 0 0 (zy_fr sz) := by
  refine zy_ofW (cc := cX8_scan) (maxL := 4) (ret := none) (by decide +kernel) rfl ?_
  intro p e s m args below meth c s1 B hml hv
  obtain ⟨rfl, hh, hKn, hJ⟩ := hv
  have hx := B.exec
  have hb := B.bytes
  have hr := B.returns
  have hlk := B.notSynchronized
  have hts0 := atoms_spec (ws := gW yX8_scan cX8_scan 4 none) B.pre
  have h2 : ∀ w ∈ gT, w.before ([.ref tm, .ref tx, .int mv] : List Value).toArray s = true := fun w hw => hts0 w (List.mem_cons_of_mem _ hw)
  have hown : s.vm.findClass RX8 = some m.cls := findClass_of_methodNamed B.named
  have hl := lv_entry [.ref tm, .ref tx, .int mv] (n := 4) (Nat.le_of_ble_eq_true rfl)
  rw [lg_entry_eq]
  generalize (lg_sl [.ref tm, .ref tx, .int mv] ++ List.replicate (4 - (lg_sl [.ref tm, .ref tx, .int mv]).length) Slot.unset).toArray = ls at hl ⊢
  have b_mv := zn_i32 mv
  have hD := zD_all h2 hKn.1
  have hcl0 := fun (idx k : Nat) (t : zt_T) (h : (idx, 0, k) ∈ gfX8) (hk : fsX0[k]? = some t) => zf_clause (ro := ro) (ms := tmM) h2 hown hKn.1 gfX8_ok (by decide +kernel) idx 0 k 0 0 fsX0 t h rfl hk
  have hcl7 := fun (idx k : Nat) (t : zt_T) (h : (idx, 7, k) ∈ gfX8) (hk : fsX8[k]? = some t) => zf_clause (ro := ro) (ms := tmM) h2 hown hKn.1 gfX8_ok (by decide +kernel) idx 7 k 7 0 fsX8 t h rfl hk
  have kp0 : zc_kept D RTg ro tmM s.heap s.heap := zc_kept.refl
  obtain ⟨hJ, jd0⟩ := hJ
  obtain ⟨hjt, ⟨av, bv, wv, f2, f3, f4, hav, hbv, hwv⟩, hu⟩ := id hJ
  obtain ⟨tb, n, z, f0, r0, f1, hn, hc, hz⟩ := id hjt
  obtain ⟨n9, g9, n1, n2⟩ := zh_fT (k := 1) (t := (0, 0, 120)) hh htx (show RTg[0]? = some (0, 0, 0, fsX0) from rfl) rfl
  cases f1.symm.trans g9
  dsimp only at n1 n2
  clear g9
  obtain ⟨-, z9, c9, hy9⟩ := zh_arr hh r0 (show RTg[12]? = some (1, 2, 120, [(0, (-128), 127)]) from rfl)
  have hy : ∀ i, i < 120 → zt_ok ro (z i) (0, (-128), 127) := zs_arr (hc.symm.trans c9) hy9
  obtain ⟨u1, u2, u3⟩ := id hu
  have fr0 : ∀ p9 : Nat, p9 ∉ [tx, tm] → s.heap[p9]? = s.heap[p9]? := fun _ _ => rfl
  refine lv_aload_n hx hb (eX8_scan (0, .aload_n 0, 1) (List.mem_of_getElem? (i := 0) rfl)) rfl (lv_at hl 0 rfl) ?_
  refine lv_aload_n hx hb (eX8_scan (1, .aload_n 1, 1) (List.mem_of_getElem? (i := 1) rfl)) rfl (lv_at hl 1 rfl) ?_
  refine tz_rowV (As := [.ref tx]) (st := []) (b := tm) (C := RX8) (Ts := gT) hx hb hml hown h2 (fun _ h => h) (hX8_start l D cA ro sz H0 tm tx  T (sg) (f) htm htx ) ⟨rfl, rfl⟩ ⟨by decide, by decide⟩ ⟨by decide, by decide⟩ (tb_4 238 rfl rfl) (tb_1 9 rfl rfl) (tb_4 235 rfl rfl) (tb_4 236 rfl rfl) (tb_4 237 rfl rfl) (show yX8_start.cls ≠ "java/lang/invoke/MethodHandle" ∧ yX8_start.cls ≠ "java/lang/invoke/VarHandle" ∧ (parseMethodDescriptor yX8_start.desc).map (fun d => d.parameters.length) = some 1 by decide +kernel) zs_blind (zs_ob hh htm (show RTg[7]? = some (0, 7, 0, fsX8) from rfl) (zCX8 hKn.1)) (fun U hU hW => ⟨rfl, by rw [hU]; exact hh.l0, zKb s U hW.alike hKn, by rw [hU]; exact ⟨hJ, jd0⟩⟩) hh.2.2.1 hl.1 (Nat.le_of_ble_eq_true rfl) (eX8_scan (2, .invokevirtual 64, 3) (List.mem_of_getElem? (i := 2) rfl)) (fun r1 s1 t1 lo1 g1 f1 l1 => ?_)
  obtain ⟨q1, z1, c1, j1, jd1, fx1⟩ := f1
  cases q1
  rw [g1] at c1 fx1
  have fr1 : ∀ p9 : Nat, p9 ∉ [tx, tm] → t1.heap[p9]? = s.heap[p9]? := fun p9 h9 => (fx1 p9 (fun q => h9 (by rcases List.mem_cons.mp q with q | q; (rw [q]; exact List.mem_cons_self); (rw [List.mem_singleton.mp q]; exact (List.mem_cons_of_mem _ List.mem_cons_self))))).trans (fr0 p9 h9)
  have hh1 : zh_ok D cA RTg ro sz H0 t1.heap lo1 := ⟨z1.1, z1.2.1, l1, z1.2.2.2⟩
  have kp1 := kp0.trans (c1.mono (ms' := tmM) (by decide))
  generalize hx1 : tsF T (f, sg) = x1 at j1 jd1
  have uu1 := j1.2.2
  unfold uOK at uu1
  refine W.eq (g2 := F0 m 5 ls []) rfl ?_
  refine lv_iload_n hx hb (eX8_scan (5, .iload_n 2, 1) (List.mem_of_getElem? (i := 3) rfl)) rfl (lv_at hl 2 rfl) ?_
  refine lv_istore_n hx hb (eX8_scan (6, .istore_n 3, 1) (List.mem_of_getElem? (i := 4) rfl)) rfl hl (by decide) rfl (fun ls2 hl2 => ?_)
  have jn109 : ∀ (fj : fN) (gj : uS) (fv : Int32) (fd : Int) (ls : Array Slot) (H : Heap) (lo0 : List Loc), zh_ok D cA RTg ro sz H0 H lo0 → zc_kept D RTg ro tmM s.heap H → jU D cA ro H tx T gj → jF D H tm 7 14 fj → (∀ p9 : Nat, p9 ∉ [tx, tm] → H[p9]? = s.heap[p9]?) → fv.toInt = fd → ofF9 T fd (fj, gj) = tmF9 T mk (f, sg) → lv_has ls 4 [(3, .int fv), (0, .ref tm), (1, .ref tx), (2, .int mv)] → W p l e (headSpec (gW yX8_scan cX8_scan 4 none) { frames := 3, cells := 0, slots := 0, locals := 67 }).room s m ([.ref tm, .ref tx, .int mv] : List Value).toArray below meth c H lo0 0 0 (MQ below (du_V D cA ro sz H0 tmM tx T tm 7 14 (tmF9 T mk (f, sg))) ([.ref tm, .ref tx, .int mv] : List Value).toArray s 0 0 (zy_fr sz)) (F0 m 109 ls []) := by
    intro fj gj fv  fd  ls H lo0 hh0 kpl jl jdl frl hfv htot hl
    have hul := jl.2.2
    unfold uOK at hul
    refine lv_aload_n hx hb (eX8_scan (109, .aload_n 1, 1) (List.mem_of_getElem? (i := 57) rfl)) rfl (lv_at hl 2 rfl) ?_
    refine ff_bipush hx hb (eX8_scan (110, .bipush 90, 2) (List.mem_of_getElem? (i := 58) rfl)) (by decide) (by decide) (fun v3 e3 => ?_)
    refine tz_rowV (As := [.int v3]) (st := []) (b := tx) (C := RX0) (Ts := gT) hx hb hml hown h2 (fun _ h => h) (hX0_take l D cA ro sz H0 tx v3 90 T (gj) htx (by omega) (by decide)) ⟨rfl, rfl⟩ ⟨by decide, by decide⟩ ⟨by decide, by decide⟩ (tb_4 8 rfl rfl) (tb_1 5 rfl rfl) (tb_5 9 rfl rfl) (tb_4 6 rfl rfl) (tb_4 7 rfl rfl) (show yX0_take.cls ≠ "java/lang/invoke/MethodHandle" ∧ yX0_take.cls ≠ "java/lang/invoke/VarHandle" ∧ (parseMethodDescriptor yX0_take.desc).map (fun d => d.parameters.length) = some 1 by decide +kernel) zs_blind (zs_ob hh0 htx (show RTg[0]? = some (0, 0, 0, fsX0) from rfl) (zCX0 hKn.1)) (fun U hU hW => ⟨rfl, by rw [hU]; exact hh0.l0, zKb s U hW.alike hKn, by rw [hU]; exact jl⟩) hh0.2.2.1 hl.1 (Nat.le_of_ble_eq_true rfl) (eX8_scan (112, .invokevirtual 68, 3) (List.mem_of_getElem? (i := 59) rfl)) (fun r4 s4 t4 lo4 g4 f4 l4 => ?_)
    obtain ⟨v4, q4, e4, z4, c4, j4, fx4⟩ := f4
    cases q4
    rw [g4] at c4 fx4
    have fr4 : ∀ p9 : Nat, p9 ∉ [tx, tm] → t4.heap[p9]? = s.heap[p9]? := fun p9 h9 => (fx4 p9 (fun q => h9 (by rw [List.mem_singleton.mp q]; exact List.mem_cons_self))).trans (frl p9 h9)
    have hh4 : zh_ok D cA RTg ro sz H0 t4.heap lo4 := ⟨z4.1, z4.2.1, l4, z4.2.2.2⟩
    have kp4 := kpl.trans (c4.mono (ms' := tmM) (by decide))
    have kf4 := tkF_01 T 90 gj
    generalize hx4 : tkF T 90 gj = x4 at j4 e4 kf4
    have uu4 := j4.2.2
    unfold uOK at uu4
    have jd4 := jdl.kept htm rfl (by decide) c4 (by decide)
    refine W.eq (g2 := F0 m 115 ls [.int v4]) rfl ?_
    refine ff_if_eq hx hb (eX8_scan (115, .ifCond .eq 11, 3) (List.mem_of_getElem? (i := 60) rfl)) (tgt := 126) rfl (fun c5 => ?_) (fun c5 => ?_)
    · skip
      have d4 : ¬ x4.1 = 1 := by omega
      refine lv_aload_n hx hb (eX8_scan (126, .aload_n 1, 1) (List.mem_of_getElem? (i := 65) rfl)) rfl (lv_at hl 2 rfl) ?_
      refine ff_bipush hx hb (eX8_scan (127, .bipush 43, 2) (List.mem_of_getElem? (i := 66) rfl)) (by decide) (by decide) (fun v6 e6 => ?_)
      refine tz_rowV (As := [.int v6]) (st := []) (b := tx) (C := RX0) (Ts := gT) hx hb hml hown h2 (fun _ h => h) (hX0_isAt l D cA ro sz H0 tx v6 43 T (x4.2) htx (by omega)) ⟨rfl, rfl⟩ ⟨by decide, by decide⟩ ⟨by decide, by decide⟩ (tb_4 32 rfl rfl) (tb_1 5 rfl rfl) (tb_5 14 rfl rfl) (tb_4 30 rfl rfl) (tb_4 31 rfl rfl) (show yX0_isAt.cls ≠ "java/lang/invoke/MethodHandle" ∧ yX0_isAt.cls ≠ "java/lang/invoke/VarHandle" ∧ (parseMethodDescriptor yX0_isAt.desc).map (fun d => d.parameters.length) = some 1 by decide +kernel) zs_blind (zs_ob hh4 htx (show RTg[0]? = some (0, 0, 0, fsX0) from rfl) (zCX0 hKn.1)) (fun U hU hW => ⟨rfl, by rw [hU]; exact hh4.l0, zKb s U hW.alike hKn, by rw [hU]; exact j4⟩) hh4.2.2.1 hl.1 (Nat.le_of_ble_eq_true rfl) (eX8_scan (129, .invokevirtual 85, 3) (List.mem_of_getElem? (i := 67) rfl)) (fun r7 s7 t7 lo7 g7 f7 l7 => ?_)
      obtain ⟨z7, v7, q7, e7⟩ := f7
      cases q7
      rw [z7, g7]
      have hh7 : zh_ok D cA RTg ro sz H0 t4.heap lo7 := ⟨hh4.1, hh4.2.1, l7, hh4.2.2.2⟩
      refine W.eq (g2 := F0 m 132 ls [.int v7]) rfl ?_
      refine ff_if_ne hx hb (eX8_scan (132, .ifCond .ne 12, 3) (List.mem_of_getElem? (i := 68) rfl)) (tgt := 144) rfl (fun c8 => ?_) (fun c8 => ?_)
      · skip
        have d9 : lk T x4.2 = 43 ∨ lk T x4.2 = 45 := by omega
        refine lv_aload_n hx hb (eX8_scan (144, .aload_n 0, 1) (List.mem_of_getElem? (i := 73) rfl)) rfl (lv_at hl 1 rfl) ?_
        refine lv_aload_n hx hb (eX8_scan (145, .aload_n 1, 1) (List.mem_of_getElem? (i := 74) rfl)) rfl (lv_at hl 2 rfl) ?_
        refine tz_rowV (As := [.ref tx]) (st := []) (b := tm) (C := RX8) (Ts := gT) hx hb hml hown h2 (fun _ h => h) (hX8_scanOffset l D cA ro sz H0 tm tx  T (x4.2) (fj) htm htx (by omega)) ⟨rfl, rfl⟩ ⟨by decide, by decide⟩ ⟨by decide, by decide⟩ (tb_5 18 rfl rfl) (tb_1 9 rfl rfl) (tb_5 15 rfl rfl) (tb_5 16 rfl rfl) (tb_5 17 rfl rfl) (show yX8_scanOffset.cls ≠ "java/lang/invoke/MethodHandle" ∧ yX8_scanOffset.cls ≠ "java/lang/invoke/VarHandle" ∧ (parseMethodDescriptor yX8_scanOffset.desc).map (fun d => d.parameters.length) = some 1 by decide +kernel) zs_blind (zs_ob hh7 htm (show RTg[7]? = some (0, 7, 0, fsX8) from rfl) (zCX8 hKn.1)) (fun U hU hW => ⟨rfl, by rw [hU]; exact hh7.l0, zKb s U hW.alike hKn, by rw [hU]; exact ⟨j4, jd4⟩⟩) hh7.2.2.1 hl.1 (Nat.le_of_ble_eq_true rfl) (eX8_scan (146, .invokevirtual 88, 3) (List.mem_of_getElem? (i := 75) rfl)) (fun r10 s10 t10 lo10 g10 f10 l10 => ?_)
        obtain ⟨q10, z10, c10, j10, jd10, fx10⟩ := f10
        cases q10
        rw [g10] at c10 fx10
        have fr10 : ∀ p9 : Nat, p9 ∉ [tx, tm] → t10.heap[p9]? = s.heap[p9]? := fun p9 h9 => (fx10 p9 (fun q => h9 (by rcases List.mem_cons.mp q with q | q; (rw [q]; exact List.mem_cons_self); (rw [List.mem_singleton.mp q]; exact (List.mem_cons_of_mem _ List.mem_cons_self))))).trans (fr4 p9 h9)
        have hh10 : zh_ok D cA RTg ro sz H0 t10.heap lo10 := ⟨z10.1, z10.2.1, l10, z10.2.2.2⟩
        have kp10 := kp4.trans (c10.mono (ms' := tmM) (by decide))
        generalize hx10 : ohF T (fj, x4.2) = x10 at j10 jd10
        have uu10 := j10.2.2
        unfold uOK at uu10
        refine W.eq (g2 := F0 m 149 ls []) rfl ?_
        refine lv_iload_n hx hb (eX8_scan (149, .iload_n 3, 1) (List.mem_of_getElem? (i := 76) rfl)) rfl (lv_at hl 0 rfl) ?_
        refine ff_iconst hx hb (eX8_scan (150, .iconst 2, 1) (List.mem_of_getElem? (i := 77) rfl)) (by decide) (by decide) (fun v11 e11 => ?_)
        refine ff_icmp_eq hx hb (eX8_scan (151, .if_icmp .eq 12, 3) (List.mem_of_getElem? (i := 78) rfl)) (tgt := 163) rfl (fun c12 => ?_) (fun c12 => ?_)
        · skip
          have d13 : fd = 2 := by omega
          refine lv_iload_n hx hb (eX8_scan (163, .iload_n 3, 1) (List.mem_of_getElem? (i := 83) rfl)) rfl (lv_at hl 0 rfl) ?_
          refine ff_iconst hx hb (eX8_scan (164, .iconst 1, 1) (List.mem_of_getElem? (i := 84) rfl)) (by decide) (by decide) (fun v14 e14 => ?_)
          refine ff_icmp_eq hx hb (eX8_scan (165, .if_icmp .eq 15, 3) (List.mem_of_getElem? (i := 85) rfl)) (tgt := 180) rfl (fun c15 => ?_) (fun c15 => ?_)
          · skip
            have d16 : ¬ (fd ≠ 1 ∧ 0 ≤ dgF T x10.2) := by omega
            have hfin : tmF9 T mk (f, sg) = (x10.1, x10.2) := by rw [← htot]; first | (simp only [ofF9, of2F, of3F, hx4, hx10, if_neg d4, if_pos d9, if_pos d13, if_neg d16, up_eq]; done) | (simp only [ofF9, of2F, of3F, hx4, hx10, if_neg d4, if_pos d9, if_pos d13, if_neg d16, up_eq] <;> rfl) | rfl
            exact W.vret hx hb hr (fun t ht hW => ⟨rfl, by rw [ht]; exact hh10.l0, by rw [ht]; exact kp10, by rw [ht, hfin]; exact j10, by rw [ht, hfin]; exact jd10, by rw [ht]; exact fr10⟩) hh10.2.2.1 (eX8_scan (180, .return_, 1) (List.mem_of_getElem? (i := 92) rfl))
          · skip
            refine lv_aload_n hx hb (eX8_scan (168, .aload_n 1, 1) (List.mem_of_getElem? (i := 86) rfl)) rfl (lv_at hl 2 rfl) ?_
            refine tz_rowV (As := []) (st := []) (b := tx) (C := RX0) (Ts := gT) hx hb hml hown h2 (fun _ h => h) (hX0_atDigit l D cA ro sz H0 tx T (x10.2) htx) ⟨rfl, rfl⟩ ⟨by decide, by decide⟩ ⟨by decide, by decide⟩ (tb_4 24 rfl rfl) (tb_1 5 rfl rfl) (tb_5 136 rfl rfl) (tb_4 22 rfl rfl) (tb_4 23 rfl rfl) (show yX0_atDigit.cls ≠ "java/lang/invoke/MethodHandle" ∧ yX0_atDigit.cls ≠ "java/lang/invoke/VarHandle" ∧ (parseMethodDescriptor yX0_atDigit.desc).map (fun d => d.parameters.length) = some 0 by decide +kernel) zs_blind (zs_ob hh10 htx (show RTg[0]? = some (0, 0, 0, fsX0) from rfl) (zCX0 hKn.1)) (fun U hU hW => ⟨rfl, by rw [hU]; exact hh10.l0, zKb s U hW.alike hKn, by rw [hU]; exact j10⟩) hh10.2.2.1 hl.1 (Nat.le_of_ble_eq_true rfl) (eX8_scan (169, .invokevirtual 78, 3) (List.mem_of_getElem? (i := 87) rfl)) (fun r17 s17 t17 lo17 g17 f17 l17 => ?_)
            obtain ⟨z17, v17, q17, e17⟩ := f17
            cases q17
            rw [z17, g17]
            have hh17 : zh_ok D cA RTg ro sz H0 t10.heap lo17 := ⟨hh10.1, hh10.2.1, l17, hh10.2.2.2⟩
            refine W.eq (g2 := F0 m 172 ls [.int v17]) rfl ?_
            refine ff_if_eq hx hb (eX8_scan (172, .ifCond .eq 8, 3) (List.mem_of_getElem? (i := 88) rfl)) (tgt := 180) rfl (fun c18 => ?_) (fun c18 => ?_)
            · skip
              have d19 : ¬ (fd ≠ 1 ∧ 0 ≤ dgF T x10.2) := by omega
              have hfin : tmF9 T mk (f, sg) = (x10.1, x10.2) := by rw [← htot]; first | (simp only [ofF9, of2F, of3F, hx4, hx10, if_neg d4, if_pos d9, if_pos d13, if_neg d19, up_eq]; done) | (simp only [ofF9, of2F, of3F, hx4, hx10, if_neg d4, if_pos d9, if_pos d13, if_neg d19, up_eq] <;> rfl) | rfl
              exact W.vret hx hb hr (fun t ht hW => ⟨rfl, by rw [ht]; exact hh17.l0, by rw [ht]; exact kp10, by rw [ht, hfin]; exact j10, by rw [ht, hfin]; exact jd10, by rw [ht]; exact fr10⟩) hh17.2.2.1 (eX8_scan (180, .return_, 1) (List.mem_of_getElem? (i := 92) rfl))
            · skip
              have d20 : fd ≠ 1 ∧ 0 ≤ dgF T x10.2 := by omega
              refine lv_aload_n hx hb (eX8_scan (175, .aload_n 0, 1) (List.mem_of_getElem? (i := 89) rfl)) rfl (lv_at hl 1 rfl) ?_
              refine lv_aload_n hx hb (eX8_scan (176, .aload_n 1, 1) (List.mem_of_getElem? (i := 90) rfl)) rfl (lv_at hl 2 rfl) ?_
              refine tz_rowV (As := [.ref tx]) (st := []) (b := tm) (C := RX8) (Ts := gT) hx hb hml hown h2 (fun _ h => h) (hX8_scanOffsetMinutes l D cA ro sz H0 tm tx  T (x10.2) (x10.1) htm htx ) ⟨rfl, rfl⟩ ⟨by decide, by decide⟩ ⟨by decide, by decide⟩ (tb_5 23 rfl rfl) (tb_1 9 rfl rfl) (tb_5 20 rfl rfl) (tb_5 21 rfl rfl) (tb_5 22 rfl rfl) (show yX8_scanOffsetMinutes.cls ≠ "java/lang/invoke/MethodHandle" ∧ yX8_scanOffsetMinutes.cls ≠ "java/lang/invoke/VarHandle" ∧ (parseMethodDescriptor yX8_scanOffsetMinutes.desc).map (fun d => d.parameters.length) = some 1 by decide +kernel) zs_blind (zs_ob hh17 htm (show RTg[7]? = some (0, 7, 0, fsX8) from rfl) (zCX8 hKn.1)) (fun U hU hW => ⟨rfl, by rw [hU]; exact hh17.l0, zKb s U hW.alike hKn, by rw [hU]; exact ⟨j10, jd10⟩⟩) hh17.2.2.1 hl.1 (Nat.le_of_ble_eq_true rfl) (eX8_scan (177, .invokevirtual 91, 3) (List.mem_of_getElem? (i := 91) rfl)) (fun r21 s21 t21 lo21 g21 f21 l21 => ?_)
              obtain ⟨q21, z21, c21, j21, jd21, fx21⟩ := f21
              cases q21
              rw [g21] at c21 fx21
              have fr21 : ∀ p9 : Nat, p9 ∉ [tx, tm] → t21.heap[p9]? = s.heap[p9]? := fun p9 h9 => (fx21 p9 (fun q => h9 (by rcases List.mem_cons.mp q with q | q; (rw [q]; exact List.mem_cons_self); (rw [List.mem_singleton.mp q]; exact (List.mem_cons_of_mem _ List.mem_cons_self))))).trans (fr10 p9 h9)
              have hh21 : zh_ok D cA RTg ro sz H0 t21.heap lo21 := ⟨z21.1, z21.2.1, l21, z21.2.2.2⟩
              have kp21 := kp10.trans (c21.mono (ms' := tmM) (by decide))
              generalize hx21 : omF T (x10.1, x10.2) = x21 at j21 jd21
              have uu21 := j21.2.2
              unfold uOK at uu21
              refine W.eq (g2 := F0 m 180 ls []) rfl ?_
              have hfin : tmF9 T mk (f, sg) = (x21.1, x21.2) := by rw [← htot]; first | (simp only [ofF9, of2F, of3F, hx4, hx10, hx21, if_neg d4, if_pos d9, if_pos d13, if_pos d20, up_eq]; done) | (simp only [ofF9, of2F, of3F, hx4, hx10, hx21, if_neg d4, if_pos d9, if_pos d13, if_pos d20, up_eq] <;> rfl) | rfl
              exact W.vret hx hb hr (fun t ht hW => ⟨rfl, by rw [ht]; exact hh21.l0, by rw [ht]; exact kp21, by rw [ht, hfin]; exact j21, by rw [ht, hfin]; exact jd21, by rw [ht]; exact fr21⟩) hh21.2.2.1 (eX8_scan (180, .return_, 1) (List.mem_of_getElem? (i := 92) rfl))
        · skip
          have d22 : ¬ fd = 2 := by omega
          refine lv_aload_n hx hb (eX8_scan (154, .aload_n 1, 1) (List.mem_of_getElem? (i := 79) rfl)) rfl (lv_at hl 2 rfl) ?_
          refine ff_bipush hx hb (eX8_scan (155, .bipush 58, 2) (List.mem_of_getElem? (i := 80) rfl)) (by decide) (by decide) (fun v23 e23 => ?_)
          refine tz_rowV (As := [.int v23]) (st := []) (b := tx) (C := RX0) (Ts := gT) hx hb hml hown h2 (fun _ h => h) (hX0_take l D cA ro sz H0 tx v23 58 T (x10.2) htx (by omega) (by decide)) ⟨rfl, rfl⟩ ⟨by decide, by decide⟩ ⟨by decide, by decide⟩ (tb_4 8 rfl rfl) (tb_1 5 rfl rfl) (tb_5 9 rfl rfl) (tb_4 6 rfl rfl) (tb_4 7 rfl rfl) (show yX0_take.cls ≠ "java/lang/invoke/MethodHandle" ∧ yX0_take.cls ≠ "java/lang/invoke/VarHandle" ∧ (parseMethodDescriptor yX0_take.desc).map (fun d => d.parameters.length) = some 1 by decide +kernel) zs_blind (zs_ob hh10 htx (show RTg[0]? = some (0, 0, 0, fsX0) from rfl) (zCX0 hKn.1)) (fun U hU hW => ⟨rfl, by rw [hU]; exact hh10.l0, zKb s U hW.alike hKn, by rw [hU]; exact j10⟩) hh10.2.2.1 hl.1 (Nat.le_of_ble_eq_true rfl) (eX8_scan (157, .invokevirtual 68, 3) (List.mem_of_getElem? (i := 81) rfl)) (fun r24 s24 t24 lo24 g24 f24 l24 => ?_)
          obtain ⟨v24, q24, e24, z24, c24, j24, fx24⟩ := f24
          cases q24
          rw [g24] at c24 fx24
          have fr24 : ∀ p9 : Nat, p9 ∉ [tx, tm] → t24.heap[p9]? = s.heap[p9]? := fun p9 h9 => (fx24 p9 (fun q => h9 (by rw [List.mem_singleton.mp q]; exact List.mem_cons_self))).trans (fr10 p9 h9)
          have hh24 : zh_ok D cA RTg ro sz H0 t24.heap lo24 := ⟨z24.1, z24.2.1, l24, z24.2.2.2⟩
          have kp24 := kp10.trans (c24.mono (ms' := tmM) (by decide))
          have kf24 := tkF_01 T 58 x10.2
          generalize hx24 : tkF T 58 x10.2 = x24 at j24 e24 kf24
          have uu24 := j24.2.2
          unfold uOK at uu24
          have jd24 := jd10.kept htm rfl (by decide) c24 (by decide)
          refine W.eq (g2 := F0 m 160 ls [.int v24]) rfl ?_
          refine ff_if_ne hx hb (eX8_scan (160, .ifCond .ne 15, 3) (List.mem_of_getElem? (i := 82) rfl)) (tgt := 175) rfl (fun c25 => ?_) (fun c25 => ?_)
          · skip
            have d24 : x24.1 = 1 := by omega
            refine lv_aload_n hx hb (eX8_scan (175, .aload_n 0, 1) (List.mem_of_getElem? (i := 89) rfl)) rfl (lv_at hl 1 rfl) ?_
            refine lv_aload_n hx hb (eX8_scan (176, .aload_n 1, 1) (List.mem_of_getElem? (i := 90) rfl)) rfl (lv_at hl 2 rfl) ?_
            refine tz_rowV (As := [.ref tx]) (st := []) (b := tm) (C := RX8) (Ts := gT) hx hb hml hown h2 (fun _ h => h) (hX8_scanOffsetMinutes l D cA ro sz H0 tm tx  T (x24.2) (x10.1) htm htx ) ⟨rfl, rfl⟩ ⟨by decide, by decide⟩ ⟨by decide, by decide⟩ (tb_5 23 rfl rfl) (tb_1 9 rfl rfl) (tb_5 20 rfl rfl) (tb_5 21 rfl rfl) (tb_5 22 rfl rfl) (show yX8_scanOffsetMinutes.cls ≠ "java/lang/invoke/MethodHandle" ∧ yX8_scanOffsetMinutes.cls ≠ "java/lang/invoke/VarHandle" ∧ (parseMethodDescriptor yX8_scanOffsetMinutes.desc).map (fun d => d.parameters.length) = some 1 by decide +kernel) zs_blind (zs_ob hh24 htm (show RTg[7]? = some (0, 7, 0, fsX8) from rfl) (zCX8 hKn.1)) (fun U hU hW => ⟨rfl, by rw [hU]; exact hh24.l0, zKb s U hW.alike hKn, by rw [hU]; exact ⟨j24, jd24⟩⟩) hh24.2.2.1 hl.1 (Nat.le_of_ble_eq_true rfl) (eX8_scan (177, .invokevirtual 91, 3) (List.mem_of_getElem? (i := 91) rfl)) (fun r26 s26 t26 lo26 g26 f26 l26 => ?_)
            obtain ⟨q26, z26, c26, j26, jd26, fx26⟩ := f26
            cases q26
            rw [g26] at c26 fx26
            have fr26 : ∀ p9 : Nat, p9 ∉ [tx, tm] → t26.heap[p9]? = s.heap[p9]? := fun p9 h9 => (fx26 p9 (fun q => h9 (by rcases List.mem_cons.mp q with q | q; (rw [q]; exact List.mem_cons_self); (rw [List.mem_singleton.mp q]; exact (List.mem_cons_of_mem _ List.mem_cons_self))))).trans (fr24 p9 h9)
            have hh26 : zh_ok D cA RTg ro sz H0 t26.heap lo26 := ⟨z26.1, z26.2.1, l26, z26.2.2.2⟩
            have kp26 := kp24.trans (c26.mono (ms' := tmM) (by decide))
            generalize hx26 : omF T (x10.1, x24.2) = x26 at j26 jd26
            have uu26 := j26.2.2
            unfold uOK at uu26
            refine W.eq (g2 := F0 m 180 ls []) rfl ?_
            have hfin : tmF9 T mk (f, sg) = (x26.1, x26.2) := by rw [← htot]; first | (simp only [ofF9, of2F, of3F, hx4, hx10, hx24, hx26, if_neg d4, if_pos d9, if_neg d22, if_pos d24, up_eq]; done) | (simp only [ofF9, of2F, of3F, hx4, hx10, hx24, hx26, if_neg d4, if_pos d9, if_neg d22, if_pos d24, up_eq] <;> rfl) | rfl
            exact W.vret hx hb hr (fun t ht hW => ⟨rfl, by rw [ht]; exact hh26.l0, by rw [ht]; exact kp26, by rw [ht, hfin]; exact j26, by rw [ht, hfin]; exact jd26, by rw [ht]; exact fr26⟩) hh26.2.2.1 (eX8_scan (180, .return_, 1) (List.mem_of_getElem? (i := 92) rfl))
          · skip
            have d24 : ¬ x24.1 = 1 := by omega
            refine lv_iload_n hx hb (eX8_scan (163, .iload_n 3, 1) (List.mem_of_getElem? (i := 83) rfl)) rfl (lv_at hl 0 rfl) ?_
            refine ff_iconst hx hb (eX8_scan (164, .iconst 1, 1) (List.mem_of_getElem? (i := 84) rfl)) (by decide) (by decide) (fun v27 e27 => ?_)
            refine ff_icmp_eq hx hb (eX8_scan (165, .if_icmp .eq 15, 3) (List.mem_of_getElem? (i := 85) rfl)) (tgt := 180) rfl (fun c28 => ?_) (fun c28 => ?_)
            · skip
              have d29 : ¬ (fd ≠ 1 ∧ 0 ≤ dgF T x24.2) := by omega
              have hfin : tmF9 T mk (f, sg) = (x10.1, x24.2) := by rw [← htot]; first | (simp only [ofF9, of2F, of3F, hx4, hx10, hx24, if_neg d4, if_pos d9, if_neg d22, if_neg d24, if_neg d29, up_eq]; done) | (simp only [ofF9, of2F, of3F, hx4, hx10, hx24, if_neg d4, if_pos d9, if_neg d22, if_neg d24, if_neg d29, up_eq] <;> rfl) | rfl
              exact W.vret hx hb hr (fun t ht hW => ⟨rfl, by rw [ht]; exact hh24.l0, by rw [ht]; exact kp24, by rw [ht, hfin]; exact j24, by rw [ht, hfin]; exact jd24, by rw [ht]; exact fr24⟩) hh24.2.2.1 (eX8_scan (180, .return_, 1) (List.mem_of_getElem? (i := 92) rfl))
            · skip
              refine lv_aload_n hx hb (eX8_scan (168, .aload_n 1, 1) (List.mem_of_getElem? (i := 86) rfl)) rfl (lv_at hl 2 rfl) ?_
              refine tz_rowV (As := []) (st := []) (b := tx) (C := RX0) (Ts := gT) hx hb hml hown h2 (fun _ h => h) (hX0_atDigit l D cA ro sz H0 tx T (x24.2) htx) ⟨rfl, rfl⟩ ⟨by decide, by decide⟩ ⟨by decide, by decide⟩ (tb_4 24 rfl rfl) (tb_1 5 rfl rfl) (tb_5 136 rfl rfl) (tb_4 22 rfl rfl) (tb_4 23 rfl rfl) (show yX0_atDigit.cls ≠ "java/lang/invoke/MethodHandle" ∧ yX0_atDigit.cls ≠ "java/lang/invoke/VarHandle" ∧ (parseMethodDescriptor yX0_atDigit.desc).map (fun d => d.parameters.length) = some 0 by decide +kernel) zs_blind (zs_ob hh24 htx (show RTg[0]? = some (0, 0, 0, fsX0) from rfl) (zCX0 hKn.1)) (fun U hU hW => ⟨rfl, by rw [hU]; exact hh24.l0, zKb s U hW.alike hKn, by rw [hU]; exact j24⟩) hh24.2.2.1 hl.1 (Nat.le_of_ble_eq_true rfl) (eX8_scan (169, .invokevirtual 78, 3) (List.mem_of_getElem? (i := 87) rfl)) (fun r30 s30 t30 lo30 g30 f30 l30 => ?_)
              obtain ⟨z30, v30, q30, e30⟩ := f30
              cases q30
              rw [z30, g30]
              have hh30 : zh_ok D cA RTg ro sz H0 t24.heap lo30 := ⟨hh24.1, hh24.2.1, l30, hh24.2.2.2⟩
              refine W.eq (g2 := F0 m 172 ls [.int v30]) rfl ?_
              refine ff_if_eq hx hb (eX8_scan (172, .ifCond .eq 8, 3) (List.mem_of_getElem? (i := 88) rfl)) (tgt := 180) rfl (fun c31 => ?_) (fun c31 => ?_)
              · skip
                have d32 : ¬ (fd ≠ 1 ∧ 0 ≤ dgF T x24.2) := by omega
                have hfin : tmF9 T mk (f, sg) = (x10.1, x24.2) := by rw [← htot]; first | (simp only [ofF9, of2F, of3F, hx4, hx10, hx24, if_neg d4, if_pos d9, if_neg d22, if_neg d24, if_neg d32, up_eq]; done) | (simp only [ofF9, of2F, of3F, hx4, hx10, hx24, if_neg d4, if_pos d9, if_neg d22, if_neg d24, if_neg d32, up_eq] <;> rfl) | rfl
                exact W.vret hx hb hr (fun t ht hW => ⟨rfl, by rw [ht]; exact hh30.l0, by rw [ht]; exact kp24, by rw [ht, hfin]; exact j24, by rw [ht, hfin]; exact jd24, by rw [ht]; exact fr24⟩) hh30.2.2.1 (eX8_scan (180, .return_, 1) (List.mem_of_getElem? (i := 92) rfl))
              · skip
                have d33 : fd ≠ 1 ∧ 0 ≤ dgF T x24.2 := by omega
                refine lv_aload_n hx hb (eX8_scan (175, .aload_n 0, 1) (List.mem_of_getElem? (i := 89) rfl)) rfl (lv_at hl 1 rfl) ?_
                refine lv_aload_n hx hb (eX8_scan (176, .aload_n 1, 1) (List.mem_of_getElem? (i := 90) rfl)) rfl (lv_at hl 2 rfl) ?_
                refine tz_rowV (As := [.ref tx]) (st := []) (b := tm) (C := RX8) (Ts := gT) hx hb hml hown h2 (fun _ h => h) (hX8_scanOffsetMinutes l D cA ro sz H0 tm tx  T (x24.2) (x10.1) htm htx ) ⟨rfl, rfl⟩ ⟨by decide, by decide⟩ ⟨by decide, by decide⟩ (tb_5 23 rfl rfl) (tb_1 9 rfl rfl) (tb_5 20 rfl rfl) (tb_5 21 rfl rfl) (tb_5 22 rfl rfl) (show yX8_scanOffsetMinutes.cls ≠ "java/lang/invoke/MethodHandle" ∧ yX8_scanOffsetMinutes.cls ≠ "java/lang/invoke/VarHandle" ∧ (parseMethodDescriptor yX8_scanOffsetMinutes.desc).map (fun d => d.parameters.length) = some 1 by decide +kernel) zs_blind (zs_ob hh30 htm (show RTg[7]? = some (0, 7, 0, fsX8) from rfl) (zCX8 hKn.1)) (fun U hU hW => ⟨rfl, by rw [hU]; exact hh30.l0, zKb s U hW.alike hKn, by rw [hU]; exact ⟨j24, jd24⟩⟩) hh30.2.2.1 hl.1 (Nat.le_of_ble_eq_true rfl) (eX8_scan (177, .invokevirtual 91, 3) (List.mem_of_getElem? (i := 91) rfl)) (fun r34 s34 t34 lo34 g34 f34 l34 => ?_)
                obtain ⟨q34, z34, c34, j34, jd34, fx34⟩ := f34
                cases q34
                rw [g34] at c34 fx34
                have fr34 : ∀ p9 : Nat, p9 ∉ [tx, tm] → t34.heap[p9]? = s.heap[p9]? := fun p9 h9 => (fx34 p9 (fun q => h9 (by rcases List.mem_cons.mp q with q | q; (rw [q]; exact List.mem_cons_self); (rw [List.mem_singleton.mp q]; exact (List.mem_cons_of_mem _ List.mem_cons_self))))).trans (fr24 p9 h9)
                have hh34 : zh_ok D cA RTg ro sz H0 t34.heap lo34 := ⟨z34.1, z34.2.1, l34, z34.2.2.2⟩
                have kp34 := kp24.trans (c34.mono (ms' := tmM) (by decide))
                generalize hx34 : omF T (x10.1, x24.2) = x34 at j34 jd34
                have uu34 := j34.2.2
                unfold uOK at uu34
                refine W.eq (g2 := F0 m 180 ls []) rfl ?_
                have hfin : tmF9 T mk (f, sg) = (x34.1, x34.2) := by rw [← htot]; first | (simp only [ofF9, of2F, of3F, hx4, hx10, hx24, hx34, if_neg d4, if_pos d9, if_neg d22, if_neg d24, if_pos d33, up_eq]; done) | (simp only [ofF9, of2F, of3F, hx4, hx10, hx24, hx34, if_neg d4, if_pos d9, if_neg d22, if_neg d24, if_pos d33, up_eq] <;> rfl) | rfl
                exact W.vret hx hb hr (fun t ht hW => ⟨rfl, by rw [ht]; exact hh34.l0, by rw [ht]; exact kp34, by rw [ht, hfin]; exact j34, by rw [ht, hfin]; exact jd34, by rw [ht]; exact fr34⟩) hh34.2.2.1 (eX8_scan (180, .return_, 1) (List.mem_of_getElem? (i := 92) rfl))
      · skip
        refine lv_aload_n hx hb (eX8_scan (135, .aload_n 1, 1) (List.mem_of_getElem? (i := 69) rfl)) rfl (lv_at hl 2 rfl) ?_
        refine ff_bipush hx hb (eX8_scan (136, .bipush 45, 2) (List.mem_of_getElem? (i := 70) rfl)) (by decide) (by decide) (fun v35 e35 => ?_)
        refine tz_rowV (As := [.int v35]) (st := []) (b := tx) (C := RX0) (Ts := gT) hx hb hml hown h2 (fun _ h => h) (hX0_isAt l D cA ro sz H0 tx v35 45 T (x4.2) htx (by omega)) ⟨rfl, rfl⟩ ⟨by decide, by decide⟩ ⟨by decide, by decide⟩ (tb_4 32 rfl rfl) (tb_1 5 rfl rfl) (tb_5 14 rfl rfl) (tb_4 30 rfl rfl) (tb_4 31 rfl rfl) (show yX0_isAt.cls ≠ "java/lang/invoke/MethodHandle" ∧ yX0_isAt.cls ≠ "java/lang/invoke/VarHandle" ∧ (parseMethodDescriptor yX0_isAt.desc).map (fun d => d.parameters.length) = some 1 by decide +kernel) zs_blind (zs_ob hh7 htx (show RTg[0]? = some (0, 0, 0, fsX0) from rfl) (zCX0 hKn.1)) (fun U hU hW => ⟨rfl, by rw [hU]; exact hh7.l0, zKb s U hW.alike hKn, by rw [hU]; exact j4⟩) hh7.2.2.1 hl.1 (Nat.le_of_ble_eq_true rfl) (eX8_scan (138, .invokevirtual 85, 3) (List.mem_of_getElem? (i := 71) rfl)) (fun r36 s36 t36 lo36 g36 f36 l36 => ?_)
        obtain ⟨z36, v36, q36, e36⟩ := f36
        cases q36
        rw [z36, g36]
        have hh36 : zh_ok D cA RTg ro sz H0 t4.heap lo36 := ⟨hh7.1, hh7.2.1, l36, hh7.2.2.2⟩
        refine W.eq (g2 := F0 m 141 ls [.int v36]) rfl ?_
        refine ff_if_eq hx hb (eX8_scan (141, .ifCond .eq 39, 3) (List.mem_of_getElem? (i := 72) rfl)) (tgt := 180) rfl (fun c37 => ?_) (fun c37 => ?_)
        · skip
          have d38 : ¬ (lk T x4.2 = 43 ∨ lk T x4.2 = 45) := by omega
          have hfin : tmF9 T mk (f, sg) = (fj, x4.2) := by rw [← htot]; first | (simp only [ofF9, of2F, of3F, hx4, if_neg d4, if_neg d38, up_eq]; done) | (simp only [ofF9, of2F, of3F, hx4, if_neg d4, if_neg d38, up_eq] <;> rfl) | rfl
          exact W.vret hx hb hr (fun t ht hW => ⟨rfl, by rw [ht]; exact hh36.l0, by rw [ht]; exact kp4, by rw [ht, hfin]; exact j4, by rw [ht, hfin]; exact jd4, by rw [ht]; exact fr4⟩) hh36.2.2.1 (eX8_scan (180, .return_, 1) (List.mem_of_getElem? (i := 92) rfl))
        · skip
          have d39 : lk T x4.2 = 43 ∨ lk T x4.2 = 45 := by omega
          refine lv_aload_n hx hb (eX8_scan (144, .aload_n 0, 1) (List.mem_of_getElem? (i := 73) rfl)) rfl (lv_at hl 1 rfl) ?_
          refine lv_aload_n hx hb (eX8_scan (145, .aload_n 1, 1) (List.mem_of_getElem? (i := 74) rfl)) rfl (lv_at hl 2 rfl) ?_
          refine tz_rowV (As := [.ref tx]) (st := []) (b := tm) (C := RX8) (Ts := gT) hx hb hml hown h2 (fun _ h => h) (hX8_scanOffset l D cA ro sz H0 tm tx  T (x4.2) (fj) htm htx (by omega)) ⟨rfl, rfl⟩ ⟨by decide, by decide⟩ ⟨by decide, by decide⟩ (tb_5 18 rfl rfl) (tb_1 9 rfl rfl) (tb_5 15 rfl rfl) (tb_5 16 rfl rfl) (tb_5 17 rfl rfl) (show yX8_scanOffset.cls ≠ "java/lang/invoke/MethodHandle" ∧ yX8_scanOffset.cls ≠ "java/lang/invoke/VarHandle" ∧ (parseMethodDescriptor yX8_scanOffset.desc).map (fun d => d.parameters.length) = some 1 by decide +kernel) zs_blind (zs_ob hh36 htm (show RTg[7]? = some (0, 7, 0, fsX8) from rfl) (zCX8 hKn.1)) (fun U hU hW => ⟨rfl, by rw [hU]; exact hh36.l0, zKb s U hW.alike hKn, by rw [hU]; exact ⟨j4, jd4⟩⟩) hh36.2.2.1 hl.1 (Nat.le_of_ble_eq_true rfl) (eX8_scan (146, .invokevirtual 88, 3) (List.mem_of_getElem? (i := 75) rfl)) (fun r40 s40 t40 lo40 g40 f40 l40 => ?_)
          obtain ⟨q40, z40, c40, j40, jd40, fx40⟩ := f40
          cases q40
          rw [g40] at c40 fx40
          have fr40 : ∀ p9 : Nat, p9 ∉ [tx, tm] → t40.heap[p9]? = s.heap[p9]? := fun p9 h9 => (fx40 p9 (fun q => h9 (by rcases List.mem_cons.mp q with q | q; (rw [q]; exact List.mem_cons_self); (rw [List.mem_singleton.mp q]; exact (List.mem_cons_of_mem _ List.mem_cons_self))))).trans (fr4 p9 h9)
          have hh40 : zh_ok D cA RTg ro sz H0 t40.heap lo40 := ⟨z40.1, z40.2.1, l40, z40.2.2.2⟩
          have kp40 := kp4.trans (c40.mono (ms' := tmM) (by decide))
          generalize hx40 : ohF T (fj, x4.2) = x40 at j40 jd40
          have uu40 := j40.2.2
          unfold uOK at uu40
          refine W.eq (g2 := F0 m 149 ls []) rfl ?_
          refine lv_iload_n hx hb (eX8_scan (149, .iload_n 3, 1) (List.mem_of_getElem? (i := 76) rfl)) rfl (lv_at hl 0 rfl) ?_
          refine ff_iconst hx hb (eX8_scan (150, .iconst 2, 1) (List.mem_of_getElem? (i := 77) rfl)) (by decide) (by decide) (fun v41 e41 => ?_)
          refine ff_icmp_eq hx hb (eX8_scan (151, .if_icmp .eq 12, 3) (List.mem_of_getElem? (i := 78) rfl)) (tgt := 163) rfl (fun c42 => ?_) (fun c42 => ?_)
          · skip
            have d43 : fd = 2 := by omega
            refine lv_iload_n hx hb (eX8_scan (163, .iload_n 3, 1) (List.mem_of_getElem? (i := 83) rfl)) rfl (lv_at hl 0 rfl) ?_
            refine ff_iconst hx hb (eX8_scan (164, .iconst 1, 1) (List.mem_of_getElem? (i := 84) rfl)) (by decide) (by decide) (fun v44 e44 => ?_)
            refine ff_icmp_eq hx hb (eX8_scan (165, .if_icmp .eq 15, 3) (List.mem_of_getElem? (i := 85) rfl)) (tgt := 180) rfl (fun c45 => ?_) (fun c45 => ?_)
            · skip
              have d46 : ¬ (fd ≠ 1 ∧ 0 ≤ dgF T x40.2) := by omega
              have hfin : tmF9 T mk (f, sg) = (x40.1, x40.2) := by rw [← htot]; first | (simp only [ofF9, of2F, of3F, hx4, hx40, if_neg d4, if_pos d39, if_pos d43, if_neg d46, up_eq]; done) | (simp only [ofF9, of2F, of3F, hx4, hx40, if_neg d4, if_pos d39, if_pos d43, if_neg d46, up_eq] <;> rfl) | rfl
              exact W.vret hx hb hr (fun t ht hW => ⟨rfl, by rw [ht]; exact hh40.l0, by rw [ht]; exact kp40, by rw [ht, hfin]; exact j40, by rw [ht, hfin]; exact jd40, by rw [ht]; exact fr40⟩) hh40.2.2.1 (eX8_scan (180, .return_, 1) (List.mem_of_getElem? (i := 92) rfl))
            · skip
              refine lv_aload_n hx hb (eX8_scan (168, .aload_n 1, 1) (List.mem_of_getElem? (i := 86) rfl)) rfl (lv_at hl 2 rfl) ?_
              refine tz_rowV (As := []) (st := []) (b := tx) (C := RX0) (Ts := gT) hx hb hml hown h2 (fun _ h => h) (hX0_atDigit l D cA ro sz H0 tx T (x40.2) htx) ⟨rfl, rfl⟩ ⟨by decide, by decide⟩ ⟨by decide, by decide⟩ (tb_4 24 rfl rfl) (tb_1 5 rfl rfl) (tb_5 136 rfl rfl) (tb_4 22 rfl rfl) (tb_4 23 rfl rfl) (show yX0_atDigit.cls ≠ "java/lang/invoke/MethodHandle" ∧ yX0_atDigit.cls ≠ "java/lang/invoke/VarHandle" ∧ (parseMethodDescriptor yX0_atDigit.desc).map (fun d => d.parameters.length) = some 0 by decide +kernel) zs_blind (zs_ob hh40 htx (show RTg[0]? = some (0, 0, 0, fsX0) from rfl) (zCX0 hKn.1)) (fun U hU hW => ⟨rfl, by rw [hU]; exact hh40.l0, zKb s U hW.alike hKn, by rw [hU]; exact j40⟩) hh40.2.2.1 hl.1 (Nat.le_of_ble_eq_true rfl) (eX8_scan (169, .invokevirtual 78, 3) (List.mem_of_getElem? (i := 87) rfl)) (fun r47 s47 t47 lo47 g47 f47 l47 => ?_)
              obtain ⟨z47, v47, q47, e47⟩ := f47
              cases q47
              rw [z47, g47]
              have hh47 : zh_ok D cA RTg ro sz H0 t40.heap lo47 := ⟨hh40.1, hh40.2.1, l47, hh40.2.2.2⟩
              refine W.eq (g2 := F0 m 172 ls [.int v47]) rfl ?_
              refine ff_if_eq hx hb (eX8_scan (172, .ifCond .eq 8, 3) (List.mem_of_getElem? (i := 88) rfl)) (tgt := 180) rfl (fun c48 => ?_) (fun c48 => ?_)
              · skip
                have d49 : ¬ (fd ≠ 1 ∧ 0 ≤ dgF T x40.2) := by omega
                have hfin : tmF9 T mk (f, sg) = (x40.1, x40.2) := by rw [← htot]; first | (simp only [ofF9, of2F, of3F, hx4, hx40, if_neg d4, if_pos d39, if_pos d43, if_neg d49, up_eq]; done) | (simp only [ofF9, of2F, of3F, hx4, hx40, if_neg d4, if_pos d39, if_pos d43, if_neg d49, up_eq] <;> rfl) | rfl
                exact W.vret hx hb hr (fun t ht hW => ⟨rfl, by rw [ht]; exact hh47.l0, by rw [ht]; exact kp40, by rw [ht, hfin]; exact j40, by rw [ht, hfin]; exact jd40, by rw [ht]; exact fr40⟩) hh47.2.2.1 (eX8_scan (180, .return_, 1) (List.mem_of_getElem? (i := 92) rfl))
              · skip
                have d50 : fd ≠ 1 ∧ 0 ≤ dgF T x40.2 := by omega
                refine lv_aload_n hx hb (eX8_scan (175, .aload_n 0, 1) (List.mem_of_getElem? (i := 89) rfl)) rfl (lv_at hl 1 rfl) ?_
                refine lv_aload_n hx hb (eX8_scan (176, .aload_n 1, 1) (List.mem_of_getElem? (i := 90) rfl)) rfl (lv_at hl 2 rfl) ?_
                refine tz_rowV (As := [.ref tx]) (st := []) (b := tm) (C := RX8) (Ts := gT) hx hb hml hown h2 (fun _ h => h) (hX8_scanOffsetMinutes l D cA ro sz H0 tm tx  T (x40.2) (x40.1) htm htx ) ⟨rfl, rfl⟩ ⟨by decide, by decide⟩ ⟨by decide, by decide⟩ (tb_5 23 rfl rfl) (tb_1 9 rfl rfl) (tb_5 20 rfl rfl) (tb_5 21 rfl rfl) (tb_5 22 rfl rfl) (show yX8_scanOffsetMinutes.cls ≠ "java/lang/invoke/MethodHandle" ∧ yX8_scanOffsetMinutes.cls ≠ "java/lang/invoke/VarHandle" ∧ (parseMethodDescriptor yX8_scanOffsetMinutes.desc).map (fun d => d.parameters.length) = some 1 by decide +kernel) zs_blind (zs_ob hh47 htm (show RTg[7]? = some (0, 7, 0, fsX8) from rfl) (zCX8 hKn.1)) (fun U hU hW => ⟨rfl, by rw [hU]; exact hh47.l0, zKb s U hW.alike hKn, by rw [hU]; exact ⟨j40, jd40⟩⟩) hh47.2.2.1 hl.1 (Nat.le_of_ble_eq_true rfl) (eX8_scan (177, .invokevirtual 91, 3) (List.mem_of_getElem? (i := 91) rfl)) (fun r51 s51 t51 lo51 g51 f51 l51 => ?_)
                obtain ⟨q51, z51, c51, j51, jd51, fx51⟩ := f51
                cases q51
                rw [g51] at c51 fx51
                have fr51 : ∀ p9 : Nat, p9 ∉ [tx, tm] → t51.heap[p9]? = s.heap[p9]? := fun p9 h9 => (fx51 p9 (fun q => h9 (by rcases List.mem_cons.mp q with q | q; (rw [q]; exact List.mem_cons_self); (rw [List.mem_singleton.mp q]; exact (List.mem_cons_of_mem _ List.mem_cons_self))))).trans (fr40 p9 h9)
                have hh51 : zh_ok D cA RTg ro sz H0 t51.heap lo51 := ⟨z51.1, z51.2.1, l51, z51.2.2.2⟩
                have kp51 := kp40.trans (c51.mono (ms' := tmM) (by decide))
                generalize hx51 : omF T (x40.1, x40.2) = x51 at j51 jd51
                have uu51 := j51.2.2
                unfold uOK at uu51
                refine W.eq (g2 := F0 m 180 ls []) rfl ?_
                have hfin : tmF9 T mk (f, sg) = (x51.1, x51.2) := by rw [← htot]; first | (simp only [ofF9, of2F, of3F, hx4, hx40, hx51, if_neg d4, if_pos d39, if_pos d43, if_pos d50, up_eq]; done) | (simp only [ofF9, of2F, of3F, hx4, hx40, hx51, if_neg d4, if_pos d39, if_pos d43, if_pos d50, up_eq] <;> rfl) | rfl
                exact W.vret hx hb hr (fun t ht hW => ⟨rfl, by rw [ht]; exact hh51.l0, by rw [ht]; exact kp51, by rw [ht, hfin]; exact j51, by rw [ht, hfin]; exact jd51, by rw [ht]; exact fr51⟩) hh51.2.2.1 (eX8_scan (180, .return_, 1) (List.mem_of_getElem? (i := 92) rfl))
          · skip
            have d52 : ¬ fd = 2 := by omega
            refine lv_aload_n hx hb (eX8_scan (154, .aload_n 1, 1) (List.mem_of_getElem? (i := 79) rfl)) rfl (lv_at hl 2 rfl) ?_
            refine ff_bipush hx hb (eX8_scan (155, .bipush 58, 2) (List.mem_of_getElem? (i := 80) rfl)) (by decide) (by decide) (fun v53 e53 => ?_)
            refine tz_rowV (As := [.int v53]) (st := []) (b := tx) (C := RX0) (Ts := gT) hx hb hml hown h2 (fun _ h => h) (hX0_take l D cA ro sz H0 tx v53 58 T (x40.2) htx (by omega) (by decide)) ⟨rfl, rfl⟩ ⟨by decide, by decide⟩ ⟨by decide, by decide⟩ (tb_4 8 rfl rfl) (tb_1 5 rfl rfl) (tb_5 9 rfl rfl) (tb_4 6 rfl rfl) (tb_4 7 rfl rfl) (show yX0_take.cls ≠ "java/lang/invoke/MethodHandle" ∧ yX0_take.cls ≠ "java/lang/invoke/VarHandle" ∧ (parseMethodDescriptor yX0_take.desc).map (fun d => d.parameters.length) = some 1 by decide +kernel) zs_blind (zs_ob hh40 htx (show RTg[0]? = some (0, 0, 0, fsX0) from rfl) (zCX0 hKn.1)) (fun U hU hW => ⟨rfl, by rw [hU]; exact hh40.l0, zKb s U hW.alike hKn, by rw [hU]; exact j40⟩) hh40.2.2.1 hl.1 (Nat.le_of_ble_eq_true rfl) (eX8_scan (157, .invokevirtual 68, 3) (List.mem_of_getElem? (i := 81) rfl)) (fun r54 s54 t54 lo54 g54 f54 l54 => ?_)
            obtain ⟨v54, q54, e54, z54, c54, j54, fx54⟩ := f54
            cases q54
            rw [g54] at c54 fx54
            have fr54 : ∀ p9 : Nat, p9 ∉ [tx, tm] → t54.heap[p9]? = s.heap[p9]? := fun p9 h9 => (fx54 p9 (fun q => h9 (by rw [List.mem_singleton.mp q]; exact List.mem_cons_self))).trans (fr40 p9 h9)
            have hh54 : zh_ok D cA RTg ro sz H0 t54.heap lo54 := ⟨z54.1, z54.2.1, l54, z54.2.2.2⟩
            have kp54 := kp40.trans (c54.mono (ms' := tmM) (by decide))
            have kf54 := tkF_01 T 58 x40.2
            generalize hx54 : tkF T 58 x40.2 = x54 at j54 e54 kf54
            have uu54 := j54.2.2
            unfold uOK at uu54
            have jd54 := jd40.kept htm rfl (by decide) c54 (by decide)
            refine W.eq (g2 := F0 m 160 ls [.int v54]) rfl ?_
            refine ff_if_ne hx hb (eX8_scan (160, .ifCond .ne 15, 3) (List.mem_of_getElem? (i := 82) rfl)) (tgt := 175) rfl (fun c55 => ?_) (fun c55 => ?_)
            · skip
              have d54 : x54.1 = 1 := by omega
              refine lv_aload_n hx hb (eX8_scan (175, .aload_n 0, 1) (List.mem_of_getElem? (i := 89) rfl)) rfl (lv_at hl 1 rfl) ?_
              refine lv_aload_n hx hb (eX8_scan (176, .aload_n 1, 1) (List.mem_of_getElem? (i := 90) rfl)) rfl (lv_at hl 2 rfl) ?_
              refine tz_rowV (As := [.ref tx]) (st := []) (b := tm) (C := RX8) (Ts := gT) hx hb hml hown h2 (fun _ h => h) (hX8_scanOffsetMinutes l D cA ro sz H0 tm tx  T (x54.2) (x40.1) htm htx ) ⟨rfl, rfl⟩ ⟨by decide, by decide⟩ ⟨by decide, by decide⟩ (tb_5 23 rfl rfl) (tb_1 9 rfl rfl) (tb_5 20 rfl rfl) (tb_5 21 rfl rfl) (tb_5 22 rfl rfl) (show yX8_scanOffsetMinutes.cls ≠ "java/lang/invoke/MethodHandle" ∧ yX8_scanOffsetMinutes.cls ≠ "java/lang/invoke/VarHandle" ∧ (parseMethodDescriptor yX8_scanOffsetMinutes.desc).map (fun d => d.parameters.length) = some 1 by decide +kernel) zs_blind (zs_ob hh54 htm (show RTg[7]? = some (0, 7, 0, fsX8) from rfl) (zCX8 hKn.1)) (fun U hU hW => ⟨rfl, by rw [hU]; exact hh54.l0, zKb s U hW.alike hKn, by rw [hU]; exact ⟨j54, jd54⟩⟩) hh54.2.2.1 hl.1 (Nat.le_of_ble_eq_true rfl) (eX8_scan (177, .invokevirtual 91, 3) (List.mem_of_getElem? (i := 91) rfl)) (fun r56 s56 t56 lo56 g56 f56 l56 => ?_)
              obtain ⟨q56, z56, c56, j56, jd56, fx56⟩ := f56
              cases q56
              rw [g56] at c56 fx56
              have fr56 : ∀ p9 : Nat, p9 ∉ [tx, tm] → t56.heap[p9]? = s.heap[p9]? := fun p9 h9 => (fx56 p9 (fun q => h9 (by rcases List.mem_cons.mp q with q | q; (rw [q]; exact List.mem_cons_self); (rw [List.mem_singleton.mp q]; exact (List.mem_cons_of_mem _ List.mem_cons_self))))).trans (fr54 p9 h9)
              have hh56 : zh_ok D cA RTg ro sz H0 t56.heap lo56 := ⟨z56.1, z56.2.1, l56, z56.2.2.2⟩
              have kp56 := kp54.trans (c56.mono (ms' := tmM) (by decide))
              generalize hx56 : omF T (x40.1, x54.2) = x56 at j56 jd56
              have uu56 := j56.2.2
              unfold uOK at uu56
              refine W.eq (g2 := F0 m 180 ls []) rfl ?_
              have hfin : tmF9 T mk (f, sg) = (x56.1, x56.2) := by rw [← htot]; first | (simp only [ofF9, of2F, of3F, hx4, hx40, hx54, hx56, if_neg d4, if_pos d39, if_neg d52, if_pos d54, up_eq]; done) | (simp only [ofF9, of2F, of3F, hx4, hx40, hx54, hx56, if_neg d4, if_pos d39, if_neg d52, if_pos d54, up_eq] <;> rfl) | rfl
              exact W.vret hx hb hr (fun t ht hW => ⟨rfl, by rw [ht]; exact hh56.l0, by rw [ht]; exact kp56, by rw [ht, hfin]; exact j56, by rw [ht, hfin]; exact jd56, by rw [ht]; exact fr56⟩) hh56.2.2.1 (eX8_scan (180, .return_, 1) (List.mem_of_getElem? (i := 92) rfl))
            · skip
              have d54 : ¬ x54.1 = 1 := by omega
              refine lv_iload_n hx hb (eX8_scan (163, .iload_n 3, 1) (List.mem_of_getElem? (i := 83) rfl)) rfl (lv_at hl 0 rfl) ?_
              refine ff_iconst hx hb (eX8_scan (164, .iconst 1, 1) (List.mem_of_getElem? (i := 84) rfl)) (by decide) (by decide) (fun v57 e57 => ?_)
              refine ff_icmp_eq hx hb (eX8_scan (165, .if_icmp .eq 15, 3) (List.mem_of_getElem? (i := 85) rfl)) (tgt := 180) rfl (fun c58 => ?_) (fun c58 => ?_)
              · skip
                have d59 : ¬ (fd ≠ 1 ∧ 0 ≤ dgF T x54.2) := by omega
                have hfin : tmF9 T mk (f, sg) = (x40.1, x54.2) := by rw [← htot]; first | (simp only [ofF9, of2F, of3F, hx4, hx40, hx54, if_neg d4, if_pos d39, if_neg d52, if_neg d54, if_neg d59, up_eq]; done) | (simp only [ofF9, of2F, of3F, hx4, hx40, hx54, if_neg d4, if_pos d39, if_neg d52, if_neg d54, if_neg d59, up_eq] <;> rfl) | rfl
                exact W.vret hx hb hr (fun t ht hW => ⟨rfl, by rw [ht]; exact hh54.l0, by rw [ht]; exact kp54, by rw [ht, hfin]; exact j54, by rw [ht, hfin]; exact jd54, by rw [ht]; exact fr54⟩) hh54.2.2.1 (eX8_scan (180, .return_, 1) (List.mem_of_getElem? (i := 92) rfl))
              · skip
                refine lv_aload_n hx hb (eX8_scan (168, .aload_n 1, 1) (List.mem_of_getElem? (i := 86) rfl)) rfl (lv_at hl 2 rfl) ?_
                refine tz_rowV (As := []) (st := []) (b := tx) (C := RX0) (Ts := gT) hx hb hml hown h2 (fun _ h => h) (hX0_atDigit l D cA ro sz H0 tx T (x54.2) htx) ⟨rfl, rfl⟩ ⟨by decide, by decide⟩ ⟨by decide, by decide⟩ (tb_4 24 rfl rfl) (tb_1 5 rfl rfl) (tb_5 136 rfl rfl) (tb_4 22 rfl rfl) (tb_4 23 rfl rfl) (show yX0_atDigit.cls ≠ "java/lang/invoke/MethodHandle" ∧ yX0_atDigit.cls ≠ "java/lang/invoke/VarHandle" ∧ (parseMethodDescriptor yX0_atDigit.desc).map (fun d => d.parameters.length) = some 0 by decide +kernel) zs_blind (zs_ob hh54 htx (show RTg[0]? = some (0, 0, 0, fsX0) from rfl) (zCX0 hKn.1)) (fun U hU hW => ⟨rfl, by rw [hU]; exact hh54.l0, zKb s U hW.alike hKn, by rw [hU]; exact j54⟩) hh54.2.2.1 hl.1 (Nat.le_of_ble_eq_true rfl) (eX8_scan (169, .invokevirtual 78, 3) (List.mem_of_getElem? (i := 87) rfl)) (fun r60 s60 t60 lo60 g60 f60 l60 => ?_)
                obtain ⟨z60, v60, q60, e60⟩ := f60
                cases q60
                rw [z60, g60]
                have hh60 : zh_ok D cA RTg ro sz H0 t54.heap lo60 := ⟨hh54.1, hh54.2.1, l60, hh54.2.2.2⟩
                refine W.eq (g2 := F0 m 172 ls [.int v60]) rfl ?_
                refine ff_if_eq hx hb (eX8_scan (172, .ifCond .eq 8, 3) (List.mem_of_getElem? (i := 88) rfl)) (tgt := 180) rfl (fun c61 => ?_) (fun c61 => ?_)
                · skip
                  have d62 : ¬ (fd ≠ 1 ∧ 0 ≤ dgF T x54.2) := by omega
                  have hfin : tmF9 T mk (f, sg) = (x40.1, x54.2) := by rw [← htot]; first | (simp only [ofF9, of2F, of3F, hx4, hx40, hx54, if_neg d4, if_pos d39, if_neg d52, if_neg d54, if_neg d62, up_eq]; done) | (simp only [ofF9, of2F, of3F, hx4, hx40, hx54, if_neg d4, if_pos d39, if_neg d52, if_neg d54, if_neg d62, up_eq] <;> rfl) | rfl
                  exact W.vret hx hb hr (fun t ht hW => ⟨rfl, by rw [ht]; exact hh60.l0, by rw [ht]; exact kp54, by rw [ht, hfin]; exact j54, by rw [ht, hfin]; exact jd54, by rw [ht]; exact fr54⟩) hh60.2.2.1 (eX8_scan (180, .return_, 1) (List.mem_of_getElem? (i := 92) rfl))
                · skip
                  have d63 : fd ≠ 1 ∧ 0 ≤ dgF T x54.2 := by omega
                  refine lv_aload_n hx hb (eX8_scan (175, .aload_n 0, 1) (List.mem_of_getElem? (i := 89) rfl)) rfl (lv_at hl 1 rfl) ?_
                  refine lv_aload_n hx hb (eX8_scan (176, .aload_n 1, 1) (List.mem_of_getElem? (i := 90) rfl)) rfl (lv_at hl 2 rfl) ?_
                  refine tz_rowV (As := [.ref tx]) (st := []) (b := tm) (C := RX8) (Ts := gT) hx hb hml hown h2 (fun _ h => h) (hX8_scanOffsetMinutes l D cA ro sz H0 tm tx  T (x54.2) (x40.1) htm htx ) ⟨rfl, rfl⟩ ⟨by decide, by decide⟩ ⟨by decide, by decide⟩ (tb_5 23 rfl rfl) (tb_1 9 rfl rfl) (tb_5 20 rfl rfl) (tb_5 21 rfl rfl) (tb_5 22 rfl rfl) (show yX8_scanOffsetMinutes.cls ≠ "java/lang/invoke/MethodHandle" ∧ yX8_scanOffsetMinutes.cls ≠ "java/lang/invoke/VarHandle" ∧ (parseMethodDescriptor yX8_scanOffsetMinutes.desc).map (fun d => d.parameters.length) = some 1 by decide +kernel) zs_blind (zs_ob hh60 htm (show RTg[7]? = some (0, 7, 0, fsX8) from rfl) (zCX8 hKn.1)) (fun U hU hW => ⟨rfl, by rw [hU]; exact hh60.l0, zKb s U hW.alike hKn, by rw [hU]; exact ⟨j54, jd54⟩⟩) hh60.2.2.1 hl.1 (Nat.le_of_ble_eq_true rfl) (eX8_scan (177, .invokevirtual 91, 3) (List.mem_of_getElem? (i := 91) rfl)) (fun r64 s64 t64 lo64 g64 f64 l64 => ?_)
                  obtain ⟨q64, z64, c64, j64, jd64, fx64⟩ := f64
                  cases q64
                  rw [g64] at c64 fx64
                  have fr64 : ∀ p9 : Nat, p9 ∉ [tx, tm] → t64.heap[p9]? = s.heap[p9]? := fun p9 h9 => (fx64 p9 (fun q => h9 (by rcases List.mem_cons.mp q with q | q; (rw [q]; exact List.mem_cons_self); (rw [List.mem_singleton.mp q]; exact (List.mem_cons_of_mem _ List.mem_cons_self))))).trans (fr54 p9 h9)
                  have hh64 : zh_ok D cA RTg ro sz H0 t64.heap lo64 := ⟨z64.1, z64.2.1, l64, z64.2.2.2⟩
                  have kp64 := kp54.trans (c64.mono (ms' := tmM) (by decide))
                  generalize hx64 : omF T (x40.1, x54.2) = x64 at j64 jd64
                  have uu64 := j64.2.2
                  unfold uOK at uu64
                  refine W.eq (g2 := F0 m 180 ls []) rfl ?_
                  have hfin : tmF9 T mk (f, sg) = (x64.1, x64.2) := by rw [← htot]; first | (simp only [ofF9, of2F, of3F, hx4, hx40, hx54, hx64, if_neg d4, if_pos d39, if_neg d52, if_neg d54, if_pos d63, up_eq]; done) | (simp only [ofF9, of2F, of3F, hx4, hx40, hx54, hx64, if_neg d4, if_pos d39, if_neg d52, if_neg d54, if_pos d63, up_eq] <;> rfl) | rfl
                  exact W.vret hx hb hr (fun t ht hW => ⟨rfl, by rw [ht]; exact hh64.l0, by rw [ht]; exact kp64, by rw [ht, hfin]; exact j64, by rw [ht, hfin]; exact jd64, by rw [ht]; exact fr64⟩) hh64.2.2.1 (eX8_scan (180, .return_, 1) (List.mem_of_getElem? (i := 92) rfl))
    · skip
      have d4 : x4.1 = 1 := by omega
      refine lv_aload_n hx hb (eX8_scan (118, .aload_n 0, 1) (List.mem_of_getElem? (i := 61) rfl)) rfl (lv_at hl 1 rfl) ?_
      refine ff_iconst hx hb (eX8_scan (119, .iconst 1, 1) (List.mem_of_getElem? (i := 62) rfl)) (by decide) (by decide) (fun v65 e65 => ?_)
      refine tz_put (r := 7) (k := 8) (t := (0, (-2147483648), 2147483647)) hx hb hD hh4 htm rfl rfl ((hcl7 36 8 (0, (-2147483648), 2147483647) (by decide) rfl).2 (by decide)) (tz_i (zn_i32 _).1 (zn_i32 _).2) (eX8_scan (120, .putfield 36, 3) (List.mem_of_getElem? (i := 63) rfl)) (fun H66 lo66 hh66 hf66 hk66 _ hq66 => ?_)
      have kp66 := kp4.trans (hk66.mono (ms' := tmM) (fun x hx => by cases List.mem_singleton.mp hx; decide))
      have jm66 := (j4).kept htx hk66 (by decide)
      have fr66 : ∀ p9 : Nat, p9 ∉ [tx, tm] → H66[p9]? = s.heap[p9]? := fun p9 h9 => (hq66 p9 (fun e9 => h9 (by rw [e9]; exact (List.mem_cons_of_mem _ List.mem_cons_self)))).trans (fr4 p9 h9)
      have jd66 := jF.put htm rfl (by decide) hk66 hf66 (show v65.toInt = 1 by omega) jd4
      refine lv_goto hx hb (eX8_scan (123, .goto 57, 3) (List.mem_of_getElem? (i := 64) rfl)) (tgt := 180) rfl ?_
      have hfin : tmF9 T mk (f, sg) = ((upF fj 8 (1)), x4.2) := by rw [← htot]; first | (simp only [ofF9, of2F, of3F, hx4, if_pos d4, up_eq]; done) | (simp only [ofF9, of2F, of3F, hx4, if_pos d4, up_eq] <;> rfl) | rfl
      exact W.vret hx hb hr (fun t ht hW => ⟨rfl, by rw [ht]; exact hh66.l0, by rw [ht]; exact kp66, by rw [ht, hfin]; exact jm66, by rw [ht, hfin]; exact jd66, by rw [ht]; exact fr66⟩) hh66.2.2.1 (eX8_scan (180, .return_, 1) (List.mem_of_getElem? (i := 92) rfl))
  have jn83 : ∀ (fj : fN) (gj : uS) (fv : Int32) (fd : Int) (ls : Array Slot) (H : Heap) (lo0 : List Loc), zh_ok D cA RTg ro sz H0 H lo0 → zc_kept D RTg ro tmM s.heap H → jU D cA ro H tx T gj → jF D H tm 7 14 fj → (∀ p9 : Nat, p9 ∉ [tx, tm] → H[p9]? = s.heap[p9]?) → fv.toInt = fd → ofF9 T fd (paF T (fj, gj)) = tmF9 T mk (f, sg) → lv_has ls 4 [(3, .int fv), (0, .ref tm), (1, .ref tx), (2, .int mv)] → W p l e (headSpec (gW yX8_scan cX8_scan 4 none) { frames := 3, cells := 0, slots := 0, locals := 67 }).room s m ([.ref tm, .ref tx, .int mv] : List Value).toArray below meth c H lo0 0 0 (MQ below (du_V D cA ro sz H0 tmM tx T tm 7 14 (tmF9 T mk (f, sg))) ([.ref tm, .ref tx, .int mv] : List Value).toArray s 0 0 (zy_fr sz)) (F0 m 83 ls []) := by
    intro fj gj fv  fd  ls H lo0 hh0 kpl jl jdl frl hfv htot hl
    have hul := jl.2.2
    unfold uOK at hul
    refine lv_aload_n hx hb (eX8_scan (83, .aload_n 1, 1) (List.mem_of_getElem? (i := 45) rfl)) rfl (lv_at hl 2 rfl) ?_
    refine ff_bipush hx hb (eX8_scan (84, .bipush 46, 2) (List.mem_of_getElem? (i := 46) rfl)) (by decide) (by decide) (fun v67 e67 => ?_)
    refine tz_rowV (As := [.int v67]) (st := []) (b := tx) (C := RX0) (Ts := gT) hx hb hml hown h2 (fun _ h => h) (hX0_take l D cA ro sz H0 tx v67 46 T (gj) htx (by omega) (by decide)) ⟨rfl, rfl⟩ ⟨by decide, by decide⟩ ⟨by decide, by decide⟩ (tb_4 8 rfl rfl) (tb_1 5 rfl rfl) (tb_5 9 rfl rfl) (tb_4 6 rfl rfl) (tb_4 7 rfl rfl) (show yX0_take.cls ≠ "java/lang/invoke/MethodHandle" ∧ yX0_take.cls ≠ "java/lang/invoke/VarHandle" ∧ (parseMethodDescriptor yX0_take.desc).map (fun d => d.parameters.length) = some 1 by decide +kernel) zs_blind (zs_ob hh0 htx (show RTg[0]? = some (0, 0, 0, fsX0) from rfl) (zCX0 hKn.1)) (fun U hU hW => ⟨rfl, by rw [hU]; exact hh0.l0, zKb s U hW.alike hKn, by rw [hU]; exact jl⟩) hh0.2.2.1 hl.1 (Nat.le_of_ble_eq_true rfl) (eX8_scan (86, .invokevirtual 68, 3) (List.mem_of_getElem? (i := 47) rfl)) (fun r68 s68 t68 lo68 g68 f68 l68 => ?_)
    obtain ⟨v68, q68, e68, z68, c68, j68, fx68⟩ := f68
    cases q68
    rw [g68] at c68 fx68
    have fr68 : ∀ p9 : Nat, p9 ∉ [tx, tm] → t68.heap[p9]? = s.heap[p9]? := fun p9 h9 => (fx68 p9 (fun q => h9 (by rw [List.mem_singleton.mp q]; exact List.mem_cons_self))).trans (frl p9 h9)
    have hh68 : zh_ok D cA RTg ro sz H0 t68.heap lo68 := ⟨z68.1, z68.2.1, l68, z68.2.2.2⟩
    have kp68 := kpl.trans (c68.mono (ms' := tmM) (by decide))
    have kf68 := tkF_01 T 46 gj
    generalize hx68 : tkF T 46 gj = x68 at j68 e68 kf68
    have uu68 := j68.2.2
    unfold uOK at uu68
    have jd68 := jdl.kept htm rfl (by decide) c68 (by decide)
    refine W.eq (g2 := F0 m 89 ls [.int v68]) rfl ?_
    refine ff_if_ne hx hb (eX8_scan (89, .ifCond .ne 12, 3) (List.mem_of_getElem? (i := 48) rfl)) (tgt := 101) rfl (fun c69 => ?_) (fun c69 => ?_)
    · skip
      have d68 : x68.1 = 1 := by omega
      refine lv_aload_n hx hb (eX8_scan (101, .aload_n 0, 1) (List.mem_of_getElem? (i := 53) rfl)) rfl (lv_at hl 1 rfl) ?_
      refine lv_aload_n hx hb (eX8_scan (102, .aload_n 1, 1) (List.mem_of_getElem? (i := 54) rfl)) rfl (lv_at hl 2 rfl) ?_
      refine tz_rowV (As := []) (st := [.ref tm]) (b := tx) (C := RX0) (Ts := gT) hx hb hml hown h2 (fun _ h => h) (hX0_part l D cA ro sz H0 tx T (x68.2) htx) ⟨rfl, rfl⟩ ⟨by decide, by decide⟩ ⟨by decide, by decide⟩ (tb_5 13 rfl rfl) (tb_1 5 rfl rfl) (tb_5 10 rfl rfl) (tb_5 11 rfl rfl) (tb_5 12 rfl rfl) (show yX0_part.cls ≠ "java/lang/invoke/MethodHandle" ∧ yX0_part.cls ≠ "java/lang/invoke/VarHandle" ∧ (parseMethodDescriptor yX0_part.desc).map (fun d => d.parameters.length) = some 0 by decide +kernel) zs_blind (zs_ob hh68 htx (show RTg[0]? = some (0, 0, 0, fsX0) from rfl) (zCX0 hKn.1)) (fun U hU hW => ⟨rfl, by rw [hU]; exact hh68.l0, zKb s U hW.alike hKn, by rw [hU]; exact j68⟩) hh68.2.2.1 hl.1 (Nat.le_of_ble_eq_true rfl) (eX8_scan (103, .invokevirtual 82, 3) (List.mem_of_getElem? (i := 55) rfl)) (fun r70 s70 t70 lo70 g70 f70 l70 => ?_)
      obtain ⟨v70, q70, e70, z70, c70, j70, fx70⟩ := f70
      cases q70
      rw [g70] at c70 fx70
      have fr70 : ∀ p9 : Nat, p9 ∉ [tx, tm] → t70.heap[p9]? = s.heap[p9]? := fun p9 h9 => (fx70 p9 (fun q => h9 (by rw [List.mem_singleton.mp q]; exact List.mem_cons_self))).trans (fr68 p9 h9)
      have hh70 : zh_ok D cA RTg ro sz H0 t70.heap lo70 := ⟨z70.1, z70.2.1, l70, z70.2.2.2⟩
      have kp70 := kp68.trans (c70.mono (ms' := tmM) (by decide))
      have kf70 := ptF_bd T x68.2
      generalize hx70 : ptF T x68.2 = x70 at j70 e70 kf70
      have uu70 := j70.2.2
      unfold uOK at uu70
      have jd70 := jd68.kept htm rfl (by decide) c70 (by decide)
      refine W.eq (g2 := F0 m 106 ls [.int v70, .ref tm]) rfl ?_
      refine tz_put (r := 7) (k := 6) (t := (0, (-2147483648), 2147483647)) hx hb hD hh70 htm rfl rfl ((hcl7 30 6 (0, (-2147483648), 2147483647) (by decide) rfl).2 (by decide)) (tz_i (zn_i32 _).1 (zn_i32 _).2) (eX8_scan (106, .putfield 30, 3) (List.mem_of_getElem? (i := 56) rfl)) (fun H71 lo71 hh71 hf71 hk71 _ hq71 => ?_)
      have kp71 := kp70.trans (hk71.mono (ms' := tmM) (fun x hx => by cases List.mem_singleton.mp hx; decide))
      have jm71 := (j70).kept htx hk71 (by decide)
      have fr71 : ∀ p9 : Nat, p9 ∉ [tx, tm] → H71[p9]? = s.heap[p9]? := fun p9 h9 => (hq71 p9 (fun e9 => h9 (by rw [e9]; exact (List.mem_cons_of_mem _ List.mem_cons_self)))).trans (fr70 p9 h9)
      have jd71 := jF.put htm rfl (by decide) hk71 hf71 (show v70.toInt = x70.1 by omega) jd70
      exact jn109 (upF fj 6 (x70.1)) x70.2 fv fd ls _ _ hh71 kp71 jm71 jd71 fr71 (by omega) (by rw [← htot]; first | (simp only [paF, pa1F, hx68, hx70, if_pos d68, up_eq]; done) | (simp only [paF, pa1F, hx68, hx70, if_pos d68, up_eq] <;> rfl) | rfl) (lv_sub hl [0, 1, 2, 3] rfl)
    · skip
      have d68 : ¬ x68.1 = 1 := by omega
      refine lv_aload_n hx hb (eX8_scan (92, .aload_n 1, 1) (List.mem_of_getElem? (i := 49) rfl)) rfl (lv_at hl 2 rfl) ?_
      refine ff_bipush hx hb (eX8_scan (93, .bipush 44, 2) (List.mem_of_getElem? (i := 50) rfl)) (by decide) (by decide) (fun v72 e72 => ?_)
      refine tz_rowV (As := [.int v72]) (st := []) (b := tx) (C := RX0) (Ts := gT) hx hb hml hown h2 (fun _ h => h) (hX0_take l D cA ro sz H0 tx v72 44 T (x68.2) htx (by omega) (by decide)) ⟨rfl, rfl⟩ ⟨by decide, by decide⟩ ⟨by decide, by decide⟩ (tb_4 8 rfl rfl) (tb_1 5 rfl rfl) (tb_5 9 rfl rfl) (tb_4 6 rfl rfl) (tb_4 7 rfl rfl) (show yX0_take.cls ≠ "java/lang/invoke/MethodHandle" ∧ yX0_take.cls ≠ "java/lang/invoke/VarHandle" ∧ (parseMethodDescriptor yX0_take.desc).map (fun d => d.parameters.length) = some 1 by decide +kernel) zs_blind (zs_ob hh68 htx (show RTg[0]? = some (0, 0, 0, fsX0) from rfl) (zCX0 hKn.1)) (fun U hU hW => ⟨rfl, by rw [hU]; exact hh68.l0, zKb s U hW.alike hKn, by rw [hU]; exact j68⟩) hh68.2.2.1 hl.1 (Nat.le_of_ble_eq_true rfl) (eX8_scan (95, .invokevirtual 68, 3) (List.mem_of_getElem? (i := 51) rfl)) (fun r73 s73 t73 lo73 g73 f73 l73 => ?_)
      obtain ⟨v73, q73, e73, z73, c73, j73, fx73⟩ := f73
      cases q73
      rw [g73] at c73 fx73
      have fr73 : ∀ p9 : Nat, p9 ∉ [tx, tm] → t73.heap[p9]? = s.heap[p9]? := fun p9 h9 => (fx73 p9 (fun q => h9 (by rw [List.mem_singleton.mp q]; exact List.mem_cons_self))).trans (fr68 p9 h9)
      have hh73 : zh_ok D cA RTg ro sz H0 t73.heap lo73 := ⟨z73.1, z73.2.1, l73, z73.2.2.2⟩
      have kp73 := kp68.trans (c73.mono (ms' := tmM) (by decide))
      have kf73 := tkF_01 T 44 x68.2
      generalize hx73 : tkF T 44 x68.2 = x73 at j73 e73 kf73
      have uu73 := j73.2.2
      unfold uOK at uu73
      have jd73 := jd68.kept htm rfl (by decide) c73 (by decide)
      refine W.eq (g2 := F0 m 98 ls [.int v73]) rfl ?_
      refine ff_if_eq hx hb (eX8_scan (98, .ifCond .eq 11, 3) (List.mem_of_getElem? (i := 52) rfl)) (tgt := 109) rfl (fun c74 => ?_) (fun c74 => ?_)
      · skip
        have d73 : ¬ x73.1 = 1 := by omega
        exact jn109 fj x73.2 fv fd ls _ _ hh73 kp73 j73 jd73 fr73 (by omega) (by rw [← htot]; first | (simp only [paF, pa1F, hx68, hx73, if_neg d68, if_neg d73, up_eq]; done) | (simp only [paF, pa1F, hx68, hx73, if_neg d68, if_neg d73, up_eq] <;> rfl) | rfl) (lv_sub hl [0, 1, 2, 3] rfl)
      · skip
        have d73 : x73.1 = 1 := by omega
        refine lv_aload_n hx hb (eX8_scan (101, .aload_n 0, 1) (List.mem_of_getElem? (i := 53) rfl)) rfl (lv_at hl 1 rfl) ?_
        refine lv_aload_n hx hb (eX8_scan (102, .aload_n 1, 1) (List.mem_of_getElem? (i := 54) rfl)) rfl (lv_at hl 2 rfl) ?_
        refine tz_rowV (As := []) (st := [.ref tm]) (b := tx) (C := RX0) (Ts := gT) hx hb hml hown h2 (fun _ h => h) (hX0_part l D cA ro sz H0 tx T (x73.2) htx) ⟨rfl, rfl⟩ ⟨by decide, by decide⟩ ⟨by decide, by decide⟩ (tb_5 13 rfl rfl) (tb_1 5 rfl rfl) (tb_5 10 rfl rfl) (tb_5 11 rfl rfl) (tb_5 12 rfl rfl) (show yX0_part.cls ≠ "java/lang/invoke/MethodHandle" ∧ yX0_part.cls ≠ "java/lang/invoke/VarHandle" ∧ (parseMethodDescriptor yX0_part.desc).map (fun d => d.parameters.length) = some 0 by decide +kernel) zs_blind (zs_ob hh73 htx (show RTg[0]? = some (0, 0, 0, fsX0) from rfl) (zCX0 hKn.1)) (fun U hU hW => ⟨rfl, by rw [hU]; exact hh73.l0, zKb s U hW.alike hKn, by rw [hU]; exact j73⟩) hh73.2.2.1 hl.1 (Nat.le_of_ble_eq_true rfl) (eX8_scan (103, .invokevirtual 82, 3) (List.mem_of_getElem? (i := 55) rfl)) (fun r75 s75 t75 lo75 g75 f75 l75 => ?_)
        obtain ⟨v75, q75, e75, z75, c75, j75, fx75⟩ := f75
        cases q75
        rw [g75] at c75 fx75
        have fr75 : ∀ p9 : Nat, p9 ∉ [tx, tm] → t75.heap[p9]? = s.heap[p9]? := fun p9 h9 => (fx75 p9 (fun q => h9 (by rw [List.mem_singleton.mp q]; exact List.mem_cons_self))).trans (fr73 p9 h9)
        have hh75 : zh_ok D cA RTg ro sz H0 t75.heap lo75 := ⟨z75.1, z75.2.1, l75, z75.2.2.2⟩
        have kp75 := kp73.trans (c75.mono (ms' := tmM) (by decide))
        have kf75 := ptF_bd T x73.2
        generalize hx75 : ptF T x73.2 = x75 at j75 e75 kf75
        have uu75 := j75.2.2
        unfold uOK at uu75
        have jd75 := jd73.kept htm rfl (by decide) c75 (by decide)
        refine W.eq (g2 := F0 m 106 ls [.int v75, .ref tm]) rfl ?_
        refine tz_put (r := 7) (k := 6) (t := (0, (-2147483648), 2147483647)) hx hb hD hh75 htm rfl rfl ((hcl7 30 6 (0, (-2147483648), 2147483647) (by decide) rfl).2 (by decide)) (tz_i (zn_i32 _).1 (zn_i32 _).2) (eX8_scan (106, .putfield 30, 3) (List.mem_of_getElem? (i := 56) rfl)) (fun H76 lo76 hh76 hf76 hk76 _ hq76 => ?_)
        have kp76 := kp75.trans (hk76.mono (ms' := tmM) (fun x hx => by cases List.mem_singleton.mp hx; decide))
        have jm76 := (j75).kept htx hk76 (by decide)
        have fr76 : ∀ p9 : Nat, p9 ∉ [tx, tm] → H76[p9]? = s.heap[p9]? := fun p9 h9 => (hq76 p9 (fun e9 => h9 (by rw [e9]; exact (List.mem_cons_of_mem _ List.mem_cons_self)))).trans (fr75 p9 h9)
        have jd76 := jF.put htm rfl (by decide) hk76 hf76 (show v75.toInt = x75.1 by omega) jd75
        exact jn109 (upF fj 6 (x75.1)) x75.2 fv fd ls _ _ hh76 kp76 jm76 jd76 fr76 (by omega) (by rw [← htot]; first | (simp only [paF, pa1F, hx68, hx73, hx75, if_neg d68, if_pos d73, up_eq]; done) | (simp only [paF, pa1F, hx68, hx73, hx75, if_neg d68, if_pos d73, up_eq] <;> rfl) | rfl) (lv_sub hl [0, 1, 2, 3] rfl)
  refine lv_aload_n hx hb (eX8_scan (7, .aload_n 0, 1) (List.mem_of_getElem? (i := 5) rfl)) rfl (lv_at hl2 1 rfl) ?_
  refine ff_sipush hx hb (eX8_scan (8, .sipush 3600, 3) (List.mem_of_getElem? (i := 6) rfl)) (by decide) (by decide) (fun v77 e77 => ?_)
  refine tz_put (r := 7) (k := 7) (t := (0, (-2147483648), 2147483647)) hx hb hD hh1 htm rfl rfl ((hcl7 33 7 (0, (-2147483648), 2147483647) (by decide) rfl).2 (by decide)) (tz_i (zn_i32 _).1 (zn_i32 _).2) (eX8_scan (11, .putfield 33, 3) (List.mem_of_getElem? (i := 7) rfl)) (fun H78 lo78 hh78 hf78 hk78 _ hq78 => ?_)
  have kp78 := kp1.trans (hk78.mono (ms' := tmM) (fun x hx => by cases List.mem_singleton.mp hx; decide))
  have jm78 := (j1).kept htx hk78 (by decide)
  have fr78 : ∀ p9 : Nat, p9 ∉ [tx, tm] → H78[p9]? = s.heap[p9]? := fun p9 h9 => (hq78 p9 (fun e9 => h9 (by rw [e9]; exact (List.mem_cons_of_mem _ List.mem_cons_self)))).trans (fr1 p9 h9)
  have jd78 := jF.put htm rfl (by decide) hk78 hf78 (show v77.toInt = 3600 by omega) jd1
  refine lv_iload_n hx hb (eX8_scan (14, .iload_n 2, 1) (List.mem_of_getElem? (i := 8) rfl)) rfl (lv_at hl2 3 rfl) ?_
  refine ff_iconst hx hb (eX8_scan (15, .iconst 2, 1) (List.mem_of_getElem? (i := 9) rfl)) (by decide) (by decide) (fun v79 e79 => ?_)
  refine ff_icmp_eq hx hb (eX8_scan (16, .if_icmp .eq 36, 3) (List.mem_of_getElem? (i := 10) rfl)) (tgt := 52) rfl (fun c80 => ?_) (fun c80 => ?_)
  · skip
    have d81 : mk = 2 := by omega
    refine lv_iload_n hx hb (eX8_scan (52, .iload_n 2, 1) (List.mem_of_getElem? (i := 28) rfl)) rfl (lv_at hl2 3 rfl) ?_
    refine ff_iconst hx hb (eX8_scan (53, .iconst 1, 1) (List.mem_of_getElem? (i := 29) rfl)) (by decide) (by decide) (fun v82 e82 => ?_)
    refine ff_icmp_eq hx hb (eX8_scan (54, .if_icmp .eq 29, 3) (List.mem_of_getElem? (i := 30) rfl)) (tgt := 83) rfl (fun c83 => ?_) (fun c83 => ?_)
    · skip
      have d84 : ¬ (mk ≠ 1 ∧ 0 ≤ dgF T x1.2) := by omega
      exact jn83 (upF x1.1 7 (3600)) x1.2 mv mk ls2 _ _ hh78 kp78 jm78 jd78 fr78 (by omega) (by first | (simp only [tmF9, msF, ms1F, ms2F, ms3F, hx1, if_pos d81, if_neg d84, up_eq]; done) | (simp only [tmF9, msF, ms1F, ms2F, ms3F, hx1, if_pos d81, if_neg d84, up_eq] <;> rfl) | rfl) (lv_sub hl2 [0, 1, 2, 3] rfl)
    · skip
      refine lv_aload_n hx hb (eX8_scan (57, .aload_n 1, 1) (List.mem_of_getElem? (i := 31) rfl)) rfl (lv_at hl2 2 rfl) ?_
      refine tz_rowV (As := []) (st := []) (b := tx) (C := RX0) (Ts := gT) hx hb hml hown h2 (fun _ h => h) (hX0_atDigit l D cA ro sz H0 tx T (x1.2) htx) ⟨rfl, rfl⟩ ⟨by decide, by decide⟩ ⟨by decide, by decide⟩ (tb_4 24 rfl rfl) (tb_1 5 rfl rfl) (tb_5 136 rfl rfl) (tb_4 22 rfl rfl) (tb_4 23 rfl rfl) (show yX0_atDigit.cls ≠ "java/lang/invoke/MethodHandle" ∧ yX0_atDigit.cls ≠ "java/lang/invoke/VarHandle" ∧ (parseMethodDescriptor yX0_atDigit.desc).map (fun d => d.parameters.length) = some 0 by decide +kernel) zs_blind (zs_ob hh78 htx (show RTg[0]? = some (0, 0, 0, fsX0) from rfl) (zCX0 hKn.1)) (fun U hU hW => ⟨rfl, by rw [hU]; exact hh78.l0, zKb s U hW.alike hKn, by rw [hU]; exact jm78⟩) hh78.2.2.1 hl2.1 (Nat.le_of_ble_eq_true rfl) (eX8_scan (58, .invokevirtual 78, 3) (List.mem_of_getElem? (i := 32) rfl)) (fun r85 s85 t85 lo85 g85 f85 l85 => ?_)
      obtain ⟨z85, v85, q85, e85⟩ := f85
      cases q85
      rw [z85, g85]
      have hh85 : zh_ok D cA RTg ro sz H0 H78 lo85 := ⟨hh78.1, hh78.2.1, l85, hh78.2.2.2⟩
      refine W.eq (g2 := F0 m 61 ls2 [.int v85]) rfl ?_
      refine ff_if_eq hx hb (eX8_scan (61, .ifCond .eq 22, 3) (List.mem_of_getElem? (i := 33) rfl)) (tgt := 83) rfl (fun c86 => ?_) (fun c86 => ?_)
      · skip
        have d87 : ¬ (mk ≠ 1 ∧ 0 ≤ dgF T x1.2) := by omega
        exact jn83 (upF x1.1 7 (3600)) x1.2 mv mk ls2 _ _ hh85 kp78 jm78 jd78 fr78 (by omega) (by first | (simp only [tmF9, msF, ms1F, ms2F, ms3F, hx1, if_pos d81, if_neg d87, up_eq]; done) | (simp only [tmF9, msF, ms1F, ms2F, ms3F, hx1, if_pos d81, if_neg d87, up_eq] <;> rfl) | rfl) (lv_sub hl2 [0, 1, 2, 3] rfl)
      · skip
        have d88 : mk ≠ 1 ∧ 0 ≤ dgF T x1.2 := by omega
        refine ff_iconst hx hb (eX8_scan (64, .iconst 2, 1) (List.mem_of_getElem? (i := 34) rfl)) (by decide) (by decide) (fun v89 e89 => ?_)
        refine lv_istore_n hx hb (eX8_scan (65, .istore_n 3, 1) (List.mem_of_getElem? (i := 35) rfl)) rfl hl2 (by decide) rfl (fun ls90 hl90 => ?_)
        refine lv_aload_n hx hb (eX8_scan (66, .aload_n 0, 1) (List.mem_of_getElem? (i := 36) rfl)) rfl (lv_at hl90 1 rfl) ?_
        refine lv_aload_n hx hb (eX8_scan (67, .aload_n 1, 1) (List.mem_of_getElem? (i := 37) rfl)) rfl (lv_at hl90 2 rfl) ?_
        refine tz_rowV (As := [.ref tx]) (st := []) (b := tm) (C := RX8) (Ts := gT) hx hb hml hown h2 (fun _ h => h) (hX8_scanMinutes l D cA ro sz H0 tm tx  T (x1.2) ((upF x1.1 7 (3600))) htm htx ) ⟨rfl, rfl⟩ ⟨by decide, by decide⟩ ⟨by decide, by decide⟩ (tb_5 4 rfl rfl) (tb_1 9 rfl rfl) (tb_5 1 rfl rfl) (tb_5 2 rfl rfl) (tb_5 3 rfl rfl) (show yX8_scanMinutes.cls ≠ "java/lang/invoke/MethodHandle" ∧ yX8_scanMinutes.cls ≠ "java/lang/invoke/VarHandle" ∧ (parseMethodDescriptor yX8_scanMinutes.desc).map (fun d => d.parameters.length) = some 1 by decide +kernel) zs_blind (zs_ob hh85 htm (show RTg[7]? = some (0, 7, 0, fsX8) from rfl) (zCX8 hKn.1)) (fun U hU hW => ⟨rfl, by rw [hU]; exact hh85.l0, zKb s U hW.alike hKn, by rw [hU]; exact ⟨jm78, jd78⟩⟩) hh85.2.2.1 hl90.1 (Nat.le_of_ble_eq_true rfl) (eX8_scan (68, .invokevirtual 72, 3) (List.mem_of_getElem? (i := 38) rfl)) (fun r91 s91 t91 lo91 g91 f91 l91 => ?_)
        obtain ⟨q91, z91, c91, j91, jd91, fx91⟩ := f91
        cases q91
        rw [g91] at c91 fx91
        have fr91 : ∀ p9 : Nat, p9 ∉ [tx, tm] → t91.heap[p9]? = s.heap[p9]? := fun p9 h9 => (fx91 p9 (fun q => h9 (by rcases List.mem_cons.mp q with q | q; (rw [q]; exact List.mem_cons_self); (rw [List.mem_singleton.mp q]; exact (List.mem_cons_of_mem _ List.mem_cons_self))))).trans (fr78 p9 h9)
        have hh91 : zh_ok D cA RTg ro sz H0 t91.heap lo91 := ⟨z91.1, z91.2.1, l91, z91.2.2.2⟩
        have kp91 := kp78.trans (c91.mono (ms' := tmM) (by decide))
        generalize hx91 : miF T ((upF x1.1 7 (3600)), x1.2) = x91 at j91 jd91
        have uu91 := j91.2.2
        unfold uOK at uu91
        refine W.eq (g2 := F0 m 71 ls90 []) rfl ?_
        refine lv_aload_n hx hb (eX8_scan (71, .aload_n 1, 1) (List.mem_of_getElem? (i := 39) rfl)) rfl (lv_at hl90 2 rfl) ?_
        refine tz_rowV (As := []) (st := []) (b := tx) (C := RX0) (Ts := gT) hx hb hml hown h2 (fun _ h => h) (hX0_atDigit l D cA ro sz H0 tx T (x91.2) htx) ⟨rfl, rfl⟩ ⟨by decide, by decide⟩ ⟨by decide, by decide⟩ (tb_4 24 rfl rfl) (tb_1 5 rfl rfl) (tb_5 136 rfl rfl) (tb_4 22 rfl rfl) (tb_4 23 rfl rfl) (show yX0_atDigit.cls ≠ "java/lang/invoke/MethodHandle" ∧ yX0_atDigit.cls ≠ "java/lang/invoke/VarHandle" ∧ (parseMethodDescriptor yX0_atDigit.desc).map (fun d => d.parameters.length) = some 0 by decide +kernel) zs_blind (zs_ob hh91 htx (show RTg[0]? = some (0, 0, 0, fsX0) from rfl) (zCX0 hKn.1)) (fun U hU hW => ⟨rfl, by rw [hU]; exact hh91.l0, zKb s U hW.alike hKn, by rw [hU]; exact j91⟩) hh91.2.2.1 hl90.1 (Nat.le_of_ble_eq_true rfl) (eX8_scan (72, .invokevirtual 78, 3) (List.mem_of_getElem? (i := 40) rfl)) (fun r92 s92 t92 lo92 g92 f92 l92 => ?_)
        obtain ⟨z92, v92, q92, e92⟩ := f92
        cases q92
        rw [z92, g92]
        have hh92 : zh_ok D cA RTg ro sz H0 t91.heap lo92 := ⟨hh91.1, hh91.2.1, l92, hh91.2.2.2⟩
        refine W.eq (g2 := F0 m 75 ls90 [.int v92]) rfl ?_
        refine ff_if_eq hx hb (eX8_scan (75, .ifCond .eq 8, 3) (List.mem_of_getElem? (i := 41) rfl)) (tgt := 83) rfl (fun c93 => ?_) (fun c93 => ?_)
        · have d94 : ¬ 0 ≤ dgF T x91.2 := by omega
          exact jn83 x91.1 x91.2 v89 2 ls90 _ _ hh92 kp91 j91 jd91 fr91 (by omega) (by first | (simp only [tmF9, msF, ms1F, ms2F, ms3F, hx1, hx91, if_pos d81, if_pos d88, if_neg d94, up_eq]; done) | (simp only [tmF9, msF, ms1F, ms2F, ms3F, hx1, hx91, if_pos d81, if_pos d88, if_neg d94, up_eq] <;> rfl) | rfl) (lv_sub hl90 [0, 1, 2, 3] rfl)
        · have d95 : 0 ≤ dgF T x91.2 := by omega
          refine lv_aload_n hx hb (eX8_scan (78, .aload_n 0, 1) (List.mem_of_getElem? (i := 42) rfl)) rfl (lv_at hl90 1 rfl) ?_
          refine lv_aload_n hx hb (eX8_scan (79, .aload_n 1, 1) (List.mem_of_getElem? (i := 43) rfl)) rfl (lv_at hl90 2 rfl) ?_
          refine tz_rowV (As := [.ref tx]) (st := []) (b := tm) (C := RX8) (Ts := gT) hx hb hml hown h2 (fun _ h => h) (hX8_scanSeconds l D cA ro sz H0 tm tx  T (x91.2) (x91.1) htm htx ) ⟨rfl, rfl⟩ ⟨by decide, by decide⟩ ⟨by decide, by decide⟩ (tb_5 8 rfl rfl) (tb_1 9 rfl rfl) (tb_5 5 rfl rfl) (tb_5 6 rfl rfl) (tb_5 7 rfl rfl) (show yX8_scanSeconds.cls ≠ "java/lang/invoke/MethodHandle" ∧ yX8_scanSeconds.cls ≠ "java/lang/invoke/VarHandle" ∧ (parseMethodDescriptor yX8_scanSeconds.desc).map (fun d => d.parameters.length) = some 1 by decide +kernel) zs_blind (zs_ob hh92 htm (show RTg[7]? = some (0, 7, 0, fsX8) from rfl) (zCX8 hKn.1)) (fun U hU hW => ⟨rfl, by rw [hU]; exact hh92.l0, zKb s U hW.alike hKn, by rw [hU]; exact ⟨j91, jd91⟩⟩) hh92.2.2.1 hl90.1 (Nat.le_of_ble_eq_true rfl) (eX8_scan (80, .invokevirtual 75, 3) (List.mem_of_getElem? (i := 44) rfl)) (fun r96 s96 t96 lo96 g96 f96 l96 => ?_)
          obtain ⟨q96, z96, c96, j96, jd96, fx96⟩ := f96
          cases q96
          rw [g96] at c96 fx96
          have fr96 : ∀ p9 : Nat, p9 ∉ [tx, tm] → t96.heap[p9]? = s.heap[p9]? := fun p9 h9 => (fx96 p9 (fun q => h9 (by rcases List.mem_cons.mp q with q | q; (rw [q]; exact List.mem_cons_self); (rw [List.mem_singleton.mp q]; exact (List.mem_cons_of_mem _ List.mem_cons_self))))).trans (fr91 p9 h9)
          have hh96 : zh_ok D cA RTg ro sz H0 t96.heap lo96 := ⟨z96.1, z96.2.1, l96, z96.2.2.2⟩
          have kp96 := kp91.trans (c96.mono (ms' := tmM) (by decide))
          generalize hx96 : scF9 T (x91.1, x91.2) = x96 at j96 jd96
          have uu96 := j96.2.2
          unfold uOK at uu96
          refine W.eq (g2 := F0 m 83 ls90 []) rfl ?_
          exact jn83 x96.1 x96.2 v89 2 ls90 _ _ hh96 kp96 j96 jd96 fr96 (by omega) (by first | (simp only [tmF9, msF, ms1F, ms2F, ms3F, hx1, hx91, hx96, if_pos d81, if_pos d88, if_pos d95, up_eq]; done) | (simp only [tmF9, msF, ms1F, ms2F, ms3F, hx1, hx91, hx96, if_pos d81, if_pos d88, if_pos d95, up_eq] <;> rfl) | rfl) (lv_sub hl90 [0, 1, 2, 3] rfl)
  · skip
    have d97 : ¬ mk = 2 := by omega
    refine lv_aload_n hx hb (eX8_scan (19, .aload_n 1, 1) (List.mem_of_getElem? (i := 11) rfl)) rfl (lv_at hl2 2 rfl) ?_
    refine ff_bipush hx hb (eX8_scan (20, .bipush 58, 2) (List.mem_of_getElem? (i := 12) rfl)) (by decide) (by decide) (fun v98 e98 => ?_)
    refine tz_rowV (As := [.int v98]) (st := []) (b := tx) (C := RX0) (Ts := gT) hx hb hml hown h2 (fun _ h => h) (hX0_take l D cA ro sz H0 tx v98 58 T (x1.2) htx (by omega) (by decide)) ⟨rfl, rfl⟩ ⟨by decide, by decide⟩ ⟨by decide, by decide⟩ (tb_4 8 rfl rfl) (tb_1 5 rfl rfl) (tb_5 9 rfl rfl) (tb_4 6 rfl rfl) (tb_4 7 rfl rfl) (show yX0_take.cls ≠ "java/lang/invoke/MethodHandle" ∧ yX0_take.cls ≠ "java/lang/invoke/VarHandle" ∧ (parseMethodDescriptor yX0_take.desc).map (fun d => d.parameters.length) = some 1 by decide +kernel) zs_blind (zs_ob hh78 htx (show RTg[0]? = some (0, 0, 0, fsX0) from rfl) (zCX0 hKn.1)) (fun U hU hW => ⟨rfl, by rw [hU]; exact hh78.l0, zKb s U hW.alike hKn, by rw [hU]; exact jm78⟩) hh78.2.2.1 hl2.1 (Nat.le_of_ble_eq_true rfl) (eX8_scan (22, .invokevirtual 68, 3) (List.mem_of_getElem? (i := 13) rfl)) (fun r99 s99 t99 lo99 g99 f99 l99 => ?_)
    obtain ⟨v99, q99, e99, z99, c99, j99, fx99⟩ := f99
    cases q99
    rw [g99] at c99 fx99
    have fr99 : ∀ p9 : Nat, p9 ∉ [tx, tm] → t99.heap[p9]? = s.heap[p9]? := fun p9 h9 => (fx99 p9 (fun q => h9 (by rw [List.mem_singleton.mp q]; exact List.mem_cons_self))).trans (fr78 p9 h9)
    have hh99 : zh_ok D cA RTg ro sz H0 t99.heap lo99 := ⟨z99.1, z99.2.1, l99, z99.2.2.2⟩
    have kp99 := kp78.trans (c99.mono (ms' := tmM) (by decide))
    have kf99 := tkF_01 T 58 x1.2
    generalize hx99 : tkF T 58 x1.2 = x99 at j99 e99 kf99
    have uu99 := j99.2.2
    unfold uOK at uu99
    have mf99_tm_7 := (c99.1 tm 7 7 7 0 fsX8 htm rfl (by decide) (by decide)).trans hf78
    have jd99 := jd78.kept htm rfl (by decide) c99 (by decide)
    refine W.eq (g2 := F0 m 25 ls2 [.int v99]) rfl ?_
    refine ff_if_eq hx hb (eX8_scan (25, .ifCond .eq 27, 3) (List.mem_of_getElem? (i := 14) rfl)) (tgt := 52) rfl (fun c100 => ?_) (fun c100 => ?_)
    · skip
      have d99 : ¬ x99.1 = 1 := by omega
      refine lv_iload_n hx hb (eX8_scan (52, .iload_n 2, 1) (List.mem_of_getElem? (i := 28) rfl)) rfl (lv_at hl2 3 rfl) ?_
      refine ff_iconst hx hb (eX8_scan (53, .iconst 1, 1) (List.mem_of_getElem? (i := 29) rfl)) (by decide) (by decide) (fun v101 e101 => ?_)
      refine ff_icmp_eq hx hb (eX8_scan (54, .if_icmp .eq 29, 3) (List.mem_of_getElem? (i := 30) rfl)) (tgt := 83) rfl (fun c102 => ?_) (fun c102 => ?_)
      · skip
        have d103 : ¬ (mk ≠ 1 ∧ 0 ≤ dgF T x99.2) := by omega
        exact jn83 (upF x1.1 7 (3600)) x99.2 mv mk ls2 _ _ hh99 kp99 j99 jd99 fr99 (by omega) (by first | (simp only [tmF9, msF, ms1F, ms2F, ms3F, hx1, hx99, if_neg d97, if_neg d99, if_neg d103, up_eq]; done) | (simp only [tmF9, msF, ms1F, ms2F, ms3F, hx1, hx99, if_neg d97, if_neg d99, if_neg d103, up_eq] <;> rfl) | rfl) (lv_sub hl2 [0, 1, 2, 3] rfl)
      · skip
        refine lv_aload_n hx hb (eX8_scan (57, .aload_n 1, 1) (List.mem_of_getElem? (i := 31) rfl)) rfl (lv_at hl2 2 rfl) ?_
        refine tz_rowV (As := []) (st := []) (b := tx) (C := RX0) (Ts := gT) hx hb hml hown h2 (fun _ h => h) (hX0_atDigit l D cA ro sz H0 tx T (x99.2) htx) ⟨rfl, rfl⟩ ⟨by decide, by decide⟩ ⟨by decide, by decide⟩ (tb_4 24 rfl rfl) (tb_1 5 rfl rfl) (tb_5 136 rfl rfl) (tb_4 22 rfl rfl) (tb_4 23 rfl rfl) (show yX0_atDigit.cls ≠ "java/lang/invoke/MethodHandle" ∧ yX0_atDigit.cls ≠ "java/lang/invoke/VarHandle" ∧ (parseMethodDescriptor yX0_atDigit.desc).map (fun d => d.parameters.length) = some 0 by decide +kernel) zs_blind (zs_ob hh99 htx (show RTg[0]? = some (0, 0, 0, fsX0) from rfl) (zCX0 hKn.1)) (fun U hU hW => ⟨rfl, by rw [hU]; exact hh99.l0, zKb s U hW.alike hKn, by rw [hU]; exact j99⟩) hh99.2.2.1 hl2.1 (Nat.le_of_ble_eq_true rfl) (eX8_scan (58, .invokevirtual 78, 3) (List.mem_of_getElem? (i := 32) rfl)) (fun r104 s104 t104 lo104 g104 f104 l104 => ?_)
        obtain ⟨z104, v104, q104, e104⟩ := f104
        cases q104
        rw [z104, g104]
        have hh104 : zh_ok D cA RTg ro sz H0 t99.heap lo104 := ⟨hh99.1, hh99.2.1, l104, hh99.2.2.2⟩
        refine W.eq (g2 := F0 m 61 ls2 [.int v104]) rfl ?_
        refine ff_if_eq hx hb (eX8_scan (61, .ifCond .eq 22, 3) (List.mem_of_getElem? (i := 33) rfl)) (tgt := 83) rfl (fun c105 => ?_) (fun c105 => ?_)
        · skip
          have d106 : ¬ (mk ≠ 1 ∧ 0 ≤ dgF T x99.2) := by omega
          exact jn83 (upF x1.1 7 (3600)) x99.2 mv mk ls2 _ _ hh104 kp99 j99 jd99 fr99 (by omega) (by first | (simp only [tmF9, msF, ms1F, ms2F, ms3F, hx1, hx99, if_neg d97, if_neg d99, if_neg d106, up_eq]; done) | (simp only [tmF9, msF, ms1F, ms2F, ms3F, hx1, hx99, if_neg d97, if_neg d99, if_neg d106, up_eq] <;> rfl) | rfl) (lv_sub hl2 [0, 1, 2, 3] rfl)
        · skip
          have d107 : mk ≠ 1 ∧ 0 ≤ dgF T x99.2 := by omega
          refine ff_iconst hx hb (eX8_scan (64, .iconst 2, 1) (List.mem_of_getElem? (i := 34) rfl)) (by decide) (by decide) (fun v108 e108 => ?_)
          refine lv_istore_n hx hb (eX8_scan (65, .istore_n 3, 1) (List.mem_of_getElem? (i := 35) rfl)) rfl hl2 (by decide) rfl (fun ls109 hl109 => ?_)
          refine lv_aload_n hx hb (eX8_scan (66, .aload_n 0, 1) (List.mem_of_getElem? (i := 36) rfl)) rfl (lv_at hl109 1 rfl) ?_
          refine lv_aload_n hx hb (eX8_scan (67, .aload_n 1, 1) (List.mem_of_getElem? (i := 37) rfl)) rfl (lv_at hl109 2 rfl) ?_
          refine tz_rowV (As := [.ref tx]) (st := []) (b := tm) (C := RX8) (Ts := gT) hx hb hml hown h2 (fun _ h => h) (hX8_scanMinutes l D cA ro sz H0 tm tx  T (x99.2) ((upF x1.1 7 (3600))) htm htx ) ⟨rfl, rfl⟩ ⟨by decide, by decide⟩ ⟨by decide, by decide⟩ (tb_5 4 rfl rfl) (tb_1 9 rfl rfl) (tb_5 1 rfl rfl) (tb_5 2 rfl rfl) (tb_5 3 rfl rfl) (show yX8_scanMinutes.cls ≠ "java/lang/invoke/MethodHandle" ∧ yX8_scanMinutes.cls ≠ "java/lang/invoke/VarHandle" ∧ (parseMethodDescriptor yX8_scanMinutes.desc).map (fun d => d.parameters.length) = some 1 by decide +kernel) zs_blind (zs_ob hh104 htm (show RTg[7]? = some (0, 7, 0, fsX8) from rfl) (zCX8 hKn.1)) (fun U hU hW => ⟨rfl, by rw [hU]; exact hh104.l0, zKb s U hW.alike hKn, by rw [hU]; exact ⟨j99, jd99⟩⟩) hh104.2.2.1 hl109.1 (Nat.le_of_ble_eq_true rfl) (eX8_scan (68, .invokevirtual 72, 3) (List.mem_of_getElem? (i := 38) rfl)) (fun r110 s110 t110 lo110 g110 f110 l110 => ?_)
          obtain ⟨q110, z110, c110, j110, jd110, fx110⟩ := f110
          cases q110
          rw [g110] at c110 fx110
          have fr110 : ∀ p9 : Nat, p9 ∉ [tx, tm] → t110.heap[p9]? = s.heap[p9]? := fun p9 h9 => (fx110 p9 (fun q => h9 (by rcases List.mem_cons.mp q with q | q; (rw [q]; exact List.mem_cons_self); (rw [List.mem_singleton.mp q]; exact (List.mem_cons_of_mem _ List.mem_cons_self))))).trans (fr99 p9 h9)
          have hh110 : zh_ok D cA RTg ro sz H0 t110.heap lo110 := ⟨z110.1, z110.2.1, l110, z110.2.2.2⟩
          have kp110 := kp99.trans (c110.mono (ms' := tmM) (by decide))
          generalize hx110 : miF T ((upF x1.1 7 (3600)), x99.2) = x110 at j110 jd110
          have uu110 := j110.2.2
          unfold uOK at uu110
          refine W.eq (g2 := F0 m 71 ls109 []) rfl ?_
          refine lv_aload_n hx hb (eX8_scan (71, .aload_n 1, 1) (List.mem_of_getElem? (i := 39) rfl)) rfl (lv_at hl109 2 rfl) ?_
          refine tz_rowV (As := []) (st := []) (b := tx) (C := RX0) (Ts := gT) hx hb hml hown h2 (fun _ h => h) (hX0_atDigit l D cA ro sz H0 tx T (x110.2) htx) ⟨rfl, rfl⟩ ⟨by decide, by decide⟩ ⟨by decide, by decide⟩ (tb_4 24 rfl rfl) (tb_1 5 rfl rfl) (tb_5 136 rfl rfl) (tb_4 22 rfl rfl) (tb_4 23 rfl rfl) (show yX0_atDigit.cls ≠ "java/lang/invoke/MethodHandle" ∧ yX0_atDigit.cls ≠ "java/lang/invoke/VarHandle" ∧ (parseMethodDescriptor yX0_atDigit.desc).map (fun d => d.parameters.length) = some 0 by decide +kernel) zs_blind (zs_ob hh110 htx (show RTg[0]? = some (0, 0, 0, fsX0) from rfl) (zCX0 hKn.1)) (fun U hU hW => ⟨rfl, by rw [hU]; exact hh110.l0, zKb s U hW.alike hKn, by rw [hU]; exact j110⟩) hh110.2.2.1 hl109.1 (Nat.le_of_ble_eq_true rfl) (eX8_scan (72, .invokevirtual 78, 3) (List.mem_of_getElem? (i := 40) rfl)) (fun r111 s111 t111 lo111 g111 f111 l111 => ?_)
          obtain ⟨z111, v111, q111, e111⟩ := f111
          cases q111
          rw [z111, g111]
          have hh111 : zh_ok D cA RTg ro sz H0 t110.heap lo111 := ⟨hh110.1, hh110.2.1, l111, hh110.2.2.2⟩
          refine W.eq (g2 := F0 m 75 ls109 [.int v111]) rfl ?_
          refine ff_if_eq hx hb (eX8_scan (75, .ifCond .eq 8, 3) (List.mem_of_getElem? (i := 41) rfl)) (tgt := 83) rfl (fun c112 => ?_) (fun c112 => ?_)
          · have d113 : ¬ 0 ≤ dgF T x110.2 := by omega
            exact jn83 x110.1 x110.2 v108 2 ls109 _ _ hh111 kp110 j110 jd110 fr110 (by omega) (by first | (simp only [tmF9, msF, ms1F, ms2F, ms3F, hx1, hx99, hx110, if_neg d97, if_neg d99, if_pos d107, if_neg d113, up_eq]; done) | (simp only [tmF9, msF, ms1F, ms2F, ms3F, hx1, hx99, hx110, if_neg d97, if_neg d99, if_pos d107, if_neg d113, up_eq] <;> rfl) | rfl) (lv_sub hl109 [0, 1, 2, 3] rfl)
          · have d114 : 0 ≤ dgF T x110.2 := by omega
            refine lv_aload_n hx hb (eX8_scan (78, .aload_n 0, 1) (List.mem_of_getElem? (i := 42) rfl)) rfl (lv_at hl109 1 rfl) ?_
            refine lv_aload_n hx hb (eX8_scan (79, .aload_n 1, 1) (List.mem_of_getElem? (i := 43) rfl)) rfl (lv_at hl109 2 rfl) ?_
            refine tz_rowV (As := [.ref tx]) (st := []) (b := tm) (C := RX8) (Ts := gT) hx hb hml hown h2 (fun _ h => h) (hX8_scanSeconds l D cA ro sz H0 tm tx  T (x110.2) (x110.1) htm htx ) ⟨rfl, rfl⟩ ⟨by decide, by decide⟩ ⟨by decide, by decide⟩ (tb_5 8 rfl rfl) (tb_1 9 rfl rfl) (tb_5 5 rfl rfl) (tb_5 6 rfl rfl) (tb_5 7 rfl rfl) (show yX8_scanSeconds.cls ≠ "java/lang/invoke/MethodHandle" ∧ yX8_scanSeconds.cls ≠ "java/lang/invoke/VarHandle" ∧ (parseMethodDescriptor yX8_scanSeconds.desc).map (fun d => d.parameters.length) = some 1 by decide +kernel) zs_blind (zs_ob hh111 htm (show RTg[7]? = some (0, 7, 0, fsX8) from rfl) (zCX8 hKn.1)) (fun U hU hW => ⟨rfl, by rw [hU]; exact hh111.l0, zKb s U hW.alike hKn, by rw [hU]; exact ⟨j110, jd110⟩⟩) hh111.2.2.1 hl109.1 (Nat.le_of_ble_eq_true rfl) (eX8_scan (80, .invokevirtual 75, 3) (List.mem_of_getElem? (i := 44) rfl)) (fun r115 s115 t115 lo115 g115 f115 l115 => ?_)
            obtain ⟨q115, z115, c115, j115, jd115, fx115⟩ := f115
            cases q115
            rw [g115] at c115 fx115
            have fr115 : ∀ p9 : Nat, p9 ∉ [tx, tm] → t115.heap[p9]? = s.heap[p9]? := fun p9 h9 => (fx115 p9 (fun q => h9 (by rcases List.mem_cons.mp q with q | q; (rw [q]; exact List.mem_cons_self); (rw [List.mem_singleton.mp q]; exact (List.mem_cons_of_mem _ List.mem_cons_self))))).trans (fr110 p9 h9)
            have hh115 : zh_ok D cA RTg ro sz H0 t115.heap lo115 := ⟨z115.1, z115.2.1, l115, z115.2.2.2⟩
            have kp115 := kp110.trans (c115.mono (ms' := tmM) (by decide))
            generalize hx115 : scF9 T (x110.1, x110.2) = x115 at j115 jd115
            have uu115 := j115.2.2
            unfold uOK at uu115
            refine W.eq (g2 := F0 m 83 ls109 []) rfl ?_
            exact jn83 x115.1 x115.2 v108 2 ls109 _ _ hh115 kp115 j115 jd115 fr115 (by omega) (by first | (simp only [tmF9, msF, ms1F, ms2F, ms3F, hx1, hx99, hx110, hx115, if_neg d97, if_neg d99, if_pos d107, if_pos d114, up_eq]; done) | (simp only [tmF9, msF, ms1F, ms2F, ms3F, hx1, hx99, hx110, hx115, if_neg d97, if_neg d99, if_pos d107, if_pos d114, up_eq] <;> rfl) | rfl) (lv_sub hl109 [0, 1, 2, 3] rfl)
    · skip
      have d99 : x99.1 = 1 := by omega
      refine ff_iconst hx hb (eX8_scan (28, .iconst 1, 1) (List.mem_of_getElem? (i := 15) rfl)) (by decide) (by decide) (fun v116 e116 => ?_)
      refine lv_istore_n hx hb (eX8_scan (29, .istore_n 3, 1) (List.mem_of_getElem? (i := 16) rfl)) rfl hl2 (by decide) rfl (fun ls117 hl117 => ?_)
      refine lv_aload_n hx hb (eX8_scan (30, .aload_n 0, 1) (List.mem_of_getElem? (i := 17) rfl)) rfl (lv_at hl117 1 rfl) ?_
      refine lv_aload_n hx hb (eX8_scan (31, .aload_n 1, 1) (List.mem_of_getElem? (i := 18) rfl)) rfl (lv_at hl117 2 rfl) ?_
      refine tz_rowV (As := [.ref tx]) (st := []) (b := tm) (C := RX8) (Ts := gT) hx hb hml hown h2 (fun _ h => h) (hX8_scanMinutes l D cA ro sz H0 tm tx  T (x99.2) ((upF x1.1 7 (3600))) htm htx ) ⟨rfl, rfl⟩ ⟨by decide, by decide⟩ ⟨by decide, by decide⟩ (tb_5 4 rfl rfl) (tb_1 9 rfl rfl) (tb_5 1 rfl rfl) (tb_5 2 rfl rfl) (tb_5 3 rfl rfl) (show yX8_scanMinutes.cls ≠ "java/lang/invoke/MethodHandle" ∧ yX8_scanMinutes.cls ≠ "java/lang/invoke/VarHandle" ∧ (parseMethodDescriptor yX8_scanMinutes.desc).map (fun d => d.parameters.length) = some 1 by decide +kernel) zs_blind (zs_ob hh99 htm (show RTg[7]? = some (0, 7, 0, fsX8) from rfl) (zCX8 hKn.1)) (fun U hU hW => ⟨rfl, by rw [hU]; exact hh99.l0, zKb s U hW.alike hKn, by rw [hU]; exact ⟨j99, jd99⟩⟩) hh99.2.2.1 hl117.1 (Nat.le_of_ble_eq_true rfl) (eX8_scan (32, .invokevirtual 72, 3) (List.mem_of_getElem? (i := 19) rfl)) (fun r118 s118 t118 lo118 g118 f118 l118 => ?_)
      obtain ⟨q118, z118, c118, j118, jd118, fx118⟩ := f118
      cases q118
      rw [g118] at c118 fx118
      have fr118 : ∀ p9 : Nat, p9 ∉ [tx, tm] → t118.heap[p9]? = s.heap[p9]? := fun p9 h9 => (fx118 p9 (fun q => h9 (by rcases List.mem_cons.mp q with q | q; (rw [q]; exact List.mem_cons_self); (rw [List.mem_singleton.mp q]; exact (List.mem_cons_of_mem _ List.mem_cons_self))))).trans (fr99 p9 h9)
      have hh118 : zh_ok D cA RTg ro sz H0 t118.heap lo118 := ⟨z118.1, z118.2.1, l118, z118.2.2.2⟩
      have kp118 := kp99.trans (c118.mono (ms' := tmM) (by decide))
      generalize hx118 : miF T ((upF x1.1 7 (3600)), x99.2) = x118 at j118 jd118
      have uu118 := j118.2.2
      unfold uOK at uu118
      refine W.eq (g2 := F0 m 35 ls117 []) rfl ?_
      refine lv_aload_n hx hb (eX8_scan (35, .aload_n 1, 1) (List.mem_of_getElem? (i := 20) rfl)) rfl (lv_at hl117 2 rfl) ?_
      refine ff_bipush hx hb (eX8_scan (36, .bipush 58, 2) (List.mem_of_getElem? (i := 21) rfl)) (by decide) (by decide) (fun v119 e119 => ?_)
      refine tz_rowV (As := [.int v119]) (st := []) (b := tx) (C := RX0) (Ts := gT) hx hb hml hown h2 (fun _ h => h) (hX0_take l D cA ro sz H0 tx v119 58 T (x118.2) htx (by omega) (by decide)) ⟨rfl, rfl⟩ ⟨by decide, by decide⟩ ⟨by decide, by decide⟩ (tb_4 8 rfl rfl) (tb_1 5 rfl rfl) (tb_5 9 rfl rfl) (tb_4 6 rfl rfl) (tb_4 7 rfl rfl) (show yX0_take.cls ≠ "java/lang/invoke/MethodHandle" ∧ yX0_take.cls ≠ "java/lang/invoke/VarHandle" ∧ (parseMethodDescriptor yX0_take.desc).map (fun d => d.parameters.length) = some 1 by decide +kernel) zs_blind (zs_ob hh118 htx (show RTg[0]? = some (0, 0, 0, fsX0) from rfl) (zCX0 hKn.1)) (fun U hU hW => ⟨rfl, by rw [hU]; exact hh118.l0, zKb s U hW.alike hKn, by rw [hU]; exact j118⟩) hh118.2.2.1 hl117.1 (Nat.le_of_ble_eq_true rfl) (eX8_scan (38, .invokevirtual 68, 3) (List.mem_of_getElem? (i := 22) rfl)) (fun r120 s120 t120 lo120 g120 f120 l120 => ?_)
      obtain ⟨v120, q120, e120, z120, c120, j120, fx120⟩ := f120
      cases q120
      rw [g120] at c120 fx120
      have fr120 : ∀ p9 : Nat, p9 ∉ [tx, tm] → t120.heap[p9]? = s.heap[p9]? := fun p9 h9 => (fx120 p9 (fun q => h9 (by rw [List.mem_singleton.mp q]; exact List.mem_cons_self))).trans (fr118 p9 h9)
      have hh120 : zh_ok D cA RTg ro sz H0 t120.heap lo120 := ⟨z120.1, z120.2.1, l120, z120.2.2.2⟩
      have kp120 := kp118.trans (c120.mono (ms' := tmM) (by decide))
      have kf120 := tkF_01 T 58 x118.2
      generalize hx120 : tkF T 58 x118.2 = x120 at j120 e120 kf120
      have uu120 := j120.2.2
      unfold uOK at uu120
      have jd120 := jd118.kept htm rfl (by decide) c120 (by decide)
      refine W.eq (g2 := F0 m 41 ls117 [.int v120]) rfl ?_
      refine ff_if_eq hx hb (eX8_scan (41, .ifCond .eq 42, 3) (List.mem_of_getElem? (i := 23) rfl)) (tgt := 83) rfl (fun c121 => ?_) (fun c121 => ?_)
      · skip
        have d120 : ¬ x120.1 = 1 := by omega
        exact jn83 x118.1 x120.2 v116 1 ls117 _ _ hh120 kp120 j120 jd120 fr120 (by omega) (by first | (simp only [tmF9, msF, ms1F, ms2F, ms3F, hx1, hx99, hx118, hx120, if_neg d97, if_pos d99, if_neg d120, up_eq]; done) | (simp only [tmF9, msF, ms1F, ms2F, ms3F, hx1, hx99, hx118, hx120, if_neg d97, if_pos d99, if_neg d120, up_eq] <;> rfl) | rfl) (lv_sub hl117 [0, 1, 2, 3] rfl)
      · skip
        have d120 : x120.1 = 1 := by omega
        refine lv_aload_n hx hb (eX8_scan (44, .aload_n 0, 1) (List.mem_of_getElem? (i := 24) rfl)) rfl (lv_at hl117 1 rfl) ?_
        refine lv_aload_n hx hb (eX8_scan (45, .aload_n 1, 1) (List.mem_of_getElem? (i := 25) rfl)) rfl (lv_at hl117 2 rfl) ?_
        refine tz_rowV (As := [.ref tx]) (st := []) (b := tm) (C := RX8) (Ts := gT) hx hb hml hown h2 (fun _ h => h) (hX8_scanSeconds l D cA ro sz H0 tm tx  T (x120.2) (x118.1) htm htx ) ⟨rfl, rfl⟩ ⟨by decide, by decide⟩ ⟨by decide, by decide⟩ (tb_5 8 rfl rfl) (tb_1 9 rfl rfl) (tb_5 5 rfl rfl) (tb_5 6 rfl rfl) (tb_5 7 rfl rfl) (show yX8_scanSeconds.cls ≠ "java/lang/invoke/MethodHandle" ∧ yX8_scanSeconds.cls ≠ "java/lang/invoke/VarHandle" ∧ (parseMethodDescriptor yX8_scanSeconds.desc).map (fun d => d.parameters.length) = some 1 by decide +kernel) zs_blind (zs_ob hh120 htm (show RTg[7]? = some (0, 7, 0, fsX8) from rfl) (zCX8 hKn.1)) (fun U hU hW => ⟨rfl, by rw [hU]; exact hh120.l0, zKb s U hW.alike hKn, by rw [hU]; exact ⟨j120, jd120⟩⟩) hh120.2.2.1 hl117.1 (Nat.le_of_ble_eq_true rfl) (eX8_scan (46, .invokevirtual 75, 3) (List.mem_of_getElem? (i := 26) rfl)) (fun r122 s122 t122 lo122 g122 f122 l122 => ?_)
        obtain ⟨q122, z122, c122, j122, jd122, fx122⟩ := f122
        cases q122
        rw [g122] at c122 fx122
        have fr122 : ∀ p9 : Nat, p9 ∉ [tx, tm] → t122.heap[p9]? = s.heap[p9]? := fun p9 h9 => (fx122 p9 (fun q => h9 (by rcases List.mem_cons.mp q with q | q; (rw [q]; exact List.mem_cons_self); (rw [List.mem_singleton.mp q]; exact (List.mem_cons_of_mem _ List.mem_cons_self))))).trans (fr120 p9 h9)
        have hh122 : zh_ok D cA RTg ro sz H0 t122.heap lo122 := ⟨z122.1, z122.2.1, l122, z122.2.2.2⟩
        have kp122 := kp120.trans (c122.mono (ms' := tmM) (by decide))
        generalize hx122 : scF9 T (x118.1, x120.2) = x122 at j122 jd122
        have uu122 := j122.2.2
        unfold uOK at uu122
        refine W.eq (g2 := F0 m 49 ls117 []) rfl ?_
        refine lv_goto hx hb (eX8_scan (49, .goto 34, 3) (List.mem_of_getElem? (i := 27) rfl)) (tgt := 83) rfl ?_
        exact jn83 x122.1 x122.2 v116 1 ls117 _ _ hh122 kp122 j122 jd122 fr122 (by omega) (by first | (simp only [tmF9, msF, ms1F, ms2F, ms3F, hx1, hx99, hx118, hx120, hx122, if_neg d97, if_pos d99, if_pos d120, up_eq]; done) | (simp only [tmF9, msF, ms1F, ms2F, ms3F, hx1, hx99, hx118, hx120, hx122, if_neg d97, if_pos d99, if_pos d120, up_eq] <;> rfl) | rfl) (lv_sub hl117 [0, 1, 2, 3] rfl)
set_option maxRecDepth 100000 in
set_option maxHeartbeats 4000000 in
theorem hX8_scanFull (l : Launch) (D : va_G) (cA : Nat → ClassId) (ro : Nat → Option Nat) (sz : Nat) (H0 : Heap) (tm : Nat) (tx : Nat) (T : List Int) (sg : uS) (f : fN) (htm : ro tm = some 7) (htx : ro tx = some 0) : Met l yX8_scanFull (gW yX8_scanFull cX8_scanFull 2 none) { frames := 3, cells := 0, slots := 0, locals := 67 } (zs_P D cA ro sz H0 (fun H => jU D cA ro H tx T sg ∧ jF D H tm 7 14 f) [.ref tm, .ref tx]) (du_V D cA ro sz H0 tmM tx T tm 7 14 (tfF T (f, sg))) 0 0 (zy_fr sz) := by
  refine zy_ofW (cc := cX8_scanFull) (maxL := 2) (ret := none) (by decide +kernel) rfl ?_
  intro p e s m args below meth c s1 B hml hv
  obtain ⟨rfl, hh, hKn, hJ⟩ := hv
  have hx := B.exec
  have hb := B.bytes
  have hr := B.returns
  have hlk := B.notSynchronized
  have hts0 := atoms_spec (ws := gW yX8_scanFull cX8_scanFull 2 none) B.pre
  have h2 : ∀ w ∈ gT, w.before ([.ref tm, .ref tx] : List Value).toArray s = true := fun w hw => hts0 w (List.mem_cons_of_mem _ hw)
  have hown : s.vm.findClass RX8 = some m.cls := findClass_of_methodNamed B.named
  have hl := lv_entry [.ref tm, .ref tx] (n := 2) (Nat.le_of_ble_eq_true rfl)
  rw [lg_entry_eq]
  generalize (lg_sl [.ref tm, .ref tx] ++ List.replicate (2 - (lg_sl [.ref tm, .ref tx]).length) Slot.unset).toArray = ls at hl ⊢
  have hD := zD_all h2 hKn.1
  have hcl0 := fun (idx k : Nat) (t : zt_T) (h : (idx, 0, k) ∈ gfX8) (hk : fsX0[k]? = some t) => zf_clause (ro := ro) (ms := tmM) h2 hown hKn.1 gfX8_ok (by decide +kernel) idx 0 k 0 0 fsX0 t h rfl hk
  have hcl7 := fun (idx k : Nat) (t : zt_T) (h : (idx, 7, k) ∈ gfX8) (hk : fsX8[k]? = some t) => zf_clause (ro := ro) (ms := tmM) h2 hown hKn.1 gfX8_ok (by decide +kernel) idx 7 k 7 0 fsX8 t h rfl hk
  have kp0 : zc_kept D RTg ro tmM s.heap s.heap := zc_kept.refl
  obtain ⟨hJ, jd0⟩ := hJ
  obtain ⟨hjt, ⟨av, bv, wv, f2, f3, f4, hav, hbv, hwv⟩, hu⟩ := id hJ
  obtain ⟨tb, n, z, f0, r0, f1, hn, hc, hz⟩ := id hjt
  obtain ⟨n9, g9, n1, n2⟩ := zh_fT (k := 1) (t := (0, 0, 120)) hh htx (show RTg[0]? = some (0, 0, 0, fsX0) from rfl) rfl
  cases f1.symm.trans g9
  dsimp only at n1 n2
  clear g9
  obtain ⟨-, z9, c9, hy9⟩ := zh_arr hh r0 (show RTg[12]? = some (1, 2, 120, [(0, (-128), 127)]) from rfl)
  have hy : ∀ i, i < 120 → zt_ok ro (z i) (0, (-128), 127) := zs_arr (hc.symm.trans c9) hy9
  obtain ⟨u1, u2, u3⟩ := id hu
  have fr0 : ∀ p9 : Nat, p9 ∉ [tx, tm] → s.heap[p9]? = s.heap[p9]? := fun _ _ => rfl
  refine lv_aload_n hx hb (eX8_scanFull (0, .aload_n 0, 1) (List.mem_of_getElem? (i := 0) rfl)) rfl (lv_at hl 0 rfl) ?_
  refine lv_aload_n hx hb (eX8_scanFull (1, .aload_n 1, 1) (List.mem_of_getElem? (i := 1) rfl)) rfl (lv_at hl 1 rfl) ?_
  refine tz_rowV (As := [.ref tx]) (st := []) (b := tm) (C := RX8) (Ts := gT) hx hb hml hown h2 (fun _ h => h) (hX8_start l D cA ro sz H0 tm tx  T (sg) (f) htm htx ) ⟨rfl, rfl⟩ ⟨by decide, by decide⟩ ⟨by decide, by decide⟩ (tb_4 238 rfl rfl) (tb_1 9 rfl rfl) (tb_4 235 rfl rfl) (tb_4 236 rfl rfl) (tb_4 237 rfl rfl) (show yX8_start.cls ≠ "java/lang/invoke/MethodHandle" ∧ yX8_start.cls ≠ "java/lang/invoke/VarHandle" ∧ (parseMethodDescriptor yX8_start.desc).map (fun d => d.parameters.length) = some 1 by decide +kernel) zs_blind (zs_ob hh htm (show RTg[7]? = some (0, 7, 0, fsX8) from rfl) (zCX8 hKn.1)) (fun U hU hW => ⟨rfl, by rw [hU]; exact hh.l0, zKb s U hW.alike hKn, by rw [hU]; exact ⟨hJ, jd0⟩⟩) hh.2.2.1 hl.1 (Nat.le_of_ble_eq_true rfl) (eX8_scanFull (2, .invokevirtual 64, 3) (List.mem_of_getElem? (i := 2) rfl)) (fun r1 s1 t1 lo1 g1 f1 l1 => ?_)
  obtain ⟨q1, z1, c1, j1, jd1, fx1⟩ := f1
  cases q1
  rw [g1] at c1 fx1
  have fr1 : ∀ p9 : Nat, p9 ∉ [tx, tm] → t1.heap[p9]? = s.heap[p9]? := fun p9 h9 => (fx1 p9 (fun q => h9 (by rcases List.mem_cons.mp q with q | q; (rw [q]; exact List.mem_cons_self); (rw [List.mem_singleton.mp q]; exact (List.mem_cons_of_mem _ List.mem_cons_self))))).trans (fr0 p9 h9)
  have hh1 : zh_ok D cA RTg ro sz H0 t1.heap lo1 := ⟨z1.1, z1.2.1, l1, z1.2.2.2⟩
  have kp1 := kp0.trans (c1.mono (ms' := tmM) (by decide))
  generalize hx1 : tsF T (f, sg) = x1 at j1 jd1
  have uu1 := j1.2.2
  unfold uOK at uu1
  refine W.eq (g2 := F0 m 5 ls []) rfl ?_
  have jn44 : ∀ (fj : fN) (gj : uS)  (ls : Array Slot) (H : Heap) (lo0 : List Loc), zh_ok D cA RTg ro sz H0 H lo0 → zc_kept D RTg ro tmM s.heap H → jU D cA ro H tx T gj → jF D H tm 7 14 fj → (∀ p9 : Nat, p9 ∉ [tx, tm] → H[p9]? = s.heap[p9]?) → ozF T (fj, gj) = tfF T (f, sg) → lv_has ls 2 [(0, .ref tm), (1, .ref tx)] → W p l e (headSpec (gW yX8_scanFull cX8_scanFull 2 none) { frames := 3, cells := 0, slots := 0, locals := 67 }).room s m ([.ref tm, .ref tx] : List Value).toArray below meth c H lo0 0 0 (MQ below (du_V D cA ro sz H0 tmM tx T tm 7 14 (tfF T (f, sg))) ([.ref tm, .ref tx] : List Value).toArray s 0 0 (zy_fr sz)) (F0 m 44 ls []) := by
    intro fj gj  ls H lo0 hh0 kpl jl jdl frl  htot hl
    have hul := jl.2.2
    unfold uOK at hul
    refine lv_aload_n hx hb (eX8_scanFull (44, .aload_n 1, 1) (List.mem_of_getElem? (i := 23) rfl)) rfl (lv_at hl 1 rfl) ?_
    refine ff_bipush hx hb (eX8_scanFull (45, .bipush 90, 2) (List.mem_of_getElem? (i := 24) rfl)) (by decide) (by decide) (fun v2 e2 => ?_)
    refine tz_rowV (As := [.int v2]) (st := []) (b := tx) (C := RX0) (Ts := gT) hx hb hml hown h2 (fun _ h => h) (hX0_take l D cA ro sz H0 tx v2 90 T (gj) htx (by omega) (by decide)) ⟨rfl, rfl⟩ ⟨by decide, by decide⟩ ⟨by decide, by decide⟩ (tb_4 8 rfl rfl) (tb_1 5 rfl rfl) (tb_5 9 rfl rfl) (tb_4 6 rfl rfl) (tb_4 7 rfl rfl) (show yX0_take.cls ≠ "java/lang/invoke/MethodHandle" ∧ yX0_take.cls ≠ "java/lang/invoke/VarHandle" ∧ (parseMethodDescriptor yX0_take.desc).map (fun d => d.parameters.length) = some 1 by decide +kernel) zs_blind (zs_ob hh0 htx (show RTg[0]? = some (0, 0, 0, fsX0) from rfl) (zCX0 hKn.1)) (fun U hU hW => ⟨rfl, by rw [hU]; exact hh0.l0, zKb s U hW.alike hKn, by rw [hU]; exact jl⟩) hh0.2.2.1 hl.1 (Nat.le_of_ble_eq_true rfl) (eX8_scanFull (47, .invokevirtual 68, 3) (List.mem_of_getElem? (i := 25) rfl)) (fun r3 s3 t3 lo3 g3 f3 l3 => ?_)
    obtain ⟨v3, q3, e3, z3, c3, j3, fx3⟩ := f3
    cases q3
    rw [g3] at c3 fx3
    have fr3 : ∀ p9 : Nat, p9 ∉ [tx, tm] → t3.heap[p9]? = s.heap[p9]? := fun p9 h9 => (fx3 p9 (fun q => h9 (by rw [List.mem_singleton.mp q]; exact List.mem_cons_self))).trans (frl p9 h9)
    have hh3 : zh_ok D cA RTg ro sz H0 t3.heap lo3 := ⟨z3.1, z3.2.1, l3, z3.2.2.2⟩
    have kp3 := kpl.trans (c3.mono (ms' := tmM) (by decide))
    have kf3 := tkF_01 T 90 gj
    generalize hx3 : tkF T 90 gj = x3 at j3 e3 kf3
    have uu3 := j3.2.2
    unfold uOK at uu3
    have jd3 := jdl.kept htm rfl (by decide) c3 (by decide)
    refine W.eq (g2 := F0 m 50 ls [.int v3]) rfl ?_
    refine ff_if_ne hx hb (eX8_scanFull (50, .ifCond .ne 12, 3) (List.mem_of_getElem? (i := 26) rfl)) (tgt := 62) rfl (fun c4 => ?_) (fun c4 => ?_)
    · skip
      have d3 : x3.1 = 1 := by omega
      refine lv_aload_n hx hb (eX8_scanFull (62, .aload_n 0, 1) (List.mem_of_getElem? (i := 31) rfl)) rfl (lv_at hl 0 rfl) ?_
      refine ff_iconst hx hb (eX8_scanFull (63, .iconst 1, 1) (List.mem_of_getElem? (i := 32) rfl)) (by decide) (by decide) (fun v5 e5 => ?_)
      refine tz_put (r := 7) (k := 8) (t := (0, (-2147483648), 2147483647)) hx hb hD hh3 htm rfl rfl ((hcl7 36 8 (0, (-2147483648), 2147483647) (by decide) rfl).2 (by decide)) (tz_i (zn_i32 _).1 (zn_i32 _).2) (eX8_scanFull (64, .putfield 36, 3) (List.mem_of_getElem? (i := 33) rfl)) (fun H6 lo6 hh6 hf6 hk6 _ hq6 => ?_)
      have kp6 := kp3.trans (hk6.mono (ms' := tmM) (fun x hx => by cases List.mem_singleton.mp hx; decide))
      have jm6 := (j3).kept htx hk6 (by decide)
      have fr6 : ∀ p9 : Nat, p9 ∉ [tx, tm] → H6[p9]? = s.heap[p9]? := fun p9 h9 => (hq6 p9 (fun e9 => h9 (by rw [e9]; exact (List.mem_cons_of_mem _ List.mem_cons_self)))).trans (fr3 p9 h9)
      have jd6 := jF.put htm rfl (by decide) hk6 hf6 (show v5.toInt = 1 by omega) jd3
      refine lv_goto hx hb (eX8_scanFull (67, .goto 44, 3) (List.mem_of_getElem? (i := 34) rfl)) (tgt := 111) rfl ?_
      have hfin : tfF T (f, sg) = ((upF fj 8 (1)), x3.2) := by rw [← htot]; first | (simp only [ozF, hx3, if_pos d3, up_eq]; done) | (simp only [ozF, hx3, if_pos d3, up_eq] <;> rfl) | rfl
      exact W.vret hx hb hr (fun t ht hW => ⟨rfl, by rw [ht]; exact hh6.l0, by rw [ht]; exact kp6, by rw [ht, hfin]; exact jm6, by rw [ht, hfin]; exact jd6, by rw [ht]; exact fr6⟩) hh6.2.2.1 (eX8_scanFull (111, .return_, 1) (List.mem_of_getElem? (i := 55) rfl))
    · skip
      have d3 : ¬ x3.1 = 1 := by omega
      refine lv_aload_n hx hb (eX8_scanFull (53, .aload_n 1, 1) (List.mem_of_getElem? (i := 27) rfl)) rfl (lv_at hl 1 rfl) ?_
      refine ff_bipush hx hb (eX8_scanFull (54, .bipush 122, 2) (List.mem_of_getElem? (i := 28) rfl)) (by decide) (by decide) (fun v7 e7 => ?_)
      refine tz_rowV (As := [.int v7]) (st := []) (b := tx) (C := RX0) (Ts := gT) hx hb hml hown h2 (fun _ h => h) (hX0_take l D cA ro sz H0 tx v7 122 T (x3.2) htx (by omega) (by decide)) ⟨rfl, rfl⟩ ⟨by decide, by decide⟩ ⟨by decide, by decide⟩ (tb_4 8 rfl rfl) (tb_1 5 rfl rfl) (tb_5 9 rfl rfl) (tb_4 6 rfl rfl) (tb_4 7 rfl rfl) (show yX0_take.cls ≠ "java/lang/invoke/MethodHandle" ∧ yX0_take.cls ≠ "java/lang/invoke/VarHandle" ∧ (parseMethodDescriptor yX0_take.desc).map (fun d => d.parameters.length) = some 1 by decide +kernel) zs_blind (zs_ob hh3 htx (show RTg[0]? = some (0, 0, 0, fsX0) from rfl) (zCX0 hKn.1)) (fun U hU hW => ⟨rfl, by rw [hU]; exact hh3.l0, zKb s U hW.alike hKn, by rw [hU]; exact j3⟩) hh3.2.2.1 hl.1 (Nat.le_of_ble_eq_true rfl) (eX8_scanFull (56, .invokevirtual 68, 3) (List.mem_of_getElem? (i := 29) rfl)) (fun r8 s8 t8 lo8 g8 f8 l8 => ?_)
      obtain ⟨v8, q8, e8, z8, c8, j8, fx8⟩ := f8
      cases q8
      rw [g8] at c8 fx8
      have fr8 : ∀ p9 : Nat, p9 ∉ [tx, tm] → t8.heap[p9]? = s.heap[p9]? := fun p9 h9 => (fx8 p9 (fun q => h9 (by rw [List.mem_singleton.mp q]; exact List.mem_cons_self))).trans (fr3 p9 h9)
      have hh8 : zh_ok D cA RTg ro sz H0 t8.heap lo8 := ⟨z8.1, z8.2.1, l8, z8.2.2.2⟩
      have kp8 := kp3.trans (c8.mono (ms' := tmM) (by decide))
      have kf8 := tkF_01 T 122 x3.2
      generalize hx8 : tkF T 122 x3.2 = x8 at j8 e8 kf8
      have uu8 := j8.2.2
      unfold uOK at uu8
      have jd8 := jd3.kept htm rfl (by decide) c8 (by decide)
      refine W.eq (g2 := F0 m 59 ls [.int v8]) rfl ?_
      refine ff_if_eq hx hb (eX8_scanFull (59, .ifCond .eq 11, 3) (List.mem_of_getElem? (i := 30) rfl)) (tgt := 70) rfl (fun c9 => ?_) (fun c9 => ?_)
      · skip
        have d8 : ¬ x8.1 = 1 := by omega
        refine lv_aload_n hx hb (eX8_scanFull (70, .aload_n 1, 1) (List.mem_of_getElem? (i := 35) rfl)) rfl (lv_at hl 1 rfl) ?_
        refine ff_bipush hx hb (eX8_scanFull (71, .bipush 43, 2) (List.mem_of_getElem? (i := 36) rfl)) (by decide) (by decide) (fun v10 e10 => ?_)
        refine tz_rowV (As := [.int v10]) (st := []) (b := tx) (C := RX0) (Ts := gT) hx hb hml hown h2 (fun _ h => h) (hX0_isAt l D cA ro sz H0 tx v10 43 T (x8.2) htx (by omega)) ⟨rfl, rfl⟩ ⟨by decide, by decide⟩ ⟨by decide, by decide⟩ (tb_4 32 rfl rfl) (tb_1 5 rfl rfl) (tb_5 14 rfl rfl) (tb_4 30 rfl rfl) (tb_4 31 rfl rfl) (show yX0_isAt.cls ≠ "java/lang/invoke/MethodHandle" ∧ yX0_isAt.cls ≠ "java/lang/invoke/VarHandle" ∧ (parseMethodDescriptor yX0_isAt.desc).map (fun d => d.parameters.length) = some 1 by decide +kernel) zs_blind (zs_ob hh8 htx (show RTg[0]? = some (0, 0, 0, fsX0) from rfl) (zCX0 hKn.1)) (fun U hU hW => ⟨rfl, by rw [hU]; exact hh8.l0, zKb s U hW.alike hKn, by rw [hU]; exact j8⟩) hh8.2.2.1 hl.1 (Nat.le_of_ble_eq_true rfl) (eX8_scanFull (73, .invokevirtual 85, 3) (List.mem_of_getElem? (i := 37) rfl)) (fun r11 s11 t11 lo11 g11 f11 l11 => ?_)
        obtain ⟨z11, v11, q11, e11⟩ := f11
        cases q11
        rw [z11, g11]
        have hh11 : zh_ok D cA RTg ro sz H0 t8.heap lo11 := ⟨hh8.1, hh8.2.1, l11, hh8.2.2.2⟩
        refine W.eq (g2 := F0 m 76 ls [.int v11]) rfl ?_
        refine ff_if_ne hx hb (eX8_scanFull (76, .ifCond .ne 12, 3) (List.mem_of_getElem? (i := 38) rfl)) (tgt := 88) rfl (fun c12 => ?_) (fun c12 => ?_)
        · skip
          have d13 : lk T x8.2 = 43 ∨ lk T x8.2 = 45 := by omega
          refine lv_aload_n hx hb (eX8_scanFull (88, .aload_n 0, 1) (List.mem_of_getElem? (i := 43) rfl)) rfl (lv_at hl 0 rfl) ?_
          refine lv_aload_n hx hb (eX8_scanFull (89, .aload_n 1, 1) (List.mem_of_getElem? (i := 44) rfl)) rfl (lv_at hl 1 rfl) ?_
          refine tz_rowV (As := [.ref tx]) (st := []) (b := tm) (C := RX8) (Ts := gT) hx hb hml hown h2 (fun _ h => h) (hX8_scanOffset l D cA ro sz H0 tm tx  T (x8.2) (fj) htm htx (by omega)) ⟨rfl, rfl⟩ ⟨by decide, by decide⟩ ⟨by decide, by decide⟩ (tb_5 18 rfl rfl) (tb_1 9 rfl rfl) (tb_5 15 rfl rfl) (tb_5 16 rfl rfl) (tb_5 17 rfl rfl) (show yX8_scanOffset.cls ≠ "java/lang/invoke/MethodHandle" ∧ yX8_scanOffset.cls ≠ "java/lang/invoke/VarHandle" ∧ (parseMethodDescriptor yX8_scanOffset.desc).map (fun d => d.parameters.length) = some 1 by decide +kernel) zs_blind (zs_ob hh11 htm (show RTg[7]? = some (0, 7, 0, fsX8) from rfl) (zCX8 hKn.1)) (fun U hU hW => ⟨rfl, by rw [hU]; exact hh11.l0, zKb s U hW.alike hKn, by rw [hU]; exact ⟨j8, jd8⟩⟩) hh11.2.2.1 hl.1 (Nat.le_of_ble_eq_true rfl) (eX8_scanFull (90, .invokevirtual 88, 3) (List.mem_of_getElem? (i := 45) rfl)) (fun r14 s14 t14 lo14 g14 f14 l14 => ?_)
          obtain ⟨q14, z14, c14, j14, jd14, fx14⟩ := f14
          cases q14
          rw [g14] at c14 fx14
          have fr14 : ∀ p9 : Nat, p9 ∉ [tx, tm] → t14.heap[p9]? = s.heap[p9]? := fun p9 h9 => (fx14 p9 (fun q => h9 (by rcases List.mem_cons.mp q with q | q; (rw [q]; exact List.mem_cons_self); (rw [List.mem_singleton.mp q]; exact (List.mem_cons_of_mem _ List.mem_cons_self))))).trans (fr8 p9 h9)
          have hh14 : zh_ok D cA RTg ro sz H0 t14.heap lo14 := ⟨z14.1, z14.2.1, l14, z14.2.2.2⟩
          have kp14 := kp8.trans (c14.mono (ms' := tmM) (by decide))
          generalize hx14 : ohF T (fj, x8.2) = x14 at j14 jd14
          have uu14 := j14.2.2
          unfold uOK at uu14
          refine W.eq (g2 := F0 m 93 ls []) rfl ?_
          refine lv_aload_n hx hb (eX8_scanFull (93, .aload_n 1, 1) (List.mem_of_getElem? (i := 46) rfl)) rfl (lv_at hl 1 rfl) ?_
          refine ff_bipush hx hb (eX8_scanFull (94, .bipush 58, 2) (List.mem_of_getElem? (i := 47) rfl)) (by decide) (by decide) (fun v15 e15 => ?_)
          refine tz_rowV (As := [.int v15]) (st := []) (b := tx) (C := RX0) (Ts := gT) hx hb hml hown h2 (fun _ h => h) (hX0_need l D cA ro sz H0 tx v15 58 T (x14.2) htx (by omega) (by decide)) ⟨rfl, rfl⟩ ⟨by decide, by decide⟩ ⟨by decide, by decide⟩ (tb_4 44 rfl rfl) (tb_1 5 rfl rfl) (tb_5 0 rfl rfl) (tb_4 42 rfl rfl) (tb_4 43 rfl rfl) (show yX0_need.cls ≠ "java/lang/invoke/MethodHandle" ∧ yX0_need.cls ≠ "java/lang/invoke/VarHandle" ∧ (parseMethodDescriptor yX0_need.desc).map (fun d => d.parameters.length) = some 1 by decide +kernel) zs_blind (zs_ob hh14 htx (show RTg[0]? = some (0, 0, 0, fsX0) from rfl) (zCX0 hKn.1)) (fun U hU hW => ⟨rfl, by rw [hU]; exact hh14.l0, zKb s U hW.alike hKn, by rw [hU]; exact j14⟩) hh14.2.2.1 hl.1 (Nat.le_of_ble_eq_true rfl) (eX8_scanFull (96, .invokevirtual 94, 3) (List.mem_of_getElem? (i := 48) rfl)) (fun r16 s16 t16 lo16 g16 f16 l16 => ?_)
          obtain ⟨q16, z16, c16, j16, fx16⟩ := f16
          cases q16
          rw [g16] at c16 fx16
          have fr16 : ∀ p9 : Nat, p9 ∉ [tx, tm] → t16.heap[p9]? = s.heap[p9]? := fun p9 h9 => (fx16 p9 (fun q => h9 (by rw [List.mem_singleton.mp q]; exact List.mem_cons_self))).trans (fr14 p9 h9)
          have hh16 : zh_ok D cA RTg ro sz H0 t16.heap lo16 := ⟨z16.1, z16.2.1, l16, z16.2.2.2⟩
          have kp16 := kp14.trans (c16.mono (ms' := tmM) (by decide))
          generalize hx16 : ndF T 58 x14.2 = x16 at j16
          have uu16 := j16.2.2
          unfold uOK at uu16
          have jd16 := jd14.kept htm rfl (by decide) c16 (by decide)
          refine W.eq (g2 := F0 m 99 ls []) rfl ?_
          refine lv_aload_n hx hb (eX8_scanFull (99, .aload_n 0, 1) (List.mem_of_getElem? (i := 49) rfl)) rfl (lv_at hl 0 rfl) ?_
          refine lv_aload_n hx hb (eX8_scanFull (100, .aload_n 1, 1) (List.mem_of_getElem? (i := 50) rfl)) rfl (lv_at hl 1 rfl) ?_
          refine tz_rowV (As := [.ref tx]) (st := []) (b := tm) (C := RX8) (Ts := gT) hx hb hml hown h2 (fun _ h => h) (hX8_scanOffsetMinutes l D cA ro sz H0 tm tx  T (x16) (x14.1) htm htx ) ⟨rfl, rfl⟩ ⟨by decide, by decide⟩ ⟨by decide, by decide⟩ (tb_5 23 rfl rfl) (tb_1 9 rfl rfl) (tb_5 20 rfl rfl) (tb_5 21 rfl rfl) (tb_5 22 rfl rfl) (show yX8_scanOffsetMinutes.cls ≠ "java/lang/invoke/MethodHandle" ∧ yX8_scanOffsetMinutes.cls ≠ "java/lang/invoke/VarHandle" ∧ (parseMethodDescriptor yX8_scanOffsetMinutes.desc).map (fun d => d.parameters.length) = some 1 by decide +kernel) zs_blind (zs_ob hh16 htm (show RTg[7]? = some (0, 7, 0, fsX8) from rfl) (zCX8 hKn.1)) (fun U hU hW => ⟨rfl, by rw [hU]; exact hh16.l0, zKb s U hW.alike hKn, by rw [hU]; exact ⟨j16, jd16⟩⟩) hh16.2.2.1 hl.1 (Nat.le_of_ble_eq_true rfl) (eX8_scanFull (101, .invokevirtual 91, 3) (List.mem_of_getElem? (i := 51) rfl)) (fun r17 s17 t17 lo17 g17 f17 l17 => ?_)
          obtain ⟨q17, z17, c17, j17, jd17, fx17⟩ := f17
          cases q17
          rw [g17] at c17 fx17
          have fr17 : ∀ p9 : Nat, p9 ∉ [tx, tm] → t17.heap[p9]? = s.heap[p9]? := fun p9 h9 => (fx17 p9 (fun q => h9 (by rcases List.mem_cons.mp q with q | q; (rw [q]; exact List.mem_cons_self); (rw [List.mem_singleton.mp q]; exact (List.mem_cons_of_mem _ List.mem_cons_self))))).trans (fr16 p9 h9)
          have hh17 : zh_ok D cA RTg ro sz H0 t17.heap lo17 := ⟨z17.1, z17.2.1, l17, z17.2.2.2⟩
          have kp17 := kp16.trans (c17.mono (ms' := tmM) (by decide))
          generalize hx17 : omF T (x14.1, x16) = x17 at j17 jd17
          have uu17 := j17.2.2
          unfold uOK at uu17
          refine W.eq (g2 := F0 m 104 ls []) rfl ?_
          refine lv_goto hx hb (eX8_scanFull (104, .goto 7, 3) (List.mem_of_getElem? (i := 52) rfl)) (tgt := 111) rfl ?_
          have hfin : tfF T (f, sg) = (x17.1, x17.2) := by rw [← htot]; first | (simp only [ozF, hx3, hx8, hx14, hx16, hx17, if_neg d3, if_neg d8, if_pos d13, up_eq]; done) | (simp only [ozF, hx3, hx8, hx14, hx16, hx17, if_neg d3, if_neg d8, if_pos d13, up_eq] <;> rfl) | rfl
          exact W.vret hx hb hr (fun t ht hW => ⟨rfl, by rw [ht]; exact hh17.l0, by rw [ht]; exact kp17, by rw [ht, hfin]; exact j17, by rw [ht, hfin]; exact jd17, by rw [ht]; exact fr17⟩) hh17.2.2.1 (eX8_scanFull (111, .return_, 1) (List.mem_of_getElem? (i := 55) rfl))
        · skip
          refine lv_aload_n hx hb (eX8_scanFull (79, .aload_n 1, 1) (List.mem_of_getElem? (i := 39) rfl)) rfl (lv_at hl 1 rfl) ?_
          refine ff_bipush hx hb (eX8_scanFull (80, .bipush 45, 2) (List.mem_of_getElem? (i := 40) rfl)) (by decide) (by decide) (fun v18 e18 => ?_)
          refine tz_rowV (As := [.int v18]) (st := []) (b := tx) (C := RX0) (Ts := gT) hx hb hml hown h2 (fun _ h => h) (hX0_isAt l D cA ro sz H0 tx v18 45 T (x8.2) htx (by omega)) ⟨rfl, rfl⟩ ⟨by decide, by decide⟩ ⟨by decide, by decide⟩ (tb_4 32 rfl rfl) (tb_1 5 rfl rfl) (tb_5 14 rfl rfl) (tb_4 30 rfl rfl) (tb_4 31 rfl rfl) (show yX0_isAt.cls ≠ "java/lang/invoke/MethodHandle" ∧ yX0_isAt.cls ≠ "java/lang/invoke/VarHandle" ∧ (parseMethodDescriptor yX0_isAt.desc).map (fun d => d.parameters.length) = some 1 by decide +kernel) zs_blind (zs_ob hh11 htx (show RTg[0]? = some (0, 0, 0, fsX0) from rfl) (zCX0 hKn.1)) (fun U hU hW => ⟨rfl, by rw [hU]; exact hh11.l0, zKb s U hW.alike hKn, by rw [hU]; exact j8⟩) hh11.2.2.1 hl.1 (Nat.le_of_ble_eq_true rfl) (eX8_scanFull (82, .invokevirtual 85, 3) (List.mem_of_getElem? (i := 41) rfl)) (fun r19 s19 t19 lo19 g19 f19 l19 => ?_)
          obtain ⟨z19, v19, q19, e19⟩ := f19
          cases q19
          rw [z19, g19]
          have hh19 : zh_ok D cA RTg ro sz H0 t8.heap lo19 := ⟨hh11.1, hh11.2.1, l19, hh11.2.2.2⟩
          refine W.eq (g2 := F0 m 85 ls [.int v19]) rfl ?_
          refine ff_if_eq hx hb (eX8_scanFull (85, .ifCond .eq 22, 3) (List.mem_of_getElem? (i := 42) rfl)) (tgt := 107) rfl (fun c20 => ?_) (fun c20 => ?_)
          · skip
            have d21 : ¬ (lk T x8.2 = 43 ∨ lk T x8.2 = 45) := by omega
            refine lv_aload_n hx hb (eX8_scanFull (107, .aload_n 1, 1) (List.mem_of_getElem? (i := 53) rfl)) rfl (lv_at hl 1 rfl) ?_
            refine tz_rowV (As := []) (st := []) (b := tx) (C := RX0) (Ts := gT) hx hb hml hown h2 (fun _ h => h) (hX0_fail l D cA ro sz H0 tx T (x8.2) htx) ⟨rfl, rfl⟩ ⟨by decide, by decide⟩ ⟨by decide, by decide⟩ (tb_4 40 rfl rfl) (tb_1 5 rfl rfl) (tb_5 24 rfl rfl) (tb_4 38 rfl rfl) (tb_4 39 rfl rfl) (show yX0_fail.cls ≠ "java/lang/invoke/MethodHandle" ∧ yX0_fail.cls ≠ "java/lang/invoke/VarHandle" ∧ (parseMethodDescriptor yX0_fail.desc).map (fun d => d.parameters.length) = some 0 by decide +kernel) zs_blind (zs_ob hh19 htx (show RTg[0]? = some (0, 0, 0, fsX0) from rfl) (zCX0 hKn.1)) (fun U hU hW => ⟨rfl, by rw [hU]; exact hh19.l0, zKb s U hW.alike hKn, by rw [hU]; exact j8⟩) hh19.2.2.1 hl.1 (Nat.le_of_ble_eq_true rfl) (eX8_scanFull (108, .invokevirtual 98, 3) (List.mem_of_getElem? (i := 54) rfl)) (fun r22 s22 t22 lo22 g22 f22 l22 => ?_)
            obtain ⟨q22, z22, c22, j22, fx22⟩ := f22
            cases q22
            rw [g22] at c22 fx22
            have fr22 : ∀ p9 : Nat, p9 ∉ [tx, tm] → t22.heap[p9]? = s.heap[p9]? := fun p9 h9 => (fx22 p9 (fun q => h9 (by rw [List.mem_singleton.mp q]; exact List.mem_cons_self))).trans (fr8 p9 h9)
            have hh22 : zh_ok D cA RTg ro sz H0 t22.heap lo22 := ⟨z22.1, z22.2.1, l22, z22.2.2.2⟩
            have kp22 := kp8.trans (c22.mono (ms' := tmM) (by decide))
            generalize hx22 : flF x8.2 = x22 at j22
            have uu22 := j22.2.2
            unfold uOK at uu22
            have jd22 := jd8.kept htm rfl (by decide) c22 (by decide)
            refine W.eq (g2 := F0 m 111 ls []) rfl ?_
            have hfin : tfF T (f, sg) = (fj, x22) := by rw [← htot]; first | (simp only [ozF, hx3, hx8, hx22, if_neg d3, if_neg d8, if_neg d21, up_eq]; done) | (simp only [ozF, hx3, hx8, hx22, if_neg d3, if_neg d8, if_neg d21, up_eq] <;> rfl) | rfl
            exact W.vret hx hb hr (fun t ht hW => ⟨rfl, by rw [ht]; exact hh22.l0, by rw [ht]; exact kp22, by rw [ht, hfin]; exact j22, by rw [ht, hfin]; exact jd22, by rw [ht]; exact fr22⟩) hh22.2.2.1 (eX8_scanFull (111, .return_, 1) (List.mem_of_getElem? (i := 55) rfl))
          · skip
            have d23 : lk T x8.2 = 43 ∨ lk T x8.2 = 45 := by omega
            refine lv_aload_n hx hb (eX8_scanFull (88, .aload_n 0, 1) (List.mem_of_getElem? (i := 43) rfl)) rfl (lv_at hl 0 rfl) ?_
            refine lv_aload_n hx hb (eX8_scanFull (89, .aload_n 1, 1) (List.mem_of_getElem? (i := 44) rfl)) rfl (lv_at hl 1 rfl) ?_
            refine tz_rowV (As := [.ref tx]) (st := []) (b := tm) (C := RX8) (Ts := gT) hx hb hml hown h2 (fun _ h => h) (hX8_scanOffset l D cA ro sz H0 tm tx  T (x8.2) (fj) htm htx (by omega)) ⟨rfl, rfl⟩ ⟨by decide, by decide⟩ ⟨by decide, by decide⟩ (tb_5 18 rfl rfl) (tb_1 9 rfl rfl) (tb_5 15 rfl rfl) (tb_5 16 rfl rfl) (tb_5 17 rfl rfl) (show yX8_scanOffset.cls ≠ "java/lang/invoke/MethodHandle" ∧ yX8_scanOffset.cls ≠ "java/lang/invoke/VarHandle" ∧ (parseMethodDescriptor yX8_scanOffset.desc).map (fun d => d.parameters.length) = some 1 by decide +kernel) zs_blind (zs_ob hh19 htm (show RTg[7]? = some (0, 7, 0, fsX8) from rfl) (zCX8 hKn.1)) (fun U hU hW => ⟨rfl, by rw [hU]; exact hh19.l0, zKb s U hW.alike hKn, by rw [hU]; exact ⟨j8, jd8⟩⟩) hh19.2.2.1 hl.1 (Nat.le_of_ble_eq_true rfl) (eX8_scanFull (90, .invokevirtual 88, 3) (List.mem_of_getElem? (i := 45) rfl)) (fun r24 s24 t24 lo24 g24 f24 l24 => ?_)
            obtain ⟨q24, z24, c24, j24, jd24, fx24⟩ := f24
            cases q24
            rw [g24] at c24 fx24
            have fr24 : ∀ p9 : Nat, p9 ∉ [tx, tm] → t24.heap[p9]? = s.heap[p9]? := fun p9 h9 => (fx24 p9 (fun q => h9 (by rcases List.mem_cons.mp q with q | q; (rw [q]; exact List.mem_cons_self); (rw [List.mem_singleton.mp q]; exact (List.mem_cons_of_mem _ List.mem_cons_self))))).trans (fr8 p9 h9)
            have hh24 : zh_ok D cA RTg ro sz H0 t24.heap lo24 := ⟨z24.1, z24.2.1, l24, z24.2.2.2⟩
            have kp24 := kp8.trans (c24.mono (ms' := tmM) (by decide))
            generalize hx24 : ohF T (fj, x8.2) = x24 at j24 jd24
            have uu24 := j24.2.2
            unfold uOK at uu24
            refine W.eq (g2 := F0 m 93 ls []) rfl ?_
            refine lv_aload_n hx hb (eX8_scanFull (93, .aload_n 1, 1) (List.mem_of_getElem? (i := 46) rfl)) rfl (lv_at hl 1 rfl) ?_
            refine ff_bipush hx hb (eX8_scanFull (94, .bipush 58, 2) (List.mem_of_getElem? (i := 47) rfl)) (by decide) (by decide) (fun v25 e25 => ?_)
            refine tz_rowV (As := [.int v25]) (st := []) (b := tx) (C := RX0) (Ts := gT) hx hb hml hown h2 (fun _ h => h) (hX0_need l D cA ro sz H0 tx v25 58 T (x24.2) htx (by omega) (by decide)) ⟨rfl, rfl⟩ ⟨by decide, by decide⟩ ⟨by decide, by decide⟩ (tb_4 44 rfl rfl) (tb_1 5 rfl rfl) (tb_5 0 rfl rfl) (tb_4 42 rfl rfl) (tb_4 43 rfl rfl) (show yX0_need.cls ≠ "java/lang/invoke/MethodHandle" ∧ yX0_need.cls ≠ "java/lang/invoke/VarHandle" ∧ (parseMethodDescriptor yX0_need.desc).map (fun d => d.parameters.length) = some 1 by decide +kernel) zs_blind (zs_ob hh24 htx (show RTg[0]? = some (0, 0, 0, fsX0) from rfl) (zCX0 hKn.1)) (fun U hU hW => ⟨rfl, by rw [hU]; exact hh24.l0, zKb s U hW.alike hKn, by rw [hU]; exact j24⟩) hh24.2.2.1 hl.1 (Nat.le_of_ble_eq_true rfl) (eX8_scanFull (96, .invokevirtual 94, 3) (List.mem_of_getElem? (i := 48) rfl)) (fun r26 s26 t26 lo26 g26 f26 l26 => ?_)
            obtain ⟨q26, z26, c26, j26, fx26⟩ := f26
            cases q26
            rw [g26] at c26 fx26
            have fr26 : ∀ p9 : Nat, p9 ∉ [tx, tm] → t26.heap[p9]? = s.heap[p9]? := fun p9 h9 => (fx26 p9 (fun q => h9 (by rw [List.mem_singleton.mp q]; exact List.mem_cons_self))).trans (fr24 p9 h9)
            have hh26 : zh_ok D cA RTg ro sz H0 t26.heap lo26 := ⟨z26.1, z26.2.1, l26, z26.2.2.2⟩
            have kp26 := kp24.trans (c26.mono (ms' := tmM) (by decide))
            generalize hx26 : ndF T 58 x24.2 = x26 at j26
            have uu26 := j26.2.2
            unfold uOK at uu26
            have jd26 := jd24.kept htm rfl (by decide) c26 (by decide)
            refine W.eq (g2 := F0 m 99 ls []) rfl ?_
            refine lv_aload_n hx hb (eX8_scanFull (99, .aload_n 0, 1) (List.mem_of_getElem? (i := 49) rfl)) rfl (lv_at hl 0 rfl) ?_
            refine lv_aload_n hx hb (eX8_scanFull (100, .aload_n 1, 1) (List.mem_of_getElem? (i := 50) rfl)) rfl (lv_at hl 1 rfl) ?_
            refine tz_rowV (As := [.ref tx]) (st := []) (b := tm) (C := RX8) (Ts := gT) hx hb hml hown h2 (fun _ h => h) (hX8_scanOffsetMinutes l D cA ro sz H0 tm tx  T (x26) (x24.1) htm htx ) ⟨rfl, rfl⟩ ⟨by decide, by decide⟩ ⟨by decide, by decide⟩ (tb_5 23 rfl rfl) (tb_1 9 rfl rfl) (tb_5 20 rfl rfl) (tb_5 21 rfl rfl) (tb_5 22 rfl rfl) (show yX8_scanOffsetMinutes.cls ≠ "java/lang/invoke/MethodHandle" ∧ yX8_scanOffsetMinutes.cls ≠ "java/lang/invoke/VarHandle" ∧ (parseMethodDescriptor yX8_scanOffsetMinutes.desc).map (fun d => d.parameters.length) = some 1 by decide +kernel) zs_blind (zs_ob hh26 htm (show RTg[7]? = some (0, 7, 0, fsX8) from rfl) (zCX8 hKn.1)) (fun U hU hW => ⟨rfl, by rw [hU]; exact hh26.l0, zKb s U hW.alike hKn, by rw [hU]; exact ⟨j26, jd26⟩⟩) hh26.2.2.1 hl.1 (Nat.le_of_ble_eq_true rfl) (eX8_scanFull (101, .invokevirtual 91, 3) (List.mem_of_getElem? (i := 51) rfl)) (fun r27 s27 t27 lo27 g27 f27 l27 => ?_)
            obtain ⟨q27, z27, c27, j27, jd27, fx27⟩ := f27
            cases q27
            rw [g27] at c27 fx27
            have fr27 : ∀ p9 : Nat, p9 ∉ [tx, tm] → t27.heap[p9]? = s.heap[p9]? := fun p9 h9 => (fx27 p9 (fun q => h9 (by rcases List.mem_cons.mp q with q | q; (rw [q]; exact List.mem_cons_self); (rw [List.mem_singleton.mp q]; exact (List.mem_cons_of_mem _ List.mem_cons_self))))).trans (fr26 p9 h9)
            have hh27 : zh_ok D cA RTg ro sz H0 t27.heap lo27 := ⟨z27.1, z27.2.1, l27, z27.2.2.2⟩
            have kp27 := kp26.trans (c27.mono (ms' := tmM) (by decide))
            generalize hx27 : omF T (x24.1, x26) = x27 at j27 jd27
            have uu27 := j27.2.2
            unfold uOK at uu27
            refine W.eq (g2 := F0 m 104 ls []) rfl ?_
            refine lv_goto hx hb (eX8_scanFull (104, .goto 7, 3) (List.mem_of_getElem? (i := 52) rfl)) (tgt := 111) rfl ?_
            have hfin : tfF T (f, sg) = (x27.1, x27.2) := by rw [← htot]; first | (simp only [ozF, hx3, hx8, hx24, hx26, hx27, if_neg d3, if_neg d8, if_pos d23, up_eq]; done) | (simp only [ozF, hx3, hx8, hx24, hx26, hx27, if_neg d3, if_neg d8, if_pos d23, up_eq] <;> rfl) | rfl
            exact W.vret hx hb hr (fun t ht hW => ⟨rfl, by rw [ht]; exact hh27.l0, by rw [ht]; exact kp27, by rw [ht, hfin]; exact j27, by rw [ht, hfin]; exact jd27, by rw [ht]; exact fr27⟩) hh27.2.2.1 (eX8_scanFull (111, .return_, 1) (List.mem_of_getElem? (i := 55) rfl))
      · skip
        have d8 : x8.1 = 1 := by omega
        refine lv_aload_n hx hb (eX8_scanFull (62, .aload_n 0, 1) (List.mem_of_getElem? (i := 31) rfl)) rfl (lv_at hl 0 rfl) ?_
        refine ff_iconst hx hb (eX8_scanFull (63, .iconst 1, 1) (List.mem_of_getElem? (i := 32) rfl)) (by decide) (by decide) (fun v28 e28 => ?_)
        refine tz_put (r := 7) (k := 8) (t := (0, (-2147483648), 2147483647)) hx hb hD hh8 htm rfl rfl ((hcl7 36 8 (0, (-2147483648), 2147483647) (by decide) rfl).2 (by decide)) (tz_i (zn_i32 _).1 (zn_i32 _).2) (eX8_scanFull (64, .putfield 36, 3) (List.mem_of_getElem? (i := 33) rfl)) (fun H29 lo29 hh29 hf29 hk29 _ hq29 => ?_)
        have kp29 := kp8.trans (hk29.mono (ms' := tmM) (fun x hx => by cases List.mem_singleton.mp hx; decide))
        have jm29 := (j8).kept htx hk29 (by decide)
        have fr29 : ∀ p9 : Nat, p9 ∉ [tx, tm] → H29[p9]? = s.heap[p9]? := fun p9 h9 => (hq29 p9 (fun e9 => h9 (by rw [e9]; exact (List.mem_cons_of_mem _ List.mem_cons_self)))).trans (fr8 p9 h9)
        have jd29 := jF.put htm rfl (by decide) hk29 hf29 (show v28.toInt = 1 by omega) jd8
        refine lv_goto hx hb (eX8_scanFull (67, .goto 44, 3) (List.mem_of_getElem? (i := 34) rfl)) (tgt := 111) rfl ?_
        have hfin : tfF T (f, sg) = ((upF fj 8 (1)), x8.2) := by rw [← htot]; first | (simp only [ozF, hx3, hx8, if_neg d3, if_pos d8, up_eq]; done) | (simp only [ozF, hx3, hx8, if_neg d3, if_pos d8, up_eq] <;> rfl) | rfl
        exact W.vret hx hb hr (fun t ht hW => ⟨rfl, by rw [ht]; exact hh29.l0, by rw [ht]; exact kp29, by rw [ht, hfin]; exact jm29, by rw [ht, hfin]; exact jd29, by rw [ht]; exact fr29⟩) hh29.2.2.1 (eX8_scanFull (111, .return_, 1) (List.mem_of_getElem? (i := 55) rfl))
  refine lv_aload_n hx hb (eX8_scanFull (5, .aload_n 1, 1) (List.mem_of_getElem? (i := 3) rfl)) rfl (lv_at hl 1 rfl) ?_
  refine ff_bipush hx hb (eX8_scanFull (6, .bipush 58, 2) (List.mem_of_getElem? (i := 4) rfl)) (by decide) (by decide) (fun v30 e30 => ?_)
  refine tz_rowV (As := [.int v30]) (st := []) (b := tx) (C := RX0) (Ts := gT) hx hb hml hown h2 (fun _ h => h) (hX0_need l D cA ro sz H0 tx v30 58 T (x1.2) htx (by omega) (by decide)) ⟨rfl, rfl⟩ ⟨by decide, by decide⟩ ⟨by decide, by decide⟩ (tb_4 44 rfl rfl) (tb_1 5 rfl rfl) (tb_5 0 rfl rfl) (tb_4 42 rfl rfl) (tb_4 43 rfl rfl) (show yX0_need.cls ≠ "java/lang/invoke/MethodHandle" ∧ yX0_need.cls ≠ "java/lang/invoke/VarHandle" ∧ (parseMethodDescriptor yX0_need.desc).map (fun d => d.parameters.length) = some 1 by decide +kernel) zs_blind (zs_ob hh1 htx (show RTg[0]? = some (0, 0, 0, fsX0) from rfl) (zCX0 hKn.1)) (fun U hU hW => ⟨rfl, by rw [hU]; exact hh1.l0, zKb s U hW.alike hKn, by rw [hU]; exact j1⟩) hh1.2.2.1 hl.1 (Nat.le_of_ble_eq_true rfl) (eX8_scanFull (8, .invokevirtual 94, 3) (List.mem_of_getElem? (i := 5) rfl)) (fun r31 s31 t31 lo31 g31 f31 l31 => ?_)
  obtain ⟨q31, z31, c31, j31, fx31⟩ := f31
  cases q31
  rw [g31] at c31 fx31
  have fr31 : ∀ p9 : Nat, p9 ∉ [tx, tm] → t31.heap[p9]? = s.heap[p9]? := fun p9 h9 => (fx31 p9 (fun q => h9 (by rw [List.mem_singleton.mp q]; exact List.mem_cons_self))).trans (fr1 p9 h9)
  have hh31 : zh_ok D cA RTg ro sz H0 t31.heap lo31 := ⟨z31.1, z31.2.1, l31, z31.2.2.2⟩
  have kp31 := kp1.trans (c31.mono (ms' := tmM) (by decide))
  generalize hx31 : ndF T 58 x1.2 = x31 at j31
  have uu31 := j31.2.2
  unfold uOK at uu31
  have jd31 := jd1.kept htm rfl (by decide) c31 (by decide)
  refine W.eq (g2 := F0 m 11 ls []) rfl ?_
  refine lv_aload_n hx hb (eX8_scanFull (11, .aload_n 0, 1) (List.mem_of_getElem? (i := 6) rfl)) rfl (lv_at hl 0 rfl) ?_
  refine lv_aload_n hx hb (eX8_scanFull (12, .aload_n 1, 1) (List.mem_of_getElem? (i := 7) rfl)) rfl (lv_at hl 1 rfl) ?_
  refine tz_rowV (As := [.ref tx]) (st := []) (b := tm) (C := RX8) (Ts := gT) hx hb hml hown h2 (fun _ h => h) (hX8_scanMinutes l D cA ro sz H0 tm tx  T (x31) (x1.1) htm htx ) ⟨rfl, rfl⟩ ⟨by decide, by decide⟩ ⟨by decide, by decide⟩ (tb_5 4 rfl rfl) (tb_1 9 rfl rfl) (tb_5 1 rfl rfl) (tb_5 2 rfl rfl) (tb_5 3 rfl rfl) (show yX8_scanMinutes.cls ≠ "java/lang/invoke/MethodHandle" ∧ yX8_scanMinutes.cls ≠ "java/lang/invoke/VarHandle" ∧ (parseMethodDescriptor yX8_scanMinutes.desc).map (fun d => d.parameters.length) = some 1 by decide +kernel) zs_blind (zs_ob hh31 htm (show RTg[7]? = some (0, 7, 0, fsX8) from rfl) (zCX8 hKn.1)) (fun U hU hW => ⟨rfl, by rw [hU]; exact hh31.l0, zKb s U hW.alike hKn, by rw [hU]; exact ⟨j31, jd31⟩⟩) hh31.2.2.1 hl.1 (Nat.le_of_ble_eq_true rfl) (eX8_scanFull (13, .invokevirtual 72, 3) (List.mem_of_getElem? (i := 8) rfl)) (fun r32 s32 t32 lo32 g32 f32 l32 => ?_)
  obtain ⟨q32, z32, c32, j32, jd32, fx32⟩ := f32
  cases q32
  rw [g32] at c32 fx32
  have fr32 : ∀ p9 : Nat, p9 ∉ [tx, tm] → t32.heap[p9]? = s.heap[p9]? := fun p9 h9 => (fx32 p9 (fun q => h9 (by rcases List.mem_cons.mp q with q | q; (rw [q]; exact List.mem_cons_self); (rw [List.mem_singleton.mp q]; exact (List.mem_cons_of_mem _ List.mem_cons_self))))).trans (fr31 p9 h9)
  have hh32 : zh_ok D cA RTg ro sz H0 t32.heap lo32 := ⟨z32.1, z32.2.1, l32, z32.2.2.2⟩
  have kp32 := kp31.trans (c32.mono (ms' := tmM) (by decide))
  generalize hx32 : miF T (x1.1, x31) = x32 at j32 jd32
  have uu32 := j32.2.2
  unfold uOK at uu32
  refine W.eq (g2 := F0 m 16 ls []) rfl ?_
  refine lv_aload_n hx hb (eX8_scanFull (16, .aload_n 1, 1) (List.mem_of_getElem? (i := 9) rfl)) rfl (lv_at hl 1 rfl) ?_
  refine ff_bipush hx hb (eX8_scanFull (17, .bipush 58, 2) (List.mem_of_getElem? (i := 10) rfl)) (by decide) (by decide) (fun v33 e33 => ?_)
  refine tz_rowV (As := [.int v33]) (st := []) (b := tx) (C := RX0) (Ts := gT) hx hb hml hown h2 (fun _ h => h) (hX0_need l D cA ro sz H0 tx v33 58 T (x32.2) htx (by omega) (by decide)) ⟨rfl, rfl⟩ ⟨by decide, by decide⟩ ⟨by decide, by decide⟩ (tb_4 44 rfl rfl) (tb_1 5 rfl rfl) (tb_5 0 rfl rfl) (tb_4 42 rfl rfl) (tb_4 43 rfl rfl) (show yX0_need.cls ≠ "java/lang/invoke/MethodHandle" ∧ yX0_need.cls ≠ "java/lang/invoke/VarHandle" ∧ (parseMethodDescriptor yX0_need.desc).map (fun d => d.parameters.length) = some 1 by decide +kernel) zs_blind (zs_ob hh32 htx (show RTg[0]? = some (0, 0, 0, fsX0) from rfl) (zCX0 hKn.1)) (fun U hU hW => ⟨rfl, by rw [hU]; exact hh32.l0, zKb s U hW.alike hKn, by rw [hU]; exact j32⟩) hh32.2.2.1 hl.1 (Nat.le_of_ble_eq_true rfl) (eX8_scanFull (19, .invokevirtual 94, 3) (List.mem_of_getElem? (i := 11) rfl)) (fun r34 s34 t34 lo34 g34 f34 l34 => ?_)
  obtain ⟨q34, z34, c34, j34, fx34⟩ := f34
  cases q34
  rw [g34] at c34 fx34
  have fr34 : ∀ p9 : Nat, p9 ∉ [tx, tm] → t34.heap[p9]? = s.heap[p9]? := fun p9 h9 => (fx34 p9 (fun q => h9 (by rw [List.mem_singleton.mp q]; exact List.mem_cons_self))).trans (fr32 p9 h9)
  have hh34 : zh_ok D cA RTg ro sz H0 t34.heap lo34 := ⟨z34.1, z34.2.1, l34, z34.2.2.2⟩
  have kp34 := kp32.trans (c34.mono (ms' := tmM) (by decide))
  generalize hx34 : ndF T 58 x32.2 = x34 at j34
  have uu34 := j34.2.2
  unfold uOK at uu34
  have jd34 := jd32.kept htm rfl (by decide) c34 (by decide)
  refine W.eq (g2 := F0 m 22 ls []) rfl ?_
  refine lv_aload_n hx hb (eX8_scanFull (22, .aload_n 0, 1) (List.mem_of_getElem? (i := 12) rfl)) rfl (lv_at hl 0 rfl) ?_
  refine lv_aload_n hx hb (eX8_scanFull (23, .aload_n 1, 1) (List.mem_of_getElem? (i := 13) rfl)) rfl (lv_at hl 1 rfl) ?_
  refine tz_rowV (As := [.ref tx]) (st := []) (b := tm) (C := RX8) (Ts := gT) hx hb hml hown h2 (fun _ h => h) (hX8_scanSeconds l D cA ro sz H0 tm tx  T (x34) (x32.1) htm htx ) ⟨rfl, rfl⟩ ⟨by decide, by decide⟩ ⟨by decide, by decide⟩ (tb_5 8 rfl rfl) (tb_1 9 rfl rfl) (tb_5 5 rfl rfl) (tb_5 6 rfl rfl) (tb_5 7 rfl rfl) (show yX8_scanSeconds.cls ≠ "java/lang/invoke/MethodHandle" ∧ yX8_scanSeconds.cls ≠ "java/lang/invoke/VarHandle" ∧ (parseMethodDescriptor yX8_scanSeconds.desc).map (fun d => d.parameters.length) = some 1 by decide +kernel) zs_blind (zs_ob hh34 htm (show RTg[7]? = some (0, 7, 0, fsX8) from rfl) (zCX8 hKn.1)) (fun U hU hW => ⟨rfl, by rw [hU]; exact hh34.l0, zKb s U hW.alike hKn, by rw [hU]; exact ⟨j34, jd34⟩⟩) hh34.2.2.1 hl.1 (Nat.le_of_ble_eq_true rfl) (eX8_scanFull (24, .invokevirtual 75, 3) (List.mem_of_getElem? (i := 14) rfl)) (fun r35 s35 t35 lo35 g35 f35 l35 => ?_)
  obtain ⟨q35, z35, c35, j35, jd35, fx35⟩ := f35
  cases q35
  rw [g35] at c35 fx35
  have fr35 : ∀ p9 : Nat, p9 ∉ [tx, tm] → t35.heap[p9]? = s.heap[p9]? := fun p9 h9 => (fx35 p9 (fun q => h9 (by rcases List.mem_cons.mp q with q | q; (rw [q]; exact List.mem_cons_self); (rw [List.mem_singleton.mp q]; exact (List.mem_cons_of_mem _ List.mem_cons_self))))).trans (fr34 p9 h9)
  have hh35 : zh_ok D cA RTg ro sz H0 t35.heap lo35 := ⟨z35.1, z35.2.1, l35, z35.2.2.2⟩
  have kp35 := kp34.trans (c35.mono (ms' := tmM) (by decide))
  generalize hx35 : scF9 T (x32.1, x34) = x35 at j35 jd35
  have uu35 := j35.2.2
  unfold uOK at uu35
  refine W.eq (g2 := F0 m 27 ls []) rfl ?_
  refine lv_aload_n hx hb (eX8_scanFull (27, .aload_n 1, 1) (List.mem_of_getElem? (i := 15) rfl)) rfl (lv_at hl 1 rfl) ?_
  refine ff_bipush hx hb (eX8_scanFull (28, .bipush 46, 2) (List.mem_of_getElem? (i := 16) rfl)) (by decide) (by decide) (fun v36 e36 => ?_)
  refine tz_rowV (As := [.int v36]) (st := []) (b := tx) (C := RX0) (Ts := gT) hx hb hml hown h2 (fun _ h => h) (hX0_take l D cA ro sz H0 tx v36 46 T (x35.2) htx (by omega) (by decide)) ⟨rfl, rfl⟩ ⟨by decide, by decide⟩ ⟨by decide, by decide⟩ (tb_4 8 rfl rfl) (tb_1 5 rfl rfl) (tb_5 9 rfl rfl) (tb_4 6 rfl rfl) (tb_4 7 rfl rfl) (show yX0_take.cls ≠ "java/lang/invoke/MethodHandle" ∧ yX0_take.cls ≠ "java/lang/invoke/VarHandle" ∧ (parseMethodDescriptor yX0_take.desc).map (fun d => d.parameters.length) = some 1 by decide +kernel) zs_blind (zs_ob hh35 htx (show RTg[0]? = some (0, 0, 0, fsX0) from rfl) (zCX0 hKn.1)) (fun U hU hW => ⟨rfl, by rw [hU]; exact hh35.l0, zKb s U hW.alike hKn, by rw [hU]; exact j35⟩) hh35.2.2.1 hl.1 (Nat.le_of_ble_eq_true rfl) (eX8_scanFull (30, .invokevirtual 68, 3) (List.mem_of_getElem? (i := 17) rfl)) (fun r37 s37 t37 lo37 g37 f37 l37 => ?_)
  obtain ⟨v37, q37, e37, z37, c37, j37, fx37⟩ := f37
  cases q37
  rw [g37] at c37 fx37
  have fr37 : ∀ p9 : Nat, p9 ∉ [tx, tm] → t37.heap[p9]? = s.heap[p9]? := fun p9 h9 => (fx37 p9 (fun q => h9 (by rw [List.mem_singleton.mp q]; exact List.mem_cons_self))).trans (fr35 p9 h9)
  have hh37 : zh_ok D cA RTg ro sz H0 t37.heap lo37 := ⟨z37.1, z37.2.1, l37, z37.2.2.2⟩
  have kp37 := kp35.trans (c37.mono (ms' := tmM) (by decide))
  have kf37 := tkF_01 T 46 x35.2
  generalize hx37 : tkF T 46 x35.2 = x37 at j37 e37 kf37
  have uu37 := j37.2.2
  unfold uOK at uu37
  have jd37 := jd35.kept htm rfl (by decide) c37 (by decide)
  refine W.eq (g2 := F0 m 33 ls [.int v37]) rfl ?_
  refine ff_if_eq hx hb (eX8_scanFull (33, .ifCond .eq 11, 3) (List.mem_of_getElem? (i := 18) rfl)) (tgt := 44) rfl (fun c38 => ?_) (fun c38 => ?_)
  · skip
    have d37 : ¬ x37.1 = 1 := by omega
    exact jn44 x35.1 x37.2  ls _ _ hh37 kp37 j37 jd37 fr37  (by first | (simp only [tfF, tf2F, pdF, pa1F, hx1, hx31, hx32, hx34, hx35, hx37, if_neg d37, up_eq]; done) | (simp only [tfF, tf2F, pdF, pa1F, hx1, hx31, hx32, hx34, hx35, hx37, if_neg d37, up_eq] <;> rfl) | rfl) (lv_sub hl [0, 1] rfl)
  · skip
    have d37 : x37.1 = 1 := by omega
    refine lv_aload_n hx hb (eX8_scanFull (36, .aload_n 0, 1) (List.mem_of_getElem? (i := 19) rfl)) rfl (lv_at hl 0 rfl) ?_
    refine lv_aload_n hx hb (eX8_scanFull (37, .aload_n 1, 1) (List.mem_of_getElem? (i := 20) rfl)) rfl (lv_at hl 1 rfl) ?_
    refine tz_rowV (As := []) (st := [.ref tm]) (b := tx) (C := RX0) (Ts := gT) hx hb hml hown h2 (fun _ h => h) (hX0_part l D cA ro sz H0 tx T (x37.2) htx) ⟨rfl, rfl⟩ ⟨by decide, by decide⟩ ⟨by decide, by decide⟩ (tb_5 13 rfl rfl) (tb_1 5 rfl rfl) (tb_5 10 rfl rfl) (tb_5 11 rfl rfl) (tb_5 12 rfl rfl) (show yX0_part.cls ≠ "java/lang/invoke/MethodHandle" ∧ yX0_part.cls ≠ "java/lang/invoke/VarHandle" ∧ (parseMethodDescriptor yX0_part.desc).map (fun d => d.parameters.length) = some 0 by decide +kernel) zs_blind (zs_ob hh37 htx (show RTg[0]? = some (0, 0, 0, fsX0) from rfl) (zCX0 hKn.1)) (fun U hU hW => ⟨rfl, by rw [hU]; exact hh37.l0, zKb s U hW.alike hKn, by rw [hU]; exact j37⟩) hh37.2.2.1 hl.1 (Nat.le_of_ble_eq_true rfl) (eX8_scanFull (38, .invokevirtual 82, 3) (List.mem_of_getElem? (i := 21) rfl)) (fun r39 s39 t39 lo39 g39 f39 l39 => ?_)
    obtain ⟨v39, q39, e39, z39, c39, j39, fx39⟩ := f39
    cases q39
    rw [g39] at c39 fx39
    have fr39 : ∀ p9 : Nat, p9 ∉ [tx, tm] → t39.heap[p9]? = s.heap[p9]? := fun p9 h9 => (fx39 p9 (fun q => h9 (by rw [List.mem_singleton.mp q]; exact List.mem_cons_self))).trans (fr37 p9 h9)
    have hh39 : zh_ok D cA RTg ro sz H0 t39.heap lo39 := ⟨z39.1, z39.2.1, l39, z39.2.2.2⟩
    have kp39 := kp37.trans (c39.mono (ms' := tmM) (by decide))
    have kf39 := ptF_bd T x37.2
    generalize hx39 : ptF T x37.2 = x39 at j39 e39 kf39
    have uu39 := j39.2.2
    unfold uOK at uu39
    have jd39 := jd37.kept htm rfl (by decide) c39 (by decide)
    refine W.eq (g2 := F0 m 41 ls [.int v39, .ref tm]) rfl ?_
    refine tz_put (r := 7) (k := 6) (t := (0, (-2147483648), 2147483647)) hx hb hD hh39 htm rfl rfl ((hcl7 30 6 (0, (-2147483648), 2147483647) (by decide) rfl).2 (by decide)) (tz_i (zn_i32 _).1 (zn_i32 _).2) (eX8_scanFull (41, .putfield 30, 3) (List.mem_of_getElem? (i := 22) rfl)) (fun H40 lo40 hh40 hf40 hk40 _ hq40 => ?_)
    have kp40 := kp39.trans (hk40.mono (ms' := tmM) (fun x hx => by cases List.mem_singleton.mp hx; decide))
    have jm40 := (j39).kept htx hk40 (by decide)
    have fr40 : ∀ p9 : Nat, p9 ∉ [tx, tm] → H40[p9]? = s.heap[p9]? := fun p9 h9 => (hq40 p9 (fun e9 => h9 (by rw [e9]; exact (List.mem_cons_of_mem _ List.mem_cons_self)))).trans (fr39 p9 h9)
    have jd40 := jF.put htm rfl (by decide) hk40 hf40 (show v39.toInt = x39.1 by omega) jd39
    exact jn44 (upF x35.1 6 (x39.1)) x39.2  ls _ _ hh40 kp40 jm40 jd40 fr40  (by first | (simp only [tfF, tf2F, pdF, pa1F, hx1, hx31, hx32, hx34, hx35, hx37, hx39, if_pos d37, up_eq]; done) | (simp only [tfF, tf2F, pdF, pa1F, hx1, hx31, hx32, hx34, hx35, hx37, hx39, if_pos d37, up_eq] <;> rfl) | rfl) (lv_sub hl [0, 1] rfl)
