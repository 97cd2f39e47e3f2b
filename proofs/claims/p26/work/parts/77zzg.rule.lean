theorem l_n3 {p a b c : Nat} (h1 : p ≠ a) (h2 : p ≠ b) (h3 : p ≠ c) : p ∉ [a, b, c] := fun h => by
  rcases List.mem_cons.mp h with g | h
  · exact h1 g
  · rcases List.mem_cons.mp h with g | h
    · exact h2 g
    · exact h3 (List.mem_singleton.mp h)
theorem l_n1 {p a : Nat} (h1 : p ≠ a) : p ∉ [a] := fun h => h1 (List.mem_singleton.mp h)
theorem l_n6 {p a b c d e f : Nat} (h : p ∉ [a, b, c, d, e, f]) : p ≠ a ∧ p ≠ b ∧ p ≠ c ∧ p ≠ d ∧ p ≠ e ∧ p ≠ f := by
  refine ⟨fun g => h ?_, fun g => h ?_, fun g => h ?_, fun g => h ?_, fun g => h ?_, fun g => h ?_⟩ <;> (rw [g]; simp)
theorem l_n4 {p a b c d : Nat} (h1 : p ≠ a) (h2 : p ≠ b) (h3 : p ≠ c) (h4 : p ≠ d) : p ∉ [a, b, c, d] := fun h => by
  rcases List.mem_cons.mp h with g | h
  · exact h1 g
  · exact l_n3 h2 h3 h4 h
theorem ro_ne {ro : Nat → Option Nat} {p q a b : Nat} (h1 : ro p = some a) (h2 : ro q = some b) (h : a ≠ b) : p ≠ q := fun e => h (by rw [e, h2] at h1; exact (Option.some.inj h1).symm)
set_option maxRecDepth 100000 in
set_option maxHeartbeats 4000000 in
theorem hX7_copyY (l : Launch) (D : va_G) (cA : Nat → ClassId) (ro : Nat → Option Nat) (sz : Nat) (H0 : Heap) (rd : Nat) (rq : Nat)  (hrd : ro rd = some 6) (hrq : ro rq = some 6) : Met l yX7_copy (gW yX7_copy cX7_copy 2 none) { frames := 0, cells := 0, slots := 0, locals := 0 } (zs_P D cA ro sz H0 (fun _ => True) [.ref rd, .ref rq]) (fun _ st oc t => oc = .returned none ∧ zh_ok D cA RTg ro sz H0 t.heap [] ∧ zc_kept D RTg ro [(6, 0), (6, 1), (6, 2), (6, 3), (6, 4)] st.heap t.heap ∧ (∀ p9 : Nat, p9 ∉ [rd] → t.heap[p9]? = st.heap[p9]?) ∧ ∀ dd : rD, jRd D st.heap rq dd → jRd D t.heap rd dd) 0 0 (zy_fr sz) := by
  refine zy_ofW (cc := cX7_copy) (maxL := 2) (ret := none) (by decide +kernel) rfl ?_
  intro p e s m args below meth c s1 B hml hv
  obtain ⟨rfl, hh, hKn, hJ⟩ := hv
  have hx := B.exec
  have hb := B.bytes
  have hr := B.returns
  have hlk := B.notSynchronized
  have hts0 := atoms_spec (ws := gW yX7_copy cX7_copy 2 none) B.pre
  have h2 : ∀ w ∈ gT, w.before ([.ref rd, .ref rq] : List Value).toArray s = true := fun w hw => hts0 w (List.mem_cons_of_mem _ hw)
  have hown : s.vm.findClass RX7 = some m.cls := findClass_of_methodNamed B.named
  have hl := lv_entry [.ref rd, .ref rq] (n := 2) (Nat.le_of_ble_eq_true rfl)
  rw [lg_entry_eq]
  generalize (lg_sl [.ref rd, .ref rq] ++ List.replicate (2 - (lg_sl [.ref rd, .ref rq]).length) Slot.unset).toArray = ls at hl ⊢
  have hD := zD_all h2 hKn.1
  have hcl6 := fun (idx k : Nat) (t : zt_T) (h : (idx, 6, k) ∈ gfX7) (hk : fsX7[k]? = some t) => zf_clause (ro := ro) (ms := [(6, 0), (6, 1), (6, 2), (6, 3), (6, 4)]) h2 hown hKn.1 gfX7_ok (by decide +kernel) idx 6 k 6 0 fsX7 t h rfl hk
  have kp0 : zc_kept D RTg ro [(6, 0), (6, 1), (6, 2), (6, 3), (6, 4)] s.heap s.heap := zc_kept.refl
  obtain ⟨kv, f0, -, -⟩ := zh_fT (k := 0) (t := (0, (-2147483648), 2147483647)) hh hrq (show RTg[6]? = some (0, 6, 0, fsX7) from rfl) rfl
  obtain ⟨nv, f1, -, -⟩ := zh_fT (k := 1) (t := (0, (-2147483648), 2147483647)) hh hrq (show RTg[6]? = some (0, 6, 0, fsX7) from rfl) rfl
  obtain ⟨wv, f2, -, -⟩ := zh_fT (k := 2) (t := (0, (-2147483648), 2147483647)) hh hrq (show RTg[6]? = some (0, 6, 0, fsX7) from rfl) rfl
  obtain ⟨dv, f3, -, -⟩ := zh_fT (k := 3) (t := (0, (-2147483648), 2147483647)) hh hrq (show RTg[6]? = some (0, 6, 0, fsX7) from rfl) rfl
  obtain ⟨mv, f4, -, -⟩ := zh_fT (k := 4) (t := (0, (-2147483648), 2147483647)) hh hrq (show RTg[6]? = some (0, 6, 0, fsX7) from rfl) rfl
  have fr0 : ∀ p9 : Nat, p9 ∉ [rd] → s.heap[p9]? = s.heap[p9]? := fun _ _ => rfl
  refine lv_aload_n hx hb (eX7_copy (0, .aload_n 0, 1) (List.mem_of_getElem? (i := 0) rfl)) rfl (lv_at hl 0 rfl) ?_
  refine lv_aload_n hx hb (eX7_copy (1, .aload_n 1, 1) (List.mem_of_getElem? (i := 1) rfl)) rfl (lv_at hl 1 rfl) ?_
  refine tz_get (r := 6) (k := 0) (t := (0, (-2147483648), 2147483647)) hx hb hh hrq rfl rfl (hcl6 9 0 (0, (-2147483648), 2147483647) (by decide) rfl).1 f0 (eX7_copy (2, .getfield 9, 3) (List.mem_of_getElem? (i := 2) rfl)) ?_
  refine tz_put (r := 6) (k := 0) (t := (0, (-2147483648), 2147483647)) hx hb hD hh hrd rfl rfl ((hcl6 9 0 (0, (-2147483648), 2147483647) (by decide) rfl).2 (by decide)) (tz_i (zn_i32 _).1 (zn_i32 _).2) (eX7_copy (5, .putfield 9, 3) (List.mem_of_getElem? (i := 3) rfl)) (fun H1 lo1 hh1 hf1 hk1 _ hq1 => ?_)
  have mf1_rq_1 := (hk1.1 rq 6 1 6 0 fsX7 hrq rfl (by decide) (by decide)).trans f1
  have mf1_rq_2 := (hk1.1 rq 6 2 6 0 fsX7 hrq rfl (by decide) (by decide)).trans f2
  have mf1_rq_3 := (hk1.1 rq 6 3 6 0 fsX7 hrq rfl (by decide) (by decide)).trans f3
  have mf1_rq_4 := (hk1.1 rq 6 4 6 0 fsX7 hrq rfl (by decide) (by decide)).trans f4
  have kp1 := kp0.trans (hk1.mono (ms' := [(6, 0), (6, 1), (6, 2), (6, 3), (6, 4)]) (fun x hx => by cases List.mem_singleton.mp hx; decide))
  have fr1 : ∀ p9 : Nat, p9 ∉ [rd] → H1[p9]? = s.heap[p9]? := fun p9 h9 => (hq1 p9 (fun e9 => h9 (by rw [e9]; exact List.mem_cons_self))).trans (fr0 p9 h9)
  refine lv_aload_n hx hb (eX7_copy (8, .aload_n 0, 1) (List.mem_of_getElem? (i := 4) rfl)) rfl (lv_at hl 0 rfl) ?_
  refine lv_aload_n hx hb (eX7_copy (9, .aload_n 1, 1) (List.mem_of_getElem? (i := 5) rfl)) rfl (lv_at hl 1 rfl) ?_
  refine tz_get (r := 6) (k := 1) (t := (0, (-2147483648), 2147483647)) hx hb hh1 hrq rfl rfl (hcl6 15 1 (0, (-2147483648), 2147483647) (by decide) rfl).1 mf1_rq_1 (eX7_copy (10, .getfield 15, 3) (List.mem_of_getElem? (i := 6) rfl)) ?_
  refine tz_put (r := 6) (k := 1) (t := (0, (-2147483648), 2147483647)) hx hb hD hh1 hrd rfl rfl ((hcl6 15 1 (0, (-2147483648), 2147483647) (by decide) rfl).2 (by decide)) (tz_i (zn_i32 _).1 (zn_i32 _).2) (eX7_copy (13, .putfield 15, 3) (List.mem_of_getElem? (i := 7) rfl)) (fun H2 lo2 hh2 hf2 hk2 _ hq2 => ?_)
  have mf2_rq_2 := (hk2.1 rq 6 2 6 0 fsX7 hrq rfl (by decide) (by decide)).trans mf1_rq_2
  have mf2_rq_3 := (hk2.1 rq 6 3 6 0 fsX7 hrq rfl (by decide) (by decide)).trans mf1_rq_3
  have mf2_rq_4 := (hk2.1 rq 6 4 6 0 fsX7 hrq rfl (by decide) (by decide)).trans mf1_rq_4
  have mf2_rd_0 := (hk2.1 rd 6 0 6 0 fsX7 hrd rfl (by decide) (by decide)).trans hf1
  have kp2 := kp1.trans (hk2.mono (ms' := [(6, 0), (6, 1), (6, 2), (6, 3), (6, 4)]) (fun x hx => by cases List.mem_singleton.mp hx; decide))
  have fr2 : ∀ p9 : Nat, p9 ∉ [rd] → H2[p9]? = s.heap[p9]? := fun p9 h9 => (hq2 p9 (fun e9 => h9 (by rw [e9]; exact List.mem_cons_self))).trans (fr1 p9 h9)
  refine lv_aload_n hx hb (eX7_copy (16, .aload_n 0, 1) (List.mem_of_getElem? (i := 8) rfl)) rfl (lv_at hl 0 rfl) ?_
  refine lv_aload_n hx hb (eX7_copy (17, .aload_n 1, 1) (List.mem_of_getElem? (i := 9) rfl)) rfl (lv_at hl 1 rfl) ?_
  refine tz_get (r := 6) (k := 2) (t := (0, (-2147483648), 2147483647)) hx hb hh2 hrq rfl rfl (hcl6 18 2 (0, (-2147483648), 2147483647) (by decide) rfl).1 mf2_rq_2 (eX7_copy (18, .getfield 18, 3) (List.mem_of_getElem? (i := 10) rfl)) ?_
  refine tz_put (r := 6) (k := 2) (t := (0, (-2147483648), 2147483647)) hx hb hD hh2 hrd rfl rfl ((hcl6 18 2 (0, (-2147483648), 2147483647) (by decide) rfl).2 (by decide)) (tz_i (zn_i32 _).1 (zn_i32 _).2) (eX7_copy (21, .putfield 18, 3) (List.mem_of_getElem? (i := 11) rfl)) (fun H3 lo3 hh3 hf3 hk3 _ hq3 => ?_)
  have mf3_rq_3 := (hk3.1 rq 6 3 6 0 fsX7 hrq rfl (by decide) (by decide)).trans mf2_rq_3
  have mf3_rq_4 := (hk3.1 rq 6 4 6 0 fsX7 hrq rfl (by decide) (by decide)).trans mf2_rq_4
  have mf3_rd_0 := (hk3.1 rd 6 0 6 0 fsX7 hrd rfl (by decide) (by decide)).trans mf2_rd_0
  have mf3_rd_1 := (hk3.1 rd 6 1 6 0 fsX7 hrd rfl (by decide) (by decide)).trans hf2
  have kp3 := kp2.trans (hk3.mono (ms' := [(6, 0), (6, 1), (6, 2), (6, 3), (6, 4)]) (fun x hx => by cases List.mem_singleton.mp hx; decide))
  have fr3 : ∀ p9 : Nat, p9 ∉ [rd] → H3[p9]? = s.heap[p9]? := fun p9 h9 => (hq3 p9 (fun e9 => h9 (by rw [e9]; exact List.mem_cons_self))).trans (fr2 p9 h9)
  refine lv_aload_n hx hb (eX7_copy (24, .aload_n 0, 1) (List.mem_of_getElem? (i := 12) rfl)) rfl (lv_at hl 0 rfl) ?_
  refine lv_aload_n hx hb (eX7_copy (25, .aload_n 1, 1) (List.mem_of_getElem? (i := 13) rfl)) rfl (lv_at hl 1 rfl) ?_
  refine tz_get (r := 6) (k := 3) (t := (0, (-2147483648), 2147483647)) hx hb hh3 hrq rfl rfl (hcl6 21 3 (0, (-2147483648), 2147483647) (by decide) rfl).1 mf3_rq_3 (eX7_copy (26, .getfield 21, 3) (List.mem_of_getElem? (i := 14) rfl)) ?_
  refine tz_put (r := 6) (k := 3) (t := (0, (-2147483648), 2147483647)) hx hb hD hh3 hrd rfl rfl ((hcl6 21 3 (0, (-2147483648), 2147483647) (by decide) rfl).2 (by decide)) (tz_i (zn_i32 _).1 (zn_i32 _).2) (eX7_copy (29, .putfield 21, 3) (List.mem_of_getElem? (i := 15) rfl)) (fun H4 lo4 hh4 hf4 hk4 _ hq4 => ?_)
  have mf4_rq_4 := (hk4.1 rq 6 4 6 0 fsX7 hrq rfl (by decide) (by decide)).trans mf3_rq_4
  have mf4_rd_0 := (hk4.1 rd 6 0 6 0 fsX7 hrd rfl (by decide) (by decide)).trans mf3_rd_0
  have mf4_rd_1 := (hk4.1 rd 6 1 6 0 fsX7 hrd rfl (by decide) (by decide)).trans mf3_rd_1
  have mf4_rd_2 := (hk4.1 rd 6 2 6 0 fsX7 hrd rfl (by decide) (by decide)).trans hf3
  have kp4 := kp3.trans (hk4.mono (ms' := [(6, 0), (6, 1), (6, 2), (6, 3), (6, 4)]) (fun x hx => by cases List.mem_singleton.mp hx; decide))
  have fr4 : ∀ p9 : Nat, p9 ∉ [rd] → H4[p9]? = s.heap[p9]? := fun p9 h9 => (hq4 p9 (fun e9 => h9 (by rw [e9]; exact List.mem_cons_self))).trans (fr3 p9 h9)
  refine lv_aload_n hx hb (eX7_copy (32, .aload_n 0, 1) (List.mem_of_getElem? (i := 16) rfl)) rfl (lv_at hl 0 rfl) ?_
  refine lv_aload_n hx hb (eX7_copy (33, .aload_n 1, 1) (List.mem_of_getElem? (i := 17) rfl)) rfl (lv_at hl 1 rfl) ?_
  refine tz_get (r := 6) (k := 4) (t := (0, (-2147483648), 2147483647)) hx hb hh4 hrq rfl rfl (hcl6 24 4 (0, (-2147483648), 2147483647) (by decide) rfl).1 mf4_rq_4 (eX7_copy (34, .getfield 24, 3) (List.mem_of_getElem? (i := 18) rfl)) ?_
  refine tz_put (r := 6) (k := 4) (t := (0, (-2147483648), 2147483647)) hx hb hD hh4 hrd rfl rfl ((hcl6 24 4 (0, (-2147483648), 2147483647) (by decide) rfl).2 (by decide)) (tz_i (zn_i32 _).1 (zn_i32 _).2) (eX7_copy (37, .putfield 24, 3) (List.mem_of_getElem? (i := 19) rfl)) (fun H5 lo5 hh5 hf5 hk5 _ hq5 => ?_)
  have mf5_rd_0 := (hk5.1 rd 6 0 6 0 fsX7 hrd rfl (by decide) (by decide)).trans mf4_rd_0
  have mf5_rd_1 := (hk5.1 rd 6 1 6 0 fsX7 hrd rfl (by decide) (by decide)).trans mf4_rd_1
  have mf5_rd_2 := (hk5.1 rd 6 2 6 0 fsX7 hrd rfl (by decide) (by decide)).trans mf4_rd_2
  have mf5_rd_3 := (hk5.1 rd 6 3 6 0 fsX7 hrd rfl (by decide) (by decide)).trans hf4
  have kp5 := kp4.trans (hk5.mono (ms' := [(6, 0), (6, 1), (6, 2), (6, 3), (6, 4)]) (fun x hx => by cases List.mem_singleton.mp hx; decide))
  have fr5 : ∀ p9 : Nat, p9 ∉ [rd] → H5[p9]? = s.heap[p9]? := fun p9 h9 => (hq5 p9 (fun e9 => h9 (by rw [e9]; exact List.mem_cons_self))).trans (fr4 p9 h9)
  exact W.vret hx hb hr (fun t ht hW => ⟨rfl, by rw [ht]; exact hh5.l0, by rw [ht]; exact kp5, by rw [ht]; exact fr5, fun dd jd => by rw [ht]; obtain ⟨k9, n9, w9, d9, m9, h0, h1, h3, h4, h5, eq9⟩ := jd; cases f0.symm.trans h0; cases f1.symm.trans h1; cases f2.symm.trans h3; cases f3.symm.trans h4; cases f4.symm.trans h5; exact ⟨kv, nv, wv, dv, mv, mf5_rd_0, mf5_rd_1, mf5_rd_2, mf5_rd_3, hf5, eq9⟩⟩) hh5.2.2.1 (eX7_copy (40, .return_, 1) (List.mem_of_getElem? (i := 20) rfl))
set_option maxRecDepth 100000 in
set_option maxHeartbeats 4000000 in
theorem hX6_copyY (l : Launch) (D : va_G) (cA : Nat → ClassId) (ro : Nat → Option Nat) (sz : Nat) (H0 : Heap) (ru : Nat) (rv : Nat) (rF rT vF vT : Nat) (hru : ro ru = some 5) (hrv : ro rv = some 5) (hrF : ro rF = some 6) (hrT : ro rT = some 6) (hvF : ro vF = some 6) (hvT : ro vT = some 6) (hFF : rF ≠ vF) (hFT : rF ≠ vT) (hTF : rT ≠ vF) (hTT : rT ≠ vT) (hft : rF ≠ rT) : Met l yX6_copy (gW yX6_copy cX6_copy 2 none) { frames := 1, cells := 0, slots := 0, locals := 21 } (zs_P D cA ro sz H0 (fun H => zh_f D H ru 5 3 = .ref rF ∧ zh_f D H ru 5 4 = .ref rT ∧ zh_f D H rv 5 3 = .ref vF ∧ zh_f D H rv 5 4 = .ref vT) [.ref ru, .ref rv]) (fun _ st oc t => oc = .returned none ∧ zh_ok D cA RTg ro sz H0 t.heap [] ∧ zc_kept D RTg ro [(5, 0), (5, 1), (5, 2), (5, 5), (6, 0), (6, 1), (6, 2), (6, 3), (6, 4)] st.heap t.heap ∧ (∀ p9 : Nat, p9 ∉ [ru, rF, rT] → t.heap[p9]? = st.heap[p9]?) ∧ (∀ rr : rU, jRf D st.heap rv vF vT rr → jRf D t.heap ru rF rT rr) ∧ ∃ tn : Int32, zh_f D t.heap ru 5 5 = .int tn ∧ tn.toInt = 0) 0 0 (zy_fr sz) := by
  refine zy_ofW (cc := cX6_copy) (maxL := 2) (ret := none) (by decide +kernel) rfl ?_
  intro p e s m args below meth c s1 B hml hv
  obtain ⟨rfl, hh, hKn, hJ⟩ := hv
  have hx := B.exec
  have hb := B.bytes
  have hr := B.returns
  have hlk := B.notSynchronized
  have hts0 := atoms_spec (ws := gW yX6_copy cX6_copy 2 none) B.pre
  have h2 : ∀ w ∈ gT, w.before ([.ref ru, .ref rv] : List Value).toArray s = true := fun w hw => hts0 w (List.mem_cons_of_mem _ hw)
  have hown : s.vm.findClass RX6 = some m.cls := findClass_of_methodNamed B.named
  have hl := lv_entry [.ref ru, .ref rv] (n := 2) (Nat.le_of_ble_eq_true rfl)
  rw [lg_entry_eq]
  generalize (lg_sl [.ref ru, .ref rv] ++ List.replicate (2 - (lg_sl [.ref ru, .ref rv]).length) Slot.unset).toArray = ls at hl ⊢
  have hD := zD_all h2 hKn.1
  have hcl5 := fun (idx k : Nat) (t : zt_T) (h : (idx, 5, k) ∈ gfX6) (hk : fsX6[k]? = some t) => zf_clause (ro := ro) (ms := [(5, 0), (5, 1), (5, 2), (5, 5), (6, 0), (6, 1), (6, 2), (6, 3), (6, 4)]) h2 hown hKn.1 gfX6_ok (by decide +kernel) idx 5 k 5 0 fsX6 t h rfl hk
  have kp0 : zc_kept D RTg ro [(5, 0), (5, 1), (5, 2), (5, 5), (6, 0), (6, 1), (6, 2), (6, 3), (6, 4)] s.heap s.heap := zc_kept.refl
  obtain ⟨hF3, hF4, hV3, hV4⟩ := id hJ
  obtain ⟨nn, u0, -, -⟩ := zh_fT (k := 0) (t := (0, (-2147483648), 2147483647)) hh hrv (show RTg[5]? = some (0, 5, 0, fsX6) from rfl) rfl
  obtain ⟨a1, u1, -, -⟩ := zh_fT (k := 1) (t := (0, (-2147483648), 2147483647)) hh hrv (show RTg[5]? = some (0, 5, 0, fsX6) from rfl) rfl
  obtain ⟨b1, u2, -, -⟩ := zh_fT (k := 2) (t := (0, (-2147483648), 2147483647)) hh hrv (show RTg[5]? = some (0, 5, 0, fsX6) from rfl) rfl
  have nvF : vF ∉ [ru, rF, rT] := l_n3 (ro_ne hvF hru (by decide)) hFF.symm hTF.symm
  have nvT : vT ∉ [ru, rF, rT] := l_n3 (ro_ne hvT hru (by decide)) hFT.symm hTT.symm
  have fr0 : ∀ p9 : Nat, p9 ∉ [ru, rF, rT] → s.heap[p9]? = s.heap[p9]? := fun _ _ => rfl
  refine lv_aload_n hx hb (eX6_copy (0, .aload_n 0, 1) (List.mem_of_getElem? (i := 0) rfl)) rfl (lv_at hl 0 rfl) ?_
  refine lv_aload_n hx hb (eX6_copy (1, .aload_n 1, 1) (List.mem_of_getElem? (i := 1) rfl)) rfl (lv_at hl 1 rfl) ?_
  refine tz_get (r := 5) (k := 0) (t := (0, (-2147483648), 2147483647)) hx hb hh hrv rfl rfl (hcl5 9 0 (0, (-2147483648), 2147483647) (by decide) rfl).1 u0 (eX6_copy (2, .getfield 9, 3) (List.mem_of_getElem? (i := 2) rfl)) ?_
  refine tz_put (r := 5) (k := 0) (t := (0, (-2147483648), 2147483647)) hx hb hD hh hru rfl rfl ((hcl5 9 0 (0, (-2147483648), 2147483647) (by decide) rfl).2 (by decide)) (tz_i (zn_i32 _).1 (zn_i32 _).2) (eX6_copy (5, .putfield 9, 3) (List.mem_of_getElem? (i := 3) rfl)) (fun H1 lo1 hh1 hf1 hk1 _ hq1 => ?_)
  have mf1_rv_1 := (hk1.1 rv 5 1 5 0 fsX6 hrv rfl (by decide) (by decide)).trans u1
  have mf1_rv_2 := (hk1.1 rv 5 2 5 0 fsX6 hrv rfl (by decide) (by decide)).trans u2
  have mf1_rv_3 := (hk1.1 rv 5 3 5 0 fsX6 hrv rfl (by decide) (by decide)).trans hV3
  have mf1_rv_4 := (hk1.1 rv 5 4 5 0 fsX6 hrv rfl (by decide) (by decide)).trans hV4
  have mf1_ru_3 := (hk1.1 ru 5 3 5 0 fsX6 hru rfl (by decide) (by decide)).trans hF3
  have mf1_ru_4 := (hk1.1 ru 5 4 5 0 fsX6 hru rfl (by decide) (by decide)).trans hF4
  have kp1 := kp0.trans (hk1.mono (ms' := [(5, 0), (5, 1), (5, 2), (5, 5), (6, 0), (6, 1), (6, 2), (6, 3), (6, 4)]) (fun x hx => by cases List.mem_singleton.mp hx; decide))
  have fr1 : ∀ p9 : Nat, p9 ∉ [ru, rF, rT] → H1[p9]? = s.heap[p9]? := fun p9 h9 => (hq1 p9 (fun e9 => h9 (by rw [e9]; exact List.mem_cons_self))).trans (fr0 p9 h9)
  refine lv_aload_n hx hb (eX6_copy (8, .aload_n 0, 1) (List.mem_of_getElem? (i := 4) rfl)) rfl (lv_at hl 0 rfl) ?_
  refine lv_aload_n hx hb (eX6_copy (9, .aload_n 1, 1) (List.mem_of_getElem? (i := 5) rfl)) rfl (lv_at hl 1 rfl) ?_
  refine tz_get (r := 5) (k := 1) (t := (0, (-2147483648), 2147483647)) hx hb hh1 hrv rfl rfl (hcl5 15 1 (0, (-2147483648), 2147483647) (by decide) rfl).1 mf1_rv_1 (eX6_copy (10, .getfield 15, 3) (List.mem_of_getElem? (i := 6) rfl)) ?_
  refine tz_put (r := 5) (k := 1) (t := (0, (-2147483648), 2147483647)) hx hb hD hh1 hru rfl rfl ((hcl5 15 1 (0, (-2147483648), 2147483647) (by decide) rfl).2 (by decide)) (tz_i (zn_i32 _).1 (zn_i32 _).2) (eX6_copy (13, .putfield 15, 3) (List.mem_of_getElem? (i := 7) rfl)) (fun H2 lo2 hh2 hf2 hk2 _ hq2 => ?_)
  have mf2_rv_2 := (hk2.1 rv 5 2 5 0 fsX6 hrv rfl (by decide) (by decide)).trans mf1_rv_2
  have mf2_rv_3 := (hk2.1 rv 5 3 5 0 fsX6 hrv rfl (by decide) (by decide)).trans mf1_rv_3
  have mf2_rv_4 := (hk2.1 rv 5 4 5 0 fsX6 hrv rfl (by decide) (by decide)).trans mf1_rv_4
  have mf2_ru_3 := (hk2.1 ru 5 3 5 0 fsX6 hru rfl (by decide) (by decide)).trans mf1_ru_3
  have mf2_ru_4 := (hk2.1 ru 5 4 5 0 fsX6 hru rfl (by decide) (by decide)).trans mf1_ru_4
  have mf2_ru_0 := (hk2.1 ru 5 0 5 0 fsX6 hru rfl (by decide) (by decide)).trans hf1
  have kp2 := kp1.trans (hk2.mono (ms' := [(5, 0), (5, 1), (5, 2), (5, 5), (6, 0), (6, 1), (6, 2), (6, 3), (6, 4)]) (fun x hx => by cases List.mem_singleton.mp hx; decide))
  have fr2 : ∀ p9 : Nat, p9 ∉ [ru, rF, rT] → H2[p9]? = s.heap[p9]? := fun p9 h9 => (hq2 p9 (fun e9 => h9 (by rw [e9]; exact List.mem_cons_self))).trans (fr1 p9 h9)
  refine lv_aload_n hx hb (eX6_copy (16, .aload_n 0, 1) (List.mem_of_getElem? (i := 8) rfl)) rfl (lv_at hl 0 rfl) ?_
  refine lv_aload_n hx hb (eX6_copy (17, .aload_n 1, 1) (List.mem_of_getElem? (i := 9) rfl)) rfl (lv_at hl 1 rfl) ?_
  refine tz_get (r := 5) (k := 2) (t := (0, (-2147483648), 2147483647)) hx hb hh2 hrv rfl rfl (hcl5 18 2 (0, (-2147483648), 2147483647) (by decide) rfl).1 mf2_rv_2 (eX6_copy (18, .getfield 18, 3) (List.mem_of_getElem? (i := 10) rfl)) ?_
  refine tz_put (r := 5) (k := 2) (t := (0, (-2147483648), 2147483647)) hx hb hD hh2 hru rfl rfl ((hcl5 18 2 (0, (-2147483648), 2147483647) (by decide) rfl).2 (by decide)) (tz_i (zn_i32 _).1 (zn_i32 _).2) (eX6_copy (21, .putfield 18, 3) (List.mem_of_getElem? (i := 11) rfl)) (fun H3 lo3 hh3 hf3 hk3 _ hq3 => ?_)
  have mf3_rv_3 := (hk3.1 rv 5 3 5 0 fsX6 hrv rfl (by decide) (by decide)).trans mf2_rv_3
  have mf3_rv_4 := (hk3.1 rv 5 4 5 0 fsX6 hrv rfl (by decide) (by decide)).trans mf2_rv_4
  have mf3_ru_3 := (hk3.1 ru 5 3 5 0 fsX6 hru rfl (by decide) (by decide)).trans mf2_ru_3
  have mf3_ru_4 := (hk3.1 ru 5 4 5 0 fsX6 hru rfl (by decide) (by decide)).trans mf2_ru_4
  have mf3_ru_0 := (hk3.1 ru 5 0 5 0 fsX6 hru rfl (by decide) (by decide)).trans mf2_ru_0
  have mf3_ru_1 := (hk3.1 ru 5 1 5 0 fsX6 hru rfl (by decide) (by decide)).trans hf2
  have kp3 := kp2.trans (hk3.mono (ms' := [(5, 0), (5, 1), (5, 2), (5, 5), (6, 0), (6, 1), (6, 2), (6, 3), (6, 4)]) (fun x hx => by cases List.mem_singleton.mp hx; decide))
  have fr3 : ∀ p9 : Nat, p9 ∉ [ru, rF, rT] → H3[p9]? = s.heap[p9]? := fun p9 h9 => (hq3 p9 (fun e9 => h9 (by rw [e9]; exact List.mem_cons_self))).trans (fr2 p9 h9)
  refine lv_aload_n hx hb (eX6_copy (24, .aload_n 0, 1) (List.mem_of_getElem? (i := 12) rfl)) rfl (lv_at hl 0 rfl) ?_
  refine tz_get (r := 5) (k := 3) (t := (16, 0, 0)) hx hb hh3 hru rfl rfl (hcl5 24 3 (16, 0, 0) (by decide) rfl).1 mf3_ru_3 (eX6_copy (25, .getfield 24, 3) (List.mem_of_getElem? (i := 13) rfl)) ?_
  refine lv_aload_n hx hb (eX6_copy (28, .aload_n 1, 1) (List.mem_of_getElem? (i := 14) rfl)) rfl (lv_at hl 1 rfl) ?_
  refine tz_get (r := 5) (k := 3) (t := (16, 0, 0)) hx hb hh3 hrv rfl rfl (hcl5 24 3 (16, 0, 0) (by decide) rfl).1 mf3_rv_3 (eX6_copy (29, .getfield 24, 3) (List.mem_of_getElem? (i := 15) rfl)) ?_
  refine tz_rowV (As := [.ref vF]) (st := []) (b := rF) (C := RX7) (Ts := gT) hx hb hml hown h2 (fun _ h => h) (hX7_copyY l D cA ro sz H0 rF vF hrF hvF) ⟨rfl, rfl⟩ ⟨by decide, by decide⟩ ⟨by decide, by decide⟩ (tb_4 101 rfl rfl) (tb_1 4 rfl rfl) (tb_4 98 rfl rfl) (tb_4 99 rfl rfl) (tb_4 100 rfl rfl) (show yX7_copy.cls ≠ "java/lang/invoke/MethodHandle" ∧ yX7_copy.cls ≠ "java/lang/invoke/VarHandle" ∧ (parseMethodDescriptor yX7_copy.desc).map (fun d => d.parameters.length) = some 1 by decide +kernel) zs_blind (zs_ob hh3 hrF (show RTg[6]? = some (0, 6, 0, fsX7) from rfl) (zCX7 hKn.1)) (fun U hU hW => ⟨rfl, by rw [hU]; exact hh3.l0, zKb s U hW.alike hKn, by rw [hU]; exact trivial⟩) hh3.2.2.1 hl.1 (Nat.le_of_ble_eq_true rfl) (eX6_copy (32, .invokevirtual 51, 3) (List.mem_of_getElem? (i := 16) rfl)) (fun r4 s4 t4 lo4 g4 f4 l4 => ?_)
  obtain ⟨q4, z4, c4, fx4, jd4⟩ := f4
  cases q4
  rw [g4] at c4 fx4 jd4
  have fr4 : ∀ p9 : Nat, p9 ∉ [ru, rF, rT] → t4.heap[p9]? = s.heap[p9]? := fun p9 h9 => (fx4 p9 (fun q => h9 (by rw [List.mem_singleton.mp q]; exact (List.mem_cons_of_mem _ List.mem_cons_self)))).trans (fr3 p9 h9)
  have hh4 : zh_ok D cA RTg ro sz H0 t4.heap lo4 := ⟨z4.1, z4.2.1, l4, z4.2.2.2⟩
  have kp4 := kp3.trans (c4.mono (ms' := [(5, 0), (5, 1), (5, 2), (5, 5), (6, 0), (6, 1), (6, 2), (6, 3), (6, 4)]) (by decide))
  have js4 : ∀ dd, jRd D s.heap vF dd → jRd D t4.heap rF dd := fun dd h9 => jd4 dd (h9.same (fr3 vF nvF))
  have mf4_rv_3 := (c4.1 rv 5 3 5 0 fsX6 hrv rfl (by decide) (by decide)).trans mf3_rv_3
  have mf4_rv_4 := (c4.1 rv 5 4 5 0 fsX6 hrv rfl (by decide) (by decide)).trans mf3_rv_4
  have mf4_ru_3 := (c4.1 ru 5 3 5 0 fsX6 hru rfl (by decide) (by decide)).trans mf3_ru_3
  have mf4_ru_4 := (c4.1 ru 5 4 5 0 fsX6 hru rfl (by decide) (by decide)).trans mf3_ru_4
  have mf4_ru_0 := (c4.1 ru 5 0 5 0 fsX6 hru rfl (by decide) (by decide)).trans mf3_ru_0
  have mf4_ru_1 := (c4.1 ru 5 1 5 0 fsX6 hru rfl (by decide) (by decide)).trans mf3_ru_1
  have mf4_ru_2 := (c4.1 ru 5 2 5 0 fsX6 hru rfl (by decide) (by decide)).trans hf3
  refine W.eq (g2 := F0 m 35 ls []) rfl ?_
  refine lv_aload_n hx hb (eX6_copy (35, .aload_n 0, 1) (List.mem_of_getElem? (i := 17) rfl)) rfl (lv_at hl 0 rfl) ?_
  refine tz_get (r := 5) (k := 4) (t := (16, 0, 0)) hx hb hh4 hru rfl rfl (hcl5 28 4 (16, 0, 0) (by decide) rfl).1 mf4_ru_4 (eX6_copy (36, .getfield 28, 3) (List.mem_of_getElem? (i := 18) rfl)) ?_
  refine lv_aload_n hx hb (eX6_copy (39, .aload_n 1, 1) (List.mem_of_getElem? (i := 19) rfl)) rfl (lv_at hl 1 rfl) ?_
  refine tz_get (r := 5) (k := 4) (t := (16, 0, 0)) hx hb hh4 hrv rfl rfl (hcl5 28 4 (16, 0, 0) (by decide) rfl).1 mf4_rv_4 (eX6_copy (40, .getfield 28, 3) (List.mem_of_getElem? (i := 20) rfl)) ?_
  refine tz_rowV (As := [.ref vT]) (st := []) (b := rT) (C := RX7) (Ts := gT) hx hb hml hown h2 (fun _ h => h) (hX7_copyY l D cA ro sz H0 rT vT hrT hvT) ⟨rfl, rfl⟩ ⟨by decide, by decide⟩ ⟨by decide, by decide⟩ (tb_4 101 rfl rfl) (tb_1 4 rfl rfl) (tb_4 98 rfl rfl) (tb_4 99 rfl rfl) (tb_4 100 rfl rfl) (show yX7_copy.cls ≠ "java/lang/invoke/MethodHandle" ∧ yX7_copy.cls ≠ "java/lang/invoke/VarHandle" ∧ (parseMethodDescriptor yX7_copy.desc).map (fun d => d.parameters.length) = some 1 by decide +kernel) zs_blind (zs_ob hh4 hrT (show RTg[6]? = some (0, 6, 0, fsX7) from rfl) (zCX7 hKn.1)) (fun U hU hW => ⟨rfl, by rw [hU]; exact hh4.l0, zKb s U hW.alike hKn, by rw [hU]; exact trivial⟩) hh4.2.2.1 hl.1 (Nat.le_of_ble_eq_true rfl) (eX6_copy (43, .invokevirtual 51, 3) (List.mem_of_getElem? (i := 21) rfl)) (fun r5 s5 t5 lo5 g5 f5 l5 => ?_)
  obtain ⟨q5, z5, c5, fx5, jd5⟩ := f5
  cases q5
  rw [g5] at c5 fx5 jd5
  have fr5 : ∀ p9 : Nat, p9 ∉ [ru, rF, rT] → t5.heap[p9]? = s.heap[p9]? := fun p9 h9 => (fx5 p9 (fun q => h9 (by rw [List.mem_singleton.mp q]; exact (List.mem_cons_of_mem _ (List.mem_cons_of_mem _ List.mem_cons_self))))).trans (fr4 p9 h9)
  have hh5 : zh_ok D cA RTg ro sz H0 t5.heap lo5 := ⟨z5.1, z5.2.1, l5, z5.2.2.2⟩
  have kp5 := kp4.trans (c5.mono (ms' := [(5, 0), (5, 1), (5, 2), (5, 5), (6, 0), (6, 1), (6, 2), (6, 3), (6, 4)]) (by decide))
  have jf5 : ∀ dd, jRd D s.heap vF dd → jRd D t5.heap rF dd := fun dd h9 => (js4 dd h9).same (fx5 rF (l_n1 hft))
  have js5 : ∀ dd, jRd D s.heap vT dd → jRd D t5.heap rT dd := fun dd h9 => jd5 dd (h9.same (fr4 vT nvT))
  have mf5_rv_3 := (c5.1 rv 5 3 5 0 fsX6 hrv rfl (by decide) (by decide)).trans mf4_rv_3
  have mf5_rv_4 := (c5.1 rv 5 4 5 0 fsX6 hrv rfl (by decide) (by decide)).trans mf4_rv_4
  have mf5_ru_3 := (c5.1 ru 5 3 5 0 fsX6 hru rfl (by decide) (by decide)).trans mf4_ru_3
  have mf5_ru_4 := (c5.1 ru 5 4 5 0 fsX6 hru rfl (by decide) (by decide)).trans mf4_ru_4
  have mf5_ru_0 := (c5.1 ru 5 0 5 0 fsX6 hru rfl (by decide) (by decide)).trans mf4_ru_0
  have mf5_ru_1 := (c5.1 ru 5 1 5 0 fsX6 hru rfl (by decide) (by decide)).trans mf4_ru_1
  have mf5_ru_2 := (c5.1 ru 5 2 5 0 fsX6 hru rfl (by decide) (by decide)).trans mf4_ru_2
  refine W.eq (g2 := F0 m 46 ls []) rfl ?_
  refine lv_aload_n hx hb (eX6_copy (46, .aload_n 0, 1) (List.mem_of_getElem? (i := 22) rfl)) rfl (lv_at hl 0 rfl) ?_
  refine ff_iconst hx hb (eX6_copy (47, .iconst 0, 1) (List.mem_of_getElem? (i := 23) rfl)) (by decide) (by decide) (fun v6 e6 => ?_)
  refine tz_put (r := 5) (k := 5) (t := (0, 0, 1)) hx hb hD hh5 hru rfl rfl ((hcl5 31 5 (0, 0, 1) (by decide) rfl).2 (by decide)) (tz_i (by omega) (by omega)) (eX6_copy (48, .putfield 31, 3) (List.mem_of_getElem? (i := 24) rfl)) (fun H7 lo7 hh7 hf7 hk7 _ hq7 => ?_)
  have mf7_rv_3 := (hk7.1 rv 5 3 5 0 fsX6 hrv rfl (by decide) (by decide)).trans mf5_rv_3
  have mf7_rv_4 := (hk7.1 rv 5 4 5 0 fsX6 hrv rfl (by decide) (by decide)).trans mf5_rv_4
  have mf7_ru_3 := (hk7.1 ru 5 3 5 0 fsX6 hru rfl (by decide) (by decide)).trans mf5_ru_3
  have mf7_ru_4 := (hk7.1 ru 5 4 5 0 fsX6 hru rfl (by decide) (by decide)).trans mf5_ru_4
  have mf7_ru_0 := (hk7.1 ru 5 0 5 0 fsX6 hru rfl (by decide) (by decide)).trans mf5_ru_0
  have mf7_ru_1 := (hk7.1 ru 5 1 5 0 fsX6 hru rfl (by decide) (by decide)).trans mf5_ru_1
  have mf7_ru_2 := (hk7.1 ru 5 2 5 0 fsX6 hru rfl (by decide) (by decide)).trans mf5_ru_2
  have kp7 := kp5.trans (hk7.mono (ms' := [(5, 0), (5, 1), (5, 2), (5, 5), (6, 0), (6, 1), (6, 2), (6, 3), (6, 4)]) (fun x hx => by cases List.mem_singleton.mp hx; decide))
  have fr7 : ∀ p9 : Nat, p9 ∉ [ru, rF, rT] → H7[p9]? = s.heap[p9]? := fun p9 h9 => (hq7 p9 (fun e9 => h9 (by rw [e9]; exact List.mem_cons_self))).trans (fr5 p9 h9)
  have kjF : ∀ dd, jRd D s.heap vF dd → jRd D H7 rF dd := fun dd h9 => (jf5 dd h9).kept hrF hk7 (by decide)
  have kjT : ∀ dd, jRd D s.heap vT dd → jRd D H7 rT dd := fun dd h9 => (js5 dd h9).kept hrT hk7 (by decide)
  exact W.vret hx hb hr (fun t ht hW => ⟨rfl, by rw [ht]; exact hh7.l0, by rw [ht]; exact kp7, by rw [ht]; exact fr7, fun rr jr => by rw [ht]; obtain ⟨-, -, n9, a9, b9, h0, h1, h3, gn, ga, gb⟩ := jr; cases u0.symm.trans h0; cases u1.symm.trans h1; cases u2.symm.trans h3; exact ⟨mf7_ru_3, mf7_ru_4, _, _, _, mf7_ru_0, mf7_ru_1, mf7_ru_2, gn, ga, fun q => ⟨(gb q).1, kjF _ (gb q).2.1, kjT _ (gb q).2.2⟩⟩, ⟨_, by rw [ht]; exact hf7, by omega⟩⟩) hh7.2.2.1 (eX6_copy (51, .return_, 1) (List.mem_of_getElem? (i := 25) rfl))
set_option maxRecDepth 100000 in
set_option maxHeartbeats 4000000 in
theorem hX11_ruleY (l : Launch) (hst : l.stackTraces = false) (D : va_G) (cA : Nat → ClassId) (ro : Nat → Option Nat) (sz : Nat) (H0 : Heap) (x : Nat) (zi : Int32) (L : List Int) (Z : List zE) (R : List rU) (T O : List Int) (hx10 : ro x = some 10) : vx_Met l yX11_rule (gW yX11_rule cX11_rule 5 (some .long)) { frames := 6, cells := 1, slots := 6, locals := 140 } (zs_PX D cA ro sz H0 (fun H => jCY D cA ro H x L (Z, R) ∧ jCK D cA ro H x T O) [.ref x, .int zi]) (yy_Q D cA ro sz H0 x vL (spUY zi.toInt T L (Z, R))) (yy_X D cA ro sz H0 x L (Z, R) (spUY zi.toInt T L (Z, R))) 1 6 (zy_fr sz) := by
  refine vx_ofW (cc := cX11_rule) (maxL := 5) (ret := (some .long)) (by decide +kernel) rfl ?_
  intro p e s m args below meth c s1 B hml hex hv
  obtain ⟨rfl, hh, hKa, hKp, hJ⟩ := hv
  have hx := B.exec
  have hb := B.bytes
  have hr := B.returns
  have hlk := B.notSynchronized
  have hts0 := atoms_spec (ws := gW yX11_rule cX11_rule 5 (some .long)) B.pre
  have h2 : ∀ w ∈ gT, w.before ([.ref x, .int zi] : List Value).toArray s = true := fun w hw => hts0 w (List.mem_cons_of_mem _ hw)
  have hown : s.vm.findClass RX11 = some m.cls := findClass_of_methodNamed B.named
  have hl := lv_entry [.ref x, .int zi] (n := 5) (Nat.le_of_ble_eq_true rfl)
  rw [lg_entry_eq]
  generalize (lg_sl [.ref x, .int zi] ++ List.replicate (5 - (lg_sl [.ref x, .int zi]).length) Slot.unset).toArray = ls at hl ⊢
  have b_zi := zn_i32 zi
  have hBM : ∀ U : State, U.heap = s.heap → s.WarmedH U.vm → zBM cA U := fun U hU hW => zBM_B.2 s U hW hU hKp
  obtain ⟨hJC, ⟨tx, fx4, rtx, htxj⟩, -, -⟩ := id hJ
  have hJZ : jCZ D cA ro s.heap x L Z := hJC.1
  have hRR : jRR D cA ro s.heap x R := hJC.2
  have hRl : R.length = Z.length := hRR.len hJZ
  obtain ⟨⟨lp, fx0, rlp, hlp⟩, ⟨az, z, nz, qf, Af, Bf, hza, hnz, hzi⟩, hjl, hzw⟩ := id hJZ
  obtain ⟨fz, rz, cz, fn⟩ := id hza
  obtain ⟨n9, g9, n1, n2⟩ := zh_fT (k := 2) (t := (0, 0, 8)) hh hx10 (show RTg[10]? = some (0, 10, 0, fsX11) from rfl) rfl
  cases fn.symm.trans g9
  dsimp only at n1 n2
  clear g9
  have hjL := hjl.2.1
  have hD := zD_all h2 hKa.1.1.1
  have hcl10 := fun (idx k : Nat) (t : zt_T) (h : (idx, 10, k) ∈ gfX11) (hk : fsX11[k]? = some t) => zf_clause (ro := ro) (ms := []) h2 hown hKa.1.1.1 gfX11_ok (by decide +kernel) idx 10 k 10 0 fsX11 t h rfl hk
  have hcl9 := fun (idx k : Nat) (t : zt_T) (h : (idx, 9, k) ∈ gfX11) (hk : fsX10[k]? = some t) => zf_clause (ro := ro) (ms := []) h2 hown hKa.1.1.1 gfX11_ok (by decide +kernel) idx 9 k 9 0 fsX10 t h rfl hk
  have kp0 : zc_kept D RTg ro yMc s.heap s.heap := zc_kept.refl
  refine lv_aload_n hx hb (eX11_rule (0, .aload_n 0, 1) (List.mem_of_getElem? (i := 0) rfl)) rfl (lv_at hl 0 rfl) ?_
  refine lv_iload_n hx hb (eX11_rule (1, .iload_n 1, 1) (List.mem_of_getElem? (i := 1) rfl)) rfl (lv_at hl 1 rfl) ?_
  refine tz_rowV (As := [.int zi]) (st := []) (b := x) (C := RX11) (Ts := gT) hx hb hml hown h2 (fun _ h => h) (hX11_zoneAt l D cA ro sz H0 x zi az z nz hx10) ⟨rfl, rfl⟩ ⟨by decide, by decide⟩ ⟨by decide, by decide⟩ (tb_3 211 rfl rfl) (tb_1 1 rfl rfl) (tb_3 208 rfl rfl) (tb_3 210 rfl rfl) (tb_0 1 rfl rfl) (show yX11_zoneAt.cls ≠ "java/lang/invoke/MethodHandle" ∧ yX11_zoneAt.cls ≠ "java/lang/invoke/VarHandle" ∧ (parseMethodDescriptor yX11_zoneAt.desc).map (fun d => d.parameters.length) = some 1 by decide +kernel) zs_blind (zs_ob hh hx10 (show RTg[10]? = some (0, 10, 0, fsX11) from rfl) (zCX11 hKa.1.1.1)) (fun U hU hW => ⟨rfl, by rw [hU]; exact hh.l0, zKb s U hW.alike hKa.1.1, by rw [hU]; exact hza⟩) hh.2.2.1 hl.1 (Nat.le_of_ble_eq_true rfl) (eX11_rule (2, .invokevirtual 196, 3) (List.mem_of_getElem? (i := 2) rfl)) (fun r1 s1 t1 lo1 g1 f1 l1 => ?_)
  obtain ⟨z1, f1⟩ := f1
  rw [z1, g1]
  have hh1 : zh_ok D cA RTg ro sz H0 s.heap lo1 := ⟨hh.1, hh.2.1, l1, hh.2.2.2⟩
  rcases f1 with ⟨q1, bz⟩ | ⟨q1, bz⟩
  · cases q1
    refine W.eq (g2 := F0 m 5 ls [.null]) rfl ?_
    refine lv_astore_nN hx hb (eX11_rule (5, .astore_n 2, 1) (List.mem_of_getElem? (i := 3) rfl)) rfl hl (by decide) rfl (fun ls2 hl2 => ?_)
    refine lv_aload_nN hx hb (eX11_rule (6, .aload_n 2, 1) (List.mem_of_getElem? (i := 4) rfl)) rfl (lv_at hl2 0 rfl) ?_
    refine lv_ifnonnullN hx hb (eX11_rule (7, .ifnonnull 13, 3) (List.mem_of_getElem? (i := 5) rfl)) ?_
    exact zx_leafG (ik := 83) (is := 211) (ic := 87) (cls := "java/lang/IllegalArgumentException") (text := "no such zone") hx hb hst hown h2 hKa.1 hh hh1 (by rw [hl2.1, hml]) hex hlk ⟨by decide, by decide, by decide, by decide⟩ (tb_2 121 rfl rfl) (tb_1 17 rfl rfl) (by decide) (gAt_in gAt_1) (by decide +kernel) (by decide) (by decide) (fun t h7 h8 => ⟨hh1.grow h7 h8, kp0.trans (kept_grow hh1 h8), hJC.kept hx10 (kept_grow (ms := []) hh1 h8) (by decide), Or.inl ⟨rfl, 0, rfl, rfl, Or.inl ⟨rfl, rfl, fun g => by have g1 := g.1; have g2 : zi.toInt < (Z.length : Int) := g.2; omega⟩⟩⟩) (eX11_rule (10, .new 83, 3) (List.mem_of_getElem? (i := 6) rfl)) (eX11_rule (13, .dup, 1) (List.mem_of_getElem? (i := 7) rfl)) (eX11_rule (14, .ldc 211, 2) (List.mem_of_getElem? (i := 8) rfl)) (eX11_rule (16, .invokespecial 87, 3) (List.mem_of_getElem? (i := 9) rfl)) (eX11_rule (19, .athrow, 1) (List.mem_of_getElem? (i := 10) rfl))
  · have hlt : zi.toInt.toNat < Z.length := by omega
    obtain ⟨ze, hze⟩ : ∃ e9, Z[zi.toInt.toNat]? = some e9 := ⟨_, List.getElem?_eq_getElem hlt⟩
    obtain ⟨rr, hrr⟩ : ∃ e9, R[zi.toInt.toNat]? = some e9 := ⟨_, List.getElem?_eq_getElem (by omega)⟩
    have hle := hzw.2 ze (List.mem_of_getElem? hze)
    obtain ⟨hz1, ho1⟩ := hzi.1 _ ze hze
    rw [hz1] at q1
    generalize hzq : qf zi.toInt.toNat = zq at q1 ho1 hz1
    generalize hzA : Af zi.toInt.toNat = zA at ho1
    generalize hzB : Bf zi.toInt.toNat = zB at ho1
    cases q1
    have rzq := ho1.1
    obtain ⟨ru, rF, rT, lp9, dr, df, dt, fx9, fzl, fzu, hro, hdr, hne, hclose⟩ := hRR.at hx10 hza hrr hz1
    cases fx0.symm.trans fx9
    have hzr : jZR D cA ro s.heap zq zA zB ze lp L ru rF rT rr := ⟨ho1, fzl, rlp, hlp, fzu, hro⟩
    have hru := hro.1
    refine W.eq (g2 := F0 m 5 ls [.ref zq]) rfl ?_
    refine lv_astore_n hx hb (eX11_rule (5, .astore_n 2, 1) (List.mem_of_getElem? (i := 3) rfl)) rfl hl (by decide) rfl (fun ls3 hl3 => ?_)
    refine lv_aload_n hx hb (eX11_rule (6, .aload_n 2, 1) (List.mem_of_getElem? (i := 4) rfl)) rfl (lv_at hl3 0 rfl) ?_
    refine lv_ifnonnull hx hb (eX11_rule (7, .ifnonnull 13, 3) (List.mem_of_getElem? (i := 5) rfl)) (tgt := 20) rfl ?_
    refine lv_aload_n hx hb (eX11_rule (20, .aload_n 0, 1) (List.mem_of_getElem? (i := 11) rfl)) rfl (lv_at hl3 1 rfl) ?_
    refine tz_get (r := 10) (k := 3) (t := (14, 0, 0)) hx hb hh1 hx10 rfl rfl (hcl10 31 3 (14, 0, 0) (by decide) rfl).1 hdr.1 (eX11_rule (21, .getfield 31, 3) (List.mem_of_getElem? (i := 12) rfl)) ?_
    refine lv_aload_n hx hb (eX11_rule (24, .aload_n 0, 1) (List.mem_of_getElem? (i := 13) rfl)) rfl (lv_at hl3 1 rfl) ?_
    refine tz_get (r := 10) (k := 4) (t := (4, 0, 0)) hx hb hh1 hx10 rfl rfl (hcl10 38 4 (4, 0, 0) (by decide) rfl).1 fx4 (eX11_rule (25, .getfield 38, 3) (List.mem_of_getElem? (i := 14) rfl)) ?_
    refine tz_rowV (As := [.ref tx]) (st := []) (b := dr) (C := RX6) (Ts := gT) hx hb hml hown h2 (fun _ h => h) (hX6_scan l D cA ro sz H0 dr tx df dt T hdr.2.1 rtx hdr.2.2.2.2.1 hdr.2.2.2.2.2.1) ⟨rfl, rfl⟩ ⟨by decide, by decide⟩ ⟨by decide, by decide⟩ (tb_3 237 rfl rfl) (tb_1 3 rfl rfl) (tb_3 234 rfl rfl) (tb_3 235 rfl rfl) (tb_3 236 rfl rfl) (show yX6_scan.cls ≠ "java/lang/invoke/MethodHandle" ∧ yX6_scan.cls ≠ "java/lang/invoke/VarHandle" ∧ (parseMethodDescriptor yX6_scan.desc).map (fun d => d.parameters.length) = some 1 by decide +kernel) zs_blind (zs_ob hh1 hdr.2.1 (show RTg[5]? = some (0, 5, 0, fsX6) from rfl) (zCX6 hKa.1.1.1)) (fun U hU hW => ⟨rfl, by rw [hU]; exact hh1.l0, zKb s U hW.alike hKa.1.1, by rw [hU]; exact ⟨htxj, hdr.2.2.1, hdr.2.2.2.1⟩⟩) hh1.2.2.1 hl3.1 (Nat.le_of_ble_eq_true rfl) (eX11_rule (28, .invokevirtual 213, 3) (List.mem_of_getElem? (i := 15) rfl)) (fun r4 s4 t4 lo4 g4 f4 l4 => ?_)
    obtain ⟨v4, q4, e4, z4, c4, -, fx1, n7, a7, b7, w0, w1, w2, wn, wa, wb⟩ := f4
    cases q4
    rw [g4] at c4 fx1
    have hh4 : zh_ok D cA RTg ro sz H0 t4.heap lo4 := ⟨z4.1, z4.2.1, l4, z4.2.2.2⟩
    have kp4 := kp0.trans (c4.mono (ms' := yMc) (by decide))
    have hd3 := (c4.1 dr 5 3 5 0 fsX6 hdr.2.1 rfl (by decide) (by decide)).trans hdr.2.2.1
    have hd4 := (c4.1 dr 5 4 5 0 fsX6 hdr.2.1 rfl (by decide) (by decide)).trans hdr.2.2.2.1
    have hu3 := (c4.1 ru 5 3 5 0 fsX6 hru rfl (by decide) (by decide)).trans hro.2.2.2.1.1
    have hu4 := (c4.1 ru 5 4 5 0 fsX6 hru rfl (by decide) (by decide)).trans hro.2.2.2.1.2.1
    have jf1 : jRf D t4.heap dr df dt (ruF T).1 := ⟨hd3, hd4, n7, a7, b7, w0, w1, w2, wn, fun _ => wa, fun q => ⟨(wb q).1, (wb q).2 hdr.2.2.2.2.2.2⟩⟩
    have jcz1 := hJZ.kept hx10 c4 (by decide)
    have fu1 := (c4.1 zq 9 5 9 0 fsX10 rzq rfl (by decide) (by decide)).trans fzu
    have fd1 := (c4.1 x 10 3 10 0 fsX11 hx10 rfl (by decide) (by decide)).trans hdr.1
    refine W.eq (g2 := F0 m 31 ls3 [.long v4]) rfl ?_
    refine lv_lstore_n hx hb (eX11_rule (31, .lstore_n 3, 1) (List.mem_of_getElem? (i := 16) rfl)) rfl hl3 (by decide) rfl (fun ls5 hl5 => ?_)
    refine lv_lload_n hx hb (eX11_rule (32, .lload_n 3, 1) (List.mem_of_getElem? (i := 17) rfl)) rfl (lv_at hl5 0 rfl) ?_
    refine ff_ldc2 (n := (-9223372036854775808)) hx hb hown h2 (clX11_ok 62 (-9223372036854775808) (List.mem_of_getElem? (i := 0) rfl)) (eX11_rule (33, .ldc2_w 62, 3) (List.mem_of_getElem? (i := 18) rfl)) (fun v6 e6 => ?_)
    refine ff_lcmp hx hb (eX11_rule (36, .lcmp, 1) (List.mem_of_getElem? (i := 19) rfl)) (fun v7 e7 => ?_)
    refine ff_if_ne hx hb (eX11_rule (37, .ifCond .ne 14, 3) (List.mem_of_getElem? (i := 20) rfl)) (tgt := 51) rfl (fun c8 => ?_) (fun c8 => ?_)
    · skip
      refine lv_lload_n hx hb (eX11_rule (51, .lload_n 3, 1) (List.mem_of_getElem? (i := 26) rfl)) rfl (lv_at hl5 0 rfl) ?_
      have hN : ¬ vdF (ruF T).2 = NONEI := by unfold NONEI; omega
      have sf1 : sfR ro [ru, rF, rT, dr, df, dt] s.heap t4.heap := fun p9 k9 hp hk hn => by
        obtain ⟨n1, n2, n3, n4, n5, n6⟩ := l_n6 hn
        exact fx1 p9 (l_n4 (fun e9 => by subst e9; have := Option.some.inj (rtx.symm.trans hp); omega) n4 n5 n6)
      have jo1 := hro.same (H' := t4.heap) (fx1 ru (l_n4 (ro_ne hru rtx (by decide)) hne.1 (ro_ne hru hdr.2.2.2.2.1 (by decide)) (ro_ne hru hdr.2.2.2.2.2.1 (by decide)))) (fx1 rF (l_n4 (ro_ne hro.2.1 rtx (by decide)) (ro_ne hro.2.1 hdr.2.1 (by decide)) hne.2.1 hne.2.2.1)) (fx1 rT (l_n4 (ro_ne hro.2.2.1 rtx (by decide)) (ro_ne hro.2.2.1 hdr.2.1 (by decide)) hne.2.2.2.1 hne.2.2.2.2.1))
      have jrr1 := hclose t4.heap rr sf1 jo1 hd3 hd4
      rw [l_set hrr] at jrr1
      exact vx_ret (W.widen (k := 1) (n := 6) (Nat.zero_le _) (Nat.zero_le _) (W.lret hx hb hr (fun t ht hW => ⟨_, _, ro, L, (Z, ruN T R zi.toInt.toNat), rfl, ⟨_, rfl, rfl⟩, fun _ _ h => h, by rw [ht]; exact hh4.l0, by rw [ht]; exact kp4, by rw [ht]; exact ⟨jcz1, (show jRR D cA ro _ x (ruN T R zi.toInt.toNat) from by unfold ruN; rw [if_neg hN]; exact jrr1)⟩, rfl, rfl, Or.inr ⟨rfl, by omega, by show _ < (Z.length : Int); omega, e4, rfl⟩⟩) hh4.2.2.1 (eX11_rule (52, .lreturn, 1) (List.mem_of_getElem? (i := 27) rfl))))
    · skip
      have hN : vdF (ruF T).2 = NONEI := by unfold NONEI; omega
      refine lv_aload_n hx hb (eX11_rule (40, .aload_n 2, 1) (List.mem_of_getElem? (i := 21) rfl)) rfl (lv_at hl5 1 rfl) ?_
      refine tz_get (r := 9) (k := 5) (t := (14, 0, 0)) hx hb hh4 rzq rfl rfl (hcl9 217 5 (14, 0, 0) (by decide) rfl).1 fu1 (eX11_rule (41, .getfield 217, 3) (List.mem_of_getElem? (i := 22) rfl)) ?_
      refine lv_aload_n hx hb (eX11_rule (44, .aload_n 0, 1) (List.mem_of_getElem? (i := 23) rfl)) rfl (lv_at hl5 2 rfl) ?_
      refine tz_get (r := 10) (k := 3) (t := (14, 0, 0)) hx hb hh4 hx10 rfl rfl (hcl10 31 3 (14, 0, 0) (by decide) rfl).1 fd1 (eX11_rule (45, .getfield 31, 3) (List.mem_of_getElem? (i := 24) rfl)) ?_
      refine tz_rowV (As := [.ref dr]) (st := []) (b := ru) (C := RX6) (Ts := gT) hx hb hml hown h2 (fun _ h => h) (hX6_copyY l D cA ro sz H0 ru dr rF rT df dt hru hdr.2.1 hro.2.1 hro.2.2.1 hdr.2.2.2.2.1 hdr.2.2.2.2.2.1 hne.2.1 hne.2.2.1 hne.2.2.2.1 hne.2.2.2.2.1 hne.2.2.2.2.2) ⟨rfl, rfl⟩ ⟨by decide, by decide⟩ ⟨by decide, by decide⟩ (tb_4 97 rfl rfl) (tb_1 3 rfl rfl) (tb_4 94 rfl rfl) (tb_4 95 rfl rfl) (tb_4 96 rfl rfl) (show yX6_copy.cls ≠ "java/lang/invoke/MethodHandle" ∧ yX6_copy.cls ≠ "java/lang/invoke/VarHandle" ∧ (parseMethodDescriptor yX6_copy.desc).map (fun d => d.parameters.length) = some 1 by decide +kernel) zs_blind (zs_ob hh4 hru (show RTg[5]? = some (0, 5, 0, fsX6) from rfl) (zCX6 hKa.1.1.1)) (fun U hU hW => ⟨rfl, by rw [hU]; exact hh4.l0, zKb s U hW.alike hKa.1.1, by rw [hU]; exact ⟨hu3, hu4, hd3, hd4⟩⟩) hh4.2.2.1 hl5.1 (Nat.le_of_ble_eq_true rfl) (eX11_rule (48, .invokevirtual 220, 3) (List.mem_of_getElem? (i := 25) rfl)) (fun r9 s9 t9 lo9 g9 f9 l9 => ?_)
      obtain ⟨q9, z9, c9, fx2, jr2, tn, ft, h0⟩ := f9
      cases q9
      rw [g9] at c9 fx2 jr2
      have hh9 : zh_ok D cA RTg ro sz H0 t9.heap lo9 := ⟨z9.1, z9.2.1, l9, z9.2.2.2⟩
      have kp9 := kp4.trans (c9.mono (ms' := yMc) (by decide))
      have jo2 : jRo D ro t9.heap ru rF rT (ruF T).1 := ⟨hru, hro.2.1, hro.2.2.1, jr2 _ jf1, jCc_off hh9 hru ft h0, ru_ok hN⟩
      have sf2 : sfR ro [ru, rF, rT, dr, df, dt] s.heap t9.heap := fun p9 k9 hp hk hn => by
        obtain ⟨n1, n2, n3, n4, n5, n6⟩ := l_n6 hn
        exact (fx2 p9 (l_n3 n1 n2 n3)).trans (fx1 p9 (l_n4 (fun e9 => by subst e9; have := Option.some.inj (rtx.symm.trans hp); omega) n4 n5 n6))
      have jrr2 := hclose t9.heap (ruF T).1 sf2 jo2 ((c9.1 dr 5 3 5 0 fsX6 hdr.2.1 rfl (by decide) (by decide)).trans hd3) ((c9.1 dr 5 4 5 0 fsX6 hdr.2.1 rfl (by decide) (by decide)).trans hd4)
      have jcz2 := jcz1.kept hx10 c9 (by decide)
      refine W.eq (g2 := F0 m 51 ls5 []) rfl ?_
      refine lv_lload_n hx hb (eX11_rule (51, .lload_n 3, 1) (List.mem_of_getElem? (i := 26) rfl)) rfl (lv_at hl5 0 rfl) ?_
      exact vx_ret (W.widen (k := 1) (n := 6) (Nat.zero_le _) (Nat.zero_le _) (W.lret hx hb hr (fun t ht hW => ⟨_, _, ro, L, (Z, ruN T R zi.toInt.toNat), rfl, ⟨_, rfl, rfl⟩, fun _ _ h => h, by rw [ht]; exact hh9.l0, by rw [ht]; exact kp9, by rw [ht]; exact ⟨jcz2, (show jRR D cA ro _ x (ruN T R zi.toInt.toNat) from by unfold ruN; rw [if_pos hN]; exact jrr2)⟩, rfl, rfl, Or.inr ⟨rfl, by omega, by show _ < (Z.length : Int); omega, e4, rfl⟩⟩) hh9.2.2.1 (eX11_rule (52, .lreturn, 1) (List.mem_of_getElem? (i := 27) rfl))))
