def kRc : List (Nat × Nat) := [(0, 2), (0, 3), (0, 4), (5, 0), (5, 1), (5, 2), (5, 5), (6, 0), (6, 1), (6, 2), (6, 3), (6, 4), (42, 0)]
def kr_Q (D : va_G) (cA : Nat → ClassId) (ro : Nat → Option Nat) (sz : Nat) (H0 : Heap) (SP : Int → Int → Prop) : Array Value → State → Outcome → State → Prop := fun _ st oc t => ∃ r : Int64, oc = .returned (some (.long r)) ∧ zh_ok D cA RTg ro sz H0 t.heap [] ∧ zc_kept D RTg ro kRc st.heap t.heap ∧ SP 0 r.toInt
def kr_X (D : va_G) (cA : Nat → ClassId) (ro : Nat → Option Nat) (sz : Nat) (H0 : Heap) (SP : Int → Int → Prop) : String → State → State → Prop := fun E st t => zh_ok D cA RTg ro sz H0 t.heap [] ∧ zc_kept D RTg ro [] st.heap t.heap ∧ E = eI ∧ ∃ r, SP 1 r
def kr_QL (D : va_G) (cA : Nat → ClassId) (ro : Nat → Option Nat) (sz : Nat) (H0 : Heap) (o : Nat) (SP : Int → Int → Prop) : Array Value → State → Outcome → State → Prop := fun _ st oc t => ∃ (k : Int32) (z : Nat → Value) (r : Int64), oc = .returned (some (.int k)) ∧ zh_ok D cA RTg ro sz H0 t.heap [] ∧ zc_kept D RTg ro kRc st.heap t.heap ∧ t.heap[o]? = some (arrV (cA 1) 1 z) ∧ z 0 = .long r ∧ ((k.toInt = 0 ∧ SP 0 r.toInt) ∨ (k.toInt ≠ 0 ∧ ∃ r', SP k.toInt r'))
set_option maxRecDepth 100000 in
set_option maxHeartbeats 4000000 in
theorem hX7_copy (l : Launch) (D : va_G) (cA : Nat → ClassId) (ro : Nat → Option Nat) (sz : Nat) (H0 : Heap) (rd : Nat) (rq : Nat)  (hrd : ro rd = some 6) (hrq : ro rq = some 6) : Met l yX7_copy (gW yX7_copy cX7_copy 2 none) { frames := 0, cells := 0, slots := 0, locals := 0 } (zs_P D cA ro sz H0 (fun _ => True) [.ref rd, .ref rq]) (fun _ st oc t => oc = .returned none ∧ zh_ok D cA RTg ro sz H0 t.heap [] ∧ zc_kept D RTg ro [(6, 0), (6, 1), (6, 2), (6, 3), (6, 4)] st.heap t.heap) 0 0 (zy_fr sz) := by
  refine zy_ofW (cc := cX7_copy) (maxL := 2) (ret := none) (by decide +kernel) rfl ?_
  intro p e s m args below meth c s1 B hml hv
  obtain ⟨rfl, hh, hKn, hJ⟩ := hv
  have hx := B.exec
  have hb := B.bytes
  have hr := B.returns
  have hlk := B.notSynchronized
  have hts0 := atoms_spec (ws := gW yX7_copy cX7_copy 2 none) B.pre
  have h2 : ∀ w ∈ gT, w.before ([.ref rd, .ref rq] : List Value).toArray s = true := fun w hw => hts0 w (List.mem_cons_of_mem _ hw)
  have hown : s.vm.findClass RX7 = some m.cls := findClass_of_methodNamed B.named
  have hl := lv_entry [.ref rd, .ref rq] (n := 2) (Nat.le_of_ble_eq_true rfl)
  rw [lg_entry_eq]
  generalize (lg_sl [.ref rd, .ref rq] ++ List.replicate (2 - (lg_sl [.ref rd, .ref rq]).length) Slot.unset).toArray = ls at hl ⊢
  have hD := zD_all h2 hKn.1
  have hcl6 := fun (idx k : Nat) (t : zt_T) (h : (idx, 6, k) ∈ gfX7) (hk : fsX7[k]? = some t) => zf_clause (ro := ro) (ms := [(6, 0), (6, 1), (6, 2), (6, 3), (6, 4)]) h2 hown hKn.1 gfX7_ok (by decide +kernel) idx 6 k 6 0 fsX7 t h rfl hk
  have kp0 : zc_kept D RTg ro [(6, 0), (6, 1), (6, 2), (6, 3), (6, 4)] s.heap s.heap := zc_kept.refl

  refine lv_aload_n hx hb (eX7_copy (0, .aload_n 0, 1) (List.mem_of_getElem? (i := 0) rfl)) rfl (lv_at hl 0 rfl) ?_
  refine lv_aload_n hx hb (eX7_copy (1, .aload_n 1, 1) (List.mem_of_getElem? (i := 1) rfl)) rfl (lv_at hl 1 rfl) ?_
  obtain ⟨v1, fa1, e1, eb1⟩ := zh_fT (k := 0) (t := (0, (-2147483648), 2147483647)) hh hrq (show RTg[6]? = some (0, 6, 0, fsX7) from rfl) rfl
  dsimp only at e1 eb1
  refine tz_get (r := 6) (k := 0) (t := (0, (-2147483648), 2147483647)) hx hb hh hrq rfl rfl (hcl6 9 0 (0, (-2147483648), 2147483647) (by decide) rfl).1 fa1 (eX7_copy (2, .getfield 9, 3) (List.mem_of_getElem? (i := 2) rfl)) ?_
  refine tz_put (r := 6) (k := 0) (t := (0, (-2147483648), 2147483647)) hx hb hD hh hrd rfl rfl ((hcl6 9 0 (0, (-2147483648), 2147483647) (by decide) rfl).2 (by decide)) (tz_i (zn_i32 _).1 (zn_i32 _).2) (eX7_copy (5, .putfield 9, 3) (List.mem_of_getElem? (i := 3) rfl)) (fun H2 lo2 hh2 hf2 hk2 _ hq2 => ?_)
  have kp2 := kp0.trans (hk2.mono (ms' := [(6, 0), (6, 1), (6, 2), (6, 3), (6, 4)]) (fun x hx => by cases List.mem_singleton.mp hx; decide))
  refine lv_aload_n hx hb (eX7_copy (8, .aload_n 0, 1) (List.mem_of_getElem? (i := 4) rfl)) rfl (lv_at hl 0 rfl) ?_
  refine lv_aload_n hx hb (eX7_copy (9, .aload_n 1, 1) (List.mem_of_getElem? (i := 5) rfl)) rfl (lv_at hl 1 rfl) ?_
  obtain ⟨v3, fa3, e3, eb3⟩ := zh_fT (k := 1) (t := (0, (-2147483648), 2147483647)) hh2 hrq (show RTg[6]? = some (0, 6, 0, fsX7) from rfl) rfl
  dsimp only at e3 eb3
  refine tz_get (r := 6) (k := 1) (t := (0, (-2147483648), 2147483647)) hx hb hh2 hrq rfl rfl (hcl6 15 1 (0, (-2147483648), 2147483647) (by decide) rfl).1 fa3 (eX7_copy (10, .getfield 15, 3) (List.mem_of_getElem? (i := 6) rfl)) ?_
  refine tz_put (r := 6) (k := 1) (t := (0, (-2147483648), 2147483647)) hx hb hD hh2 hrd rfl rfl ((hcl6 15 1 (0, (-2147483648), 2147483647) (by decide) rfl).2 (by decide)) (tz_i (zn_i32 _).1 (zn_i32 _).2) (eX7_copy (13, .putfield 15, 3) (List.mem_of_getElem? (i := 7) rfl)) (fun H4 lo4 hh4 hf4 hk4 _ hq4 => ?_)
  have mf4_rd_0 := (hk4.1 rd 6 0 6 0 fsX7 hrd rfl (by decide) (by decide)).trans hf2
  have kp4 := kp2.trans (hk4.mono (ms' := [(6, 0), (6, 1), (6, 2), (6, 3), (6, 4)]) (fun x hx => by cases List.mem_singleton.mp hx; decide))
  refine lv_aload_n hx hb (eX7_copy (16, .aload_n 0, 1) (List.mem_of_getElem? (i := 8) rfl)) rfl (lv_at hl 0 rfl) ?_
  refine lv_aload_n hx hb (eX7_copy (17, .aload_n 1, 1) (List.mem_of_getElem? (i := 9) rfl)) rfl (lv_at hl 1 rfl) ?_
  obtain ⟨v5, fa5, e5, eb5⟩ := zh_fT (k := 2) (t := (0, (-2147483648), 2147483647)) hh4 hrq (show RTg[6]? = some (0, 6, 0, fsX7) from rfl) rfl
  dsimp only at e5 eb5
  refine tz_get (r := 6) (k := 2) (t := (0, (-2147483648), 2147483647)) hx hb hh4 hrq rfl rfl (hcl6 18 2 (0, (-2147483648), 2147483647) (by decide) rfl).1 fa5 (eX7_copy (18, .getfield 18, 3) (List.mem_of_getElem? (i := 10) rfl)) ?_
  refine tz_put (r := 6) (k := 2) (t := (0, (-2147483648), 2147483647)) hx hb hD hh4 hrd rfl rfl ((hcl6 18 2 (0, (-2147483648), 2147483647) (by decide) rfl).2 (by decide)) (tz_i (zn_i32 _).1 (zn_i32 _).2) (eX7_copy (21, .putfield 18, 3) (List.mem_of_getElem? (i := 11) rfl)) (fun H6 lo6 hh6 hf6 hk6 _ hq6 => ?_)
  have mf6_rd_0 := (hk6.1 rd 6 0 6 0 fsX7 hrd rfl (by decide) (by decide)).trans mf4_rd_0
  have mf6_rd_1 := (hk6.1 rd 6 1 6 0 fsX7 hrd rfl (by decide) (by decide)).trans hf4
  have kp6 := kp4.trans (hk6.mono (ms' := [(6, 0), (6, 1), (6, 2), (6, 3), (6, 4)]) (fun x hx => by cases List.mem_singleton.mp hx; decide))
  refine lv_aload_n hx hb (eX7_copy (24, .aload_n 0, 1) (List.mem_of_getElem? (i := 12) rfl)) rfl (lv_at hl 0 rfl) ?_
  refine lv_aload_n hx hb (eX7_copy (25, .aload_n 1, 1) (List.mem_of_getElem? (i := 13) rfl)) rfl (lv_at hl 1 rfl) ?_
  obtain ⟨v7, fa7, e7, eb7⟩ := zh_fT (k := 3) (t := (0, (-2147483648), 2147483647)) hh6 hrq (show RTg[6]? = some (0, 6, 0, fsX7) from rfl) rfl
  dsimp only at e7 eb7
  refine tz_get (r := 6) (k := 3) (t := (0, (-2147483648), 2147483647)) hx hb hh6 hrq rfl rfl (hcl6 21 3 (0, (-2147483648), 2147483647) (by decide) rfl).1 fa7 (eX7_copy (26, .getfield 21, 3) (List.mem_of_getElem? (i := 14) rfl)) ?_
  refine tz_put (r := 6) (k := 3) (t := (0, (-2147483648), 2147483647)) hx hb hD hh6 hrd rfl rfl ((hcl6 21 3 (0, (-2147483648), 2147483647) (by decide) rfl).2 (by decide)) (tz_i (zn_i32 _).1 (zn_i32 _).2) (eX7_copy (29, .putfield 21, 3) (List.mem_of_getElem? (i := 15) rfl)) (fun H8 lo8 hh8 hf8 hk8 _ hq8 => ?_)
  have mf8_rd_0 := (hk8.1 rd 6 0 6 0 fsX7 hrd rfl (by decide) (by decide)).trans mf6_rd_0
  have mf8_rd_1 := (hk8.1 rd 6 1 6 0 fsX7 hrd rfl (by decide) (by decide)).trans mf6_rd_1
  have mf8_rd_2 := (hk8.1 rd 6 2 6 0 fsX7 hrd rfl (by decide) (by decide)).trans hf6
  have kp8 := kp6.trans (hk8.mono (ms' := [(6, 0), (6, 1), (6, 2), (6, 3), (6, 4)]) (fun x hx => by cases List.mem_singleton.mp hx; decide))
  refine lv_aload_n hx hb (eX7_copy (32, .aload_n 0, 1) (List.mem_of_getElem? (i := 16) rfl)) rfl (lv_at hl 0 rfl) ?_
  refine lv_aload_n hx hb (eX7_copy (33, .aload_n 1, 1) (List.mem_of_getElem? (i := 17) rfl)) rfl (lv_at hl 1 rfl) ?_
  obtain ⟨v9, fa9, e9, eb9⟩ := zh_fT (k := 4) (t := (0, (-2147483648), 2147483647)) hh8 hrq (show RTg[6]? = some (0, 6, 0, fsX7) from rfl) rfl
  dsimp only at e9 eb9
  refine tz_get (r := 6) (k := 4) (t := (0, (-2147483648), 2147483647)) hx hb hh8 hrq rfl rfl (hcl6 24 4 (0, (-2147483648), 2147483647) (by decide) rfl).1 fa9 (eX7_copy (34, .getfield 24, 3) (List.mem_of_getElem? (i := 18) rfl)) ?_
  refine tz_put (r := 6) (k := 4) (t := (0, (-2147483648), 2147483647)) hx hb hD hh8 hrd rfl rfl ((hcl6 24 4 (0, (-2147483648), 2147483647) (by decide) rfl).2 (by decide)) (tz_i (zn_i32 _).1 (zn_i32 _).2) (eX7_copy (37, .putfield 24, 3) (List.mem_of_getElem? (i := 19) rfl)) (fun H10 lo10 hh10 hf10 hk10 _ hq10 => ?_)
  have mf10_rd_0 := (hk10.1 rd 6 0 6 0 fsX7 hrd rfl (by decide) (by decide)).trans mf8_rd_0
  have mf10_rd_1 := (hk10.1 rd 6 1 6 0 fsX7 hrd rfl (by decide) (by decide)).trans mf8_rd_1
  have mf10_rd_2 := (hk10.1 rd 6 2 6 0 fsX7 hrd rfl (by decide) (by decide)).trans mf8_rd_2
  have mf10_rd_3 := (hk10.1 rd 6 3 6 0 fsX7 hrd rfl (by decide) (by decide)).trans hf8
  have kp10 := kp8.trans (hk10.mono (ms' := [(6, 0), (6, 1), (6, 2), (6, 3), (6, 4)]) (fun x hx => by cases List.mem_singleton.mp hx; decide))
  exact W.vret hx hb hr (fun t ht hW => ⟨rfl, by rw [ht]; exact hh10.l0, by rw [ht]; exact kp10⟩) hh10.2.2.1 (eX7_copy (40, .return_, 1) (List.mem_of_getElem? (i := 20) rfl))
set_option maxRecDepth 100000 in
set_option maxHeartbeats 4000000 in
theorem hX6_copy (l : Launch) (D : va_G) (cA : Nat → ClassId) (ro : Nat → Option Nat) (sz : Nat) (H0 : Heap) (ru : Nat) (rv : Nat)  (hru : ro ru = some 5) (hrv : ro rv = some 5) : Met l yX6_copy (gW yX6_copy cX6_copy 2 none) { frames := 1, cells := 0, slots := 0, locals := 21 } (zs_P D cA ro sz H0 (fun _ => True) [.ref ru, .ref rv]) (fun _ st oc t => oc = .returned none ∧ zh_ok D cA RTg ro sz H0 t.heap [] ∧ zc_kept D RTg ro [(5, 0), (5, 1), (5, 2), (5, 5), (6, 0), (6, 1), (6, 2), (6, 3), (6, 4)] st.heap t.heap) 0 0 (zy_fr sz) := by
  refine zy_ofW (cc := cX6_copy) (maxL := 2) (ret := none) (by decide +kernel) rfl ?_
  intro p e s m args below meth c s1 B hml hv
  obtain ⟨rfl, hh, hKn, hJ⟩ := hv
  have hx := B.exec
  have hb := B.bytes
  have hr := B.returns
  have hlk := B.notSynchronized
  have hts0 := atoms_spec (ws := gW yX6_copy cX6_copy 2 none) B.pre
  have h2 : ∀ w ∈ gT, w.before ([.ref ru, .ref rv] : List Value).toArray s = true := fun w hw => hts0 w (List.mem_cons_of_mem _ hw)
  have hown : s.vm.findClass RX6 = some m.cls := findClass_of_methodNamed B.named
  have hl := lv_entry [.ref ru, .ref rv] (n := 2) (Nat.le_of_ble_eq_true rfl)
  rw [lg_entry_eq]
  generalize (lg_sl [.ref ru, .ref rv] ++ List.replicate (2 - (lg_sl [.ref ru, .ref rv]).length) Slot.unset).toArray = ls at hl ⊢
  have hD := zD_all h2 hKn.1
  have hcl5 := fun (idx k : Nat) (t : zt_T) (h : (idx, 5, k) ∈ gfX6) (hk : fsX6[k]? = some t) => zf_clause (ro := ro) (ms := [(5, 0), (5, 1), (5, 2), (5, 5), (6, 0), (6, 1), (6, 2), (6, 3), (6, 4)]) h2 hown hKn.1 gfX6_ok (by decide +kernel) idx 5 k 5 0 fsX6 t h rfl hk
  have kp0 : zc_kept D RTg ro [(5, 0), (5, 1), (5, 2), (5, 5), (6, 0), (6, 1), (6, 2), (6, 3), (6, 4)] s.heap s.heap := zc_kept.refl

  refine lv_aload_n hx hb (eX6_copy (0, .aload_n 0, 1) (List.mem_of_getElem? (i := 0) rfl)) rfl (lv_at hl 0 rfl) ?_
  refine lv_aload_n hx hb (eX6_copy (1, .aload_n 1, 1) (List.mem_of_getElem? (i := 1) rfl)) rfl (lv_at hl 1 rfl) ?_
  obtain ⟨v1, fa1, e1, eb1⟩ := zh_fT (k := 0) (t := (0, (-2147483648), 2147483647)) hh hrv (show RTg[5]? = some (0, 5, 0, fsX6) from rfl) rfl
  dsimp only at e1 eb1
  refine tz_get (r := 5) (k := 0) (t := (0, (-2147483648), 2147483647)) hx hb hh hrv rfl rfl (hcl5 9 0 (0, (-2147483648), 2147483647) (by decide) rfl).1 fa1 (eX6_copy (2, .getfield 9, 3) (List.mem_of_getElem? (i := 2) rfl)) ?_
  refine tz_put (r := 5) (k := 0) (t := (0, (-2147483648), 2147483647)) hx hb hD hh hru rfl rfl ((hcl5 9 0 (0, (-2147483648), 2147483647) (by decide) rfl).2 (by decide)) (tz_i (zn_i32 _).1 (zn_i32 _).2) (eX6_copy (5, .putfield 9, 3) (List.mem_of_getElem? (i := 3) rfl)) (fun H2 lo2 hh2 hf2 hk2 _ hq2 => ?_)
  have kp2 := kp0.trans (hk2.mono (ms' := [(5, 0), (5, 1), (5, 2), (5, 5), (6, 0), (6, 1), (6, 2), (6, 3), (6, 4)]) (fun x hx => by cases List.mem_singleton.mp hx; decide))
  refine lv_aload_n hx hb (eX6_copy (8, .aload_n 0, 1) (List.mem_of_getElem? (i := 4) rfl)) rfl (lv_at hl 0 rfl) ?_
  refine lv_aload_n hx hb (eX6_copy (9, .aload_n 1, 1) (List.mem_of_getElem? (i := 5) rfl)) rfl (lv_at hl 1 rfl) ?_
  obtain ⟨v3, fa3, e3, eb3⟩ := zh_fT (k := 1) (t := (0, (-2147483648), 2147483647)) hh2 hrv (show RTg[5]? = some (0, 5, 0, fsX6) from rfl) rfl
  dsimp only at e3 eb3
  refine tz_get (r := 5) (k := 1) (t := (0, (-2147483648), 2147483647)) hx hb hh2 hrv rfl rfl (hcl5 15 1 (0, (-2147483648), 2147483647) (by decide) rfl).1 fa3 (eX6_copy (10, .getfield 15, 3) (List.mem_of_getElem? (i := 6) rfl)) ?_
  refine tz_put (r := 5) (k := 1) (t := (0, (-2147483648), 2147483647)) hx hb hD hh2 hru rfl rfl ((hcl5 15 1 (0, (-2147483648), 2147483647) (by decide) rfl).2 (by decide)) (tz_i (zn_i32 _).1 (zn_i32 _).2) (eX6_copy (13, .putfield 15, 3) (List.mem_of_getElem? (i := 7) rfl)) (fun H4 lo4 hh4 hf4 hk4 _ hq4 => ?_)
  have mf4_ru_0 := (hk4.1 ru 5 0 5 0 fsX6 hru rfl (by decide) (by decide)).trans hf2
  have kp4 := kp2.trans (hk4.mono (ms' := [(5, 0), (5, 1), (5, 2), (5, 5), (6, 0), (6, 1), (6, 2), (6, 3), (6, 4)]) (fun x hx => by cases List.mem_singleton.mp hx; decide))
  refine lv_aload_n hx hb (eX6_copy (16, .aload_n 0, 1) (List.mem_of_getElem? (i := 8) rfl)) rfl (lv_at hl 0 rfl) ?_
  refine lv_aload_n hx hb (eX6_copy (17, .aload_n 1, 1) (List.mem_of_getElem? (i := 9) rfl)) rfl (lv_at hl 1 rfl) ?_
  obtain ⟨v5, fa5, e5, eb5⟩ := zh_fT (k := 2) (t := (0, (-2147483648), 2147483647)) hh4 hrv (show RTg[5]? = some (0, 5, 0, fsX6) from rfl) rfl
  dsimp only at e5 eb5
  refine tz_get (r := 5) (k := 2) (t := (0, (-2147483648), 2147483647)) hx hb hh4 hrv rfl rfl (hcl5 18 2 (0, (-2147483648), 2147483647) (by decide) rfl).1 fa5 (eX6_copy (18, .getfield 18, 3) (List.mem_of_getElem? (i := 10) rfl)) ?_
  refine tz_put (r := 5) (k := 2) (t := (0, (-2147483648), 2147483647)) hx hb hD hh4 hru rfl rfl ((hcl5 18 2 (0, (-2147483648), 2147483647) (by decide) rfl).2 (by decide)) (tz_i (zn_i32 _).1 (zn_i32 _).2) (eX6_copy (21, .putfield 18, 3) (List.mem_of_getElem? (i := 11) rfl)) (fun H6 lo6 hh6 hf6 hk6 _ hq6 => ?_)
  have mf6_ru_0 := (hk6.1 ru 5 0 5 0 fsX6 hru rfl (by decide) (by decide)).trans mf4_ru_0
  have mf6_ru_1 := (hk6.1 ru 5 1 5 0 fsX6 hru rfl (by decide) (by decide)).trans hf4
  have kp6 := kp4.trans (hk6.mono (ms' := [(5, 0), (5, 1), (5, 2), (5, 5), (6, 0), (6, 1), (6, 2), (6, 3), (6, 4)]) (fun x hx => by cases List.mem_singleton.mp hx; decide))
  refine lv_aload_n hx hb (eX6_copy (24, .aload_n 0, 1) (List.mem_of_getElem? (i := 12) rfl)) rfl (lv_at hl 0 rfl) ?_
  obtain ⟨a7, fa7, ra7⟩ := tz_ref (k := 3) (rr := 6) hh6 hru (show RTg[5]? = some (0, 5, 0, fsX6) from rfl) rfl
  refine tz_get (r := 5) (k := 3) (t := (16, 0, 0)) hx hb hh6 hru rfl rfl (hcl5 24 3 (16, 0, 0) (by decide) rfl).1 fa7 (eX6_copy (25, .getfield 24, 3) (List.mem_of_getElem? (i := 13) rfl)) ?_
  refine lv_aload_n hx hb (eX6_copy (28, .aload_n 1, 1) (List.mem_of_getElem? (i := 14) rfl)) rfl (lv_at hl 1 rfl) ?_
  obtain ⟨a8, fa8, ra8⟩ := tz_ref (k := 3) (rr := 6) hh6 hrv (show RTg[5]? = some (0, 5, 0, fsX6) from rfl) rfl
  refine tz_get (r := 5) (k := 3) (t := (16, 0, 0)) hx hb hh6 hrv rfl rfl (hcl5 24 3 (16, 0, 0) (by decide) rfl).1 fa8 (eX6_copy (29, .getfield 24, 3) (List.mem_of_getElem? (i := 15) rfl)) ?_
  refine tz_rowV (As := [.ref a8]) (st := []) (b := a7) (C := RX7) (Ts := gT) hx hb hml hown h2 (fun _ h => h) (hX7_copy l D cA ro sz H0 a7 a8 ra7 ra8) ⟨rfl, rfl⟩ ⟨by decide, by decide⟩ ⟨by decide, by decide⟩ (tb_4 101 rfl rfl) (tb_1 4 rfl rfl) (tb_4 98 rfl rfl) (tb_4 99 rfl rfl) (tb_4 100 rfl rfl) (show yX7_copy.cls ≠ "java/lang/invoke/MethodHandle" ∧ yX7_copy.cls ≠ "java/lang/invoke/VarHandle" ∧ (parseMethodDescriptor yX7_copy.desc).map (fun d => d.parameters.length) = some 1 by decide +kernel) zs_blind (zs_ob hh6 ra7 (show RTg[6]? = some (0, 6, 0, fsX7) from rfl) (zCX7 hKn.1)) (fun U hU hW => ⟨rfl, by rw [hU]; exact hh6.l0, zKb s U hW.alike hKn, by rw [hU]; exact trivial⟩) hh6.2.2.1 hl.1 (Nat.le_of_ble_eq_true rfl) (eX6_copy (32, .invokevirtual 51, 3) (List.mem_of_getElem? (i := 16) rfl)) (fun r9 s9 t9 lo9 g9 f9 l9 => ?_)
  obtain ⟨q9, z9, c9⟩ := f9
  cases q9
  rw [g9] at c9
  have hh9 : zh_ok D cA RTg ro sz H0 t9.heap lo9 := ⟨z9.1, z9.2.1, l9, z9.2.2.2⟩
  have kp9 := kp6.trans (c9.mono (ms' := [(5, 0), (5, 1), (5, 2), (5, 5), (6, 0), (6, 1), (6, 2), (6, 3), (6, 4)]) (by decide))
  have mf9_ru_0 := (c9.1 ru 5 0 5 0 fsX6 hru rfl (by decide) (by decide)).trans mf6_ru_0
  have mf9_ru_1 := (c9.1 ru 5 1 5 0 fsX6 hru rfl (by decide) (by decide)).trans mf6_ru_1
  have mf9_ru_2 := (c9.1 ru 5 2 5 0 fsX6 hru rfl (by decide) (by decide)).trans hf6
  have mf9_ru_3 := (c9.1 ru 5 3 5 0 fsX6 hru rfl (by decide) (by decide)).trans fa7
  have mf9_rv_3 := (c9.1 rv 5 3 5 0 fsX6 hrv rfl (by decide) (by decide)).trans fa8
  refine W.eq (g2 := F0 m 35 ls []) rfl ?_
  refine lv_aload_n hx hb (eX6_copy (35, .aload_n 0, 1) (List.mem_of_getElem? (i := 17) rfl)) rfl (lv_at hl 0 rfl) ?_
  obtain ⟨a10, fa10, ra10⟩ := tz_ref (k := 4) (rr := 6) hh9 hru (show RTg[5]? = some (0, 5, 0, fsX6) from rfl) rfl
  refine tz_get (r := 5) (k := 4) (t := (16, 0, 0)) hx hb hh9 hru rfl rfl (hcl5 28 4 (16, 0, 0) (by decide) rfl).1 fa10 (eX6_copy (36, .getfield 28, 3) (List.mem_of_getElem? (i := 18) rfl)) ?_
  refine lv_aload_n hx hb (eX6_copy (39, .aload_n 1, 1) (List.mem_of_getElem? (i := 19) rfl)) rfl (lv_at hl 1 rfl) ?_
  obtain ⟨a11, fa11, ra11⟩ := tz_ref (k := 4) (rr := 6) hh9 hrv (show RTg[5]? = some (0, 5, 0, fsX6) from rfl) rfl
  refine tz_get (r := 5) (k := 4) (t := (16, 0, 0)) hx hb hh9 hrv rfl rfl (hcl5 28 4 (16, 0, 0) (by decide) rfl).1 fa11 (eX6_copy (40, .getfield 28, 3) (List.mem_of_getElem? (i := 20) rfl)) ?_
  refine tz_rowV (As := [.ref a11]) (st := []) (b := a10) (C := RX7) (Ts := gT) hx hb hml hown h2 (fun _ h => h) (hX7_copy l D cA ro sz H0 a10 a11 ra10 ra11) ⟨rfl, rfl⟩ ⟨by decide, by decide⟩ ⟨by decide, by decide⟩ (tb_4 101 rfl rfl) (tb_1 4 rfl rfl) (tb_4 98 rfl rfl) (tb_4 99 rfl rfl) (tb_4 100 rfl rfl) (show yX7_copy.cls ≠ "java/lang/invoke/MethodHandle" ∧ yX7_copy.cls ≠ "java/lang/invoke/VarHandle" ∧ (parseMethodDescriptor yX7_copy.desc).map (fun d => d.parameters.length) = some 1 by decide +kernel) zs_blind (zs_ob hh9 ra10 (show RTg[6]? = some (0, 6, 0, fsX7) from rfl) (zCX7 hKn.1)) (fun U hU hW => ⟨rfl, by rw [hU]; exact hh9.l0, zKb s U hW.alike hKn, by rw [hU]; exact trivial⟩) hh9.2.2.1 hl.1 (Nat.le_of_ble_eq_true rfl) (eX6_copy (43, .invokevirtual 51, 3) (List.mem_of_getElem? (i := 21) rfl)) (fun r12 s12 t12 lo12 g12 f12 l12 => ?_)
  obtain ⟨q12, z12, c12⟩ := f12
  cases q12
  rw [g12] at c12
  have hh12 : zh_ok D cA RTg ro sz H0 t12.heap lo12 := ⟨z12.1, z12.2.1, l12, z12.2.2.2⟩
  have kp12 := kp9.trans (c12.mono (ms' := [(5, 0), (5, 1), (5, 2), (5, 5), (6, 0), (6, 1), (6, 2), (6, 3), (6, 4)]) (by decide))
  have mf12_ru_0 := (c12.1 ru 5 0 5 0 fsX6 hru rfl (by decide) (by decide)).trans mf9_ru_0
  have mf12_ru_1 := (c12.1 ru 5 1 5 0 fsX6 hru rfl (by decide) (by decide)).trans mf9_ru_1
  have mf12_ru_2 := (c12.1 ru 5 2 5 0 fsX6 hru rfl (by decide) (by decide)).trans mf9_ru_2
  have mf12_ru_3 := (c12.1 ru 5 3 5 0 fsX6 hru rfl (by decide) (by decide)).trans mf9_ru_3
  have mf12_rv_3 := (c12.1 rv 5 3 5 0 fsX6 hrv rfl (by decide) (by decide)).trans mf9_rv_3
  have mf12_ru_4 := (c12.1 ru 5 4 5 0 fsX6 hru rfl (by decide) (by decide)).trans fa10
  have mf12_rv_4 := (c12.1 rv 5 4 5 0 fsX6 hrv rfl (by decide) (by decide)).trans fa11
  refine W.eq (g2 := F0 m 46 ls []) rfl ?_
  refine lv_aload_n hx hb (eX6_copy (46, .aload_n 0, 1) (List.mem_of_getElem? (i := 22) rfl)) rfl (lv_at hl 0 rfl) ?_
  refine ff_iconst hx hb (eX6_copy (47, .iconst 0, 1) (List.mem_of_getElem? (i := 23) rfl)) (by decide) (by decide) (fun v13 e13 => ?_)
  refine tz_put (r := 5) (k := 5) (t := (0, 0, 1)) hx hb hD hh12 hru rfl rfl ((hcl5 31 5 (0, 0, 1) (by decide) rfl).2 (by decide)) (tz_i (by omega) (by omega)) (eX6_copy (48, .putfield 31, 3) (List.mem_of_getElem? (i := 24) rfl)) (fun H14 lo14 hh14 hf14 hk14 _ hq14 => ?_)
  have mf14_ru_0 := (hk14.1 ru 5 0 5 0 fsX6 hru rfl (by decide) (by decide)).trans mf12_ru_0
  have mf14_ru_1 := (hk14.1 ru 5 1 5 0 fsX6 hru rfl (by decide) (by decide)).trans mf12_ru_1
  have mf14_ru_2 := (hk14.1 ru 5 2 5 0 fsX6 hru rfl (by decide) (by decide)).trans mf12_ru_2
  have mf14_ru_3 := (hk14.1 ru 5 3 5 0 fsX6 hru rfl (by decide) (by decide)).trans mf12_ru_3
  have mf14_rv_3 := (hk14.1 rv 5 3 5 0 fsX6 hrv rfl (by decide) (by decide)).trans mf12_rv_3
  have mf14_ru_4 := (hk14.1 ru 5 4 5 0 fsX6 hru rfl (by decide) (by decide)).trans mf12_ru_4
  have mf14_rv_4 := (hk14.1 rv 5 4 5 0 fsX6 hrv rfl (by decide) (by decide)).trans mf12_rv_4
  have kp14 := kp12.trans (hk14.mono (ms' := [(5, 0), (5, 1), (5, 2), (5, 5), (6, 0), (6, 1), (6, 2), (6, 3), (6, 4)]) (fun x hx => by cases List.mem_singleton.mp hx; decide))
  exact W.vret hx hb hr (fun t ht hW => ⟨rfl, by rw [ht]; exact hh14.l0, by rw [ht]; exact kp14⟩) hh14.2.2.1 (eX6_copy (51, .return_, 1) (List.mem_of_getElem? (i := 25) rfl))
set_option maxRecDepth 100000 in
set_option maxHeartbeats 4000000 in
theorem hX11_rule (l : Launch) (hst : l.stackTraces = false) (D : va_G) (cA : Nat → ClassId) (ro : Nat → Option Nat) (sz : Nat) (H0 : Heap) (x : Nat) (zi : Int32) (L : List Int) (Z : List zE) (T O : List Int) (hx10 : ro x = some 10) : vx_Met l yX11_rule (gW yX11_rule cX11_rule 5 (some .long)) { frames := 6, cells := 1, slots := 6, locals := 140 } (zs_PX D cA ro sz H0 (fun H => jCZ D cA ro H x L Z ∧ jCK D cA ro H x T O) [.ref x, .int zi]) (kr_Q D cA ro sz H0 (spRu zi.toInt (Z.length : Int) T)) (kr_X D cA ro sz H0 (spRu zi.toInt (Z.length : Int) T)) 1 6 (zy_fr sz) := by
  refine vx_ofW (cc := cX11_rule) (maxL := 5) (ret := (some .long)) (by decide +kernel) rfl ?_
  intro p e s m args below meth c s1 B hml hex hv
  obtain ⟨rfl, hh, hKa, hKp, hJ⟩ := hv
  have hx := B.exec
  have hb := B.bytes
  have hr := B.returns
  have hlk := B.notSynchronized
  have hts0 := atoms_spec (ws := gW yX11_rule cX11_rule 5 (some .long)) B.pre
  have h2 : ∀ w ∈ gT, w.before ([.ref x, .int zi] : List Value).toArray s = true := fun w hw => hts0 w (List.mem_cons_of_mem _ hw)
  have hown : s.vm.findClass RX11 = some m.cls := findClass_of_methodNamed B.named
  have hl := lv_entry [.ref x, .int zi] (n := 5) (Nat.le_of_ble_eq_true rfl)
  rw [lg_entry_eq]
  generalize (lg_sl [.ref x, .int zi] ++ List.replicate (5 - (lg_sl [.ref x, .int zi]).length) Slot.unset).toArray = ls at hl ⊢
  have b_zi := zn_i32 zi
  obtain ⟨⟨-, ⟨az, z, nz, qf, Af, Bf, hza, hnz, hzi⟩, -, hzw⟩, ⟨tx, fx4, rtx, htxj⟩, -, -⟩ := id hJ
  obtain ⟨-, -, -, fn⟩ := id hza
  obtain ⟨n9, g9, n1, n2⟩ := zh_fT (k := 2) (t := (0, 0, 8)) hh hx10 (show RTg[10]? = some (0, 10, 0, fsX11) from rfl) rfl
  cases fn.symm.trans g9
  dsimp only at n1 n2
  clear g9
  have hD := zD_all h2 hKa.1.1.1
  have hcl10 := fun (idx k : Nat) (t : zt_T) (h : (idx, 10, k) ∈ gfX11) (hk : fsX11[k]? = some t) => zf_clause (ro := ro) (ms := kRc) h2 hown hKa.1.1.1 gfX11_ok (by decide +kernel) idx 10 k 10 0 fsX11 t h rfl hk
  have hcl9 := fun (idx k : Nat) (t : zt_T) (h : (idx, 9, k) ∈ gfX11) (hk : fsX10[k]? = some t) => zf_clause (ro := ro) (ms := kRc) h2 hown hKa.1.1.1 gfX11_ok (by decide +kernel) idx 9 k 9 0 fsX10 t h rfl hk
  have kp0 : zc_kept D RTg ro kRc s.heap s.heap := zc_kept.refl
  refine lv_aload_n hx hb (eX11_rule (0, .aload_n 0, 1) (List.mem_of_getElem? (i := 0) rfl)) rfl (lv_at hl 0 rfl) ?_
  refine lv_iload_n hx hb (eX11_rule (1, .iload_n 1, 1) (List.mem_of_getElem? (i := 1) rfl)) rfl (lv_at hl 1 rfl) ?_
  refine tz_rowV (As := [.int zi]) (st := []) (b := x) (C := RX11) (Ts := gT) hx hb hml hown h2 (fun _ h => h) (hX11_zoneAt l D cA ro sz H0 x zi az z nz hx10) ⟨rfl, rfl⟩ ⟨by decide, by decide⟩ ⟨by decide, by decide⟩ (tb_3 211 rfl rfl) (tb_1 1 rfl rfl) (tb_3 208 rfl rfl) (tb_3 210 rfl rfl) (tb_0 1 rfl rfl) (show yX11_zoneAt.cls ≠ "java/lang/invoke/MethodHandle" ∧ yX11_zoneAt.cls ≠ "java/lang/invoke/VarHandle" ∧ (parseMethodDescriptor yX11_zoneAt.desc).map (fun d => d.parameters.length) = some 1 by decide +kernel) zs_blind (zs_ob hh hx10 (show RTg[10]? = some (0, 10, 0, fsX11) from rfl) (zCX11 hKa.1.1.1)) (fun U hU hW => ⟨rfl, by rw [hU]; exact hh.l0, zKb s U hW.alike hKa.1.1, by rw [hU]; exact hza⟩) hh.2.2.1 hl.1 (Nat.le_of_ble_eq_true rfl) (eX11_rule (2, .invokevirtual 196, 3) (List.mem_of_getElem? (i := 2) rfl)) (fun r1 s1 t1 lo1 g1 f1 l1 => ?_)
  obtain ⟨z1, f1⟩ := f1
  rw [z1, g1]
  have hh1 : zh_ok D cA RTg ro sz H0 s.heap lo1 := ⟨hh.1, hh.2.1, l1, hh.2.2.2⟩
  rcases f1 with ⟨q1, bz⟩ | ⟨q1, bz⟩
  · cases q1
    refine W.eq (g2 := F0 m 5 ls [.null]) rfl ?_
    refine lv_astore_nN hx hb (eX11_rule (5, .astore_n 2, 1) (List.mem_of_getElem? (i := 3) rfl)) rfl hl (by decide) rfl (fun ls2 hl2 => ?_)
    refine lv_aload_nN hx hb (eX11_rule (6, .aload_n 2, 1) (List.mem_of_getElem? (i := 4) rfl)) rfl (lv_at hl2 0 rfl) ?_
    refine lv_ifnonnullN hx hb (eX11_rule (7, .ifnonnull 13, 3) (List.mem_of_getElem? (i := 5) rfl)) ?_
    exact zx_leafG (ik := 83) (is := 211) (ic := 87) (cls := "java/lang/IllegalArgumentException") (text := "no such zone") hx hb hst hown h2 hKa.1 hh hh1 (by rw [hl2.1, hml]) hex hlk ⟨by decide, by decide, by decide, by decide⟩ (tb_2 121 rfl rfl) (tb_1 17 rfl rfl) (by decide) (gAt_in gAt_1) (by decide +kernel) (by decide) (by decide) (fun t h7 h8 => ⟨hh1.grow h7 h8, kept_grow hh1 h8, rfl, 0, Or.inl ⟨rfl, by omega⟩⟩) (eX11_rule (10, .new 83, 3) (List.mem_of_getElem? (i := 6) rfl)) (eX11_rule (13, .dup, 1) (List.mem_of_getElem? (i := 7) rfl)) (eX11_rule (14, .ldc 211, 2) (List.mem_of_getElem? (i := 8) rfl)) (eX11_rule (16, .invokespecial 87, 3) (List.mem_of_getElem? (i := 9) rfl)) (eX11_rule (19, .athrow, 1) (List.mem_of_getElem? (i := 10) rfl))
  · have hlt : zi.toInt.toNat < Z.length := by omega
    obtain ⟨ze, hze⟩ : ∃ e9, Z[zi.toInt.toNat]? = some e9 := ⟨_, List.getElem?_eq_getElem hlt⟩
    obtain ⟨hz1, ho1⟩ := hzi.1 _ ze hze
    rw [hz1] at q1
    generalize hzq : qf zi.toInt.toNat = zq at q1 ho1
    cases q1
    have rzq := ho1.1
    refine W.eq (g2 := F0 m 5 ls [.ref zq]) rfl ?_
    refine lv_astore_n hx hb (eX11_rule (5, .astore_n 2, 1) (List.mem_of_getElem? (i := 3) rfl)) rfl hl (by decide) rfl (fun ls3 hl3 => ?_)
    refine lv_aload_n hx hb (eX11_rule (6, .aload_n 2, 1) (List.mem_of_getElem? (i := 4) rfl)) rfl (lv_at hl3 0 rfl) ?_
    refine lv_ifnonnull hx hb (eX11_rule (7, .ifnonnull 13, 3) (List.mem_of_getElem? (i := 5) rfl)) (tgt := 20) rfl ?_
    refine lv_aload_n hx hb (eX11_rule (20, .aload_n 0, 1) (List.mem_of_getElem? (i := 11) rfl)) rfl (lv_at hl3 1 rfl) ?_
    obtain ⟨a4, fa4, ra4⟩ := tz_ref (k := 3) (rr := 5) hh1 hx10 (show RTg[10]? = some (0, 10, 0, fsX11) from rfl) rfl
    refine tz_get (r := 10) (k := 3) (t := (14, 0, 0)) hx hb hh1 hx10 rfl rfl (hcl10 31 3 (14, 0, 0) (by decide) rfl).1 fa4 (eX11_rule (21, .getfield 31, 3) (List.mem_of_getElem? (i := 12) rfl)) ?_
    refine lv_aload_n hx hb (eX11_rule (24, .aload_n 0, 1) (List.mem_of_getElem? (i := 13) rfl)) rfl (lv_at hl3 1 rfl) ?_
    refine tz_get (r := 10) (k := 4) (t := (4, 0, 0)) hx hb hh1 hx10 rfl rfl (hcl10 38 4 (4, 0, 0) (by decide) rfl).1 fx4 (eX11_rule (25, .getfield 38, 3) (List.mem_of_getElem? (i := 14) rfl)) ?_
    obtain ⟨rF, fdF, rdF⟩ := tz_ref (k := 3) (rr := 6) hh1 ra4 (show RTg[5]? = some (0, 5, 0, fsX6) from rfl) rfl
    obtain ⟨rT, fdT, rdT⟩ := tz_ref (k := 4) (rr := 6) hh1 ra4 (show RTg[5]? = some (0, 5, 0, fsX6) from rfl) rfl
    refine tz_rowV (As := [.ref tx]) (st := []) (b := a4) (C := RX6) (Ts := gT) hx hb hml hown h2 (fun _ h => h) (hX6_scan l D cA ro sz H0 a4 tx rF rT T ra4 rtx rdF rdT) ⟨rfl, rfl⟩ ⟨by decide, by decide⟩ ⟨by decide, by decide⟩ (tb_3 237 rfl rfl) (tb_1 3 rfl rfl) (tb_3 234 rfl rfl) (tb_3 235 rfl rfl) (tb_3 236 rfl rfl) (show yX6_scan.cls ≠ "java/lang/invoke/MethodHandle" ∧ yX6_scan.cls ≠ "java/lang/invoke/VarHandle" ∧ (parseMethodDescriptor yX6_scan.desc).map (fun d => d.parameters.length) = some 1 by decide +kernel) zs_blind (zs_ob hh1 ra4 (show RTg[5]? = some (0, 5, 0, fsX6) from rfl) (zCX6 hKa.1.1.1)) (fun U hU hW => ⟨rfl, by rw [hU]; exact hh1.l0, zKb s U hW.alike hKa.1.1, by rw [hU]; exact ⟨htxj, fdF, fdT⟩⟩) hh1.2.2.1 hl3.1 (Nat.le_of_ble_eq_true rfl) (eX11_rule (28, .invokevirtual 213, 3) (List.mem_of_getElem? (i := 15) rfl)) (fun r5 s5 t5 lo5 g5 f5 l5 => ?_)
    obtain ⟨v5, q5, e5, z5, c5, -, -, -⟩ := f5
    cases q5
    rw [g5] at c5
    have hh5 : zh_ok D cA RTg ro sz H0 t5.heap lo5 := ⟨z5.1, z5.2.1, l5, z5.2.2.2⟩
    have kp5 := kp0.trans (c5.mono (ms' := kRc) (by decide))
    have mf5_4 := (c5.1 x 10 4 10 0 fsX11 hx10 rfl (by decide) (by decide)).trans fx4
    have mf5_3 := (c5.1 x 10 3 10 0 fsX11 hx10 rfl (by decide) (by decide)).trans fa4
    refine W.eq (g2 := F0 m 31 ls3 [.long v5]) rfl ?_
    refine lv_lstore_n hx hb (eX11_rule (31, .lstore_n 3, 1) (List.mem_of_getElem? (i := 16) rfl)) rfl hl3 (by decide) rfl (fun ls6 hl6 => ?_)
    refine lv_lload_n hx hb (eX11_rule (32, .lload_n 3, 1) (List.mem_of_getElem? (i := 17) rfl)) rfl (lv_at hl6 0 rfl) ?_
    refine ff_ldc2 (n := (-9223372036854775808)) hx hb hown h2 (clX11_ok 62 (-9223372036854775808) (List.mem_of_getElem? (i := 0) rfl)) (eX11_rule (33, .ldc2_w 62, 3) (List.mem_of_getElem? (i := 18) rfl)) (fun v7 e7 => ?_)
    refine ff_lcmp hx hb (eX11_rule (36, .lcmp, 1) (List.mem_of_getElem? (i := 19) rfl)) (fun v8 e8 => ?_)
    refine ff_if_ne hx hb (eX11_rule (37, .ifCond .ne 14, 3) (List.mem_of_getElem? (i := 20) rfl)) (tgt := 51) rfl (fun c9 => ?_) (fun c9 => ?_)
    · skip
      refine lv_lload_n hx hb (eX11_rule (51, .lload_n 3, 1) (List.mem_of_getElem? (i := 26) rfl)) rfl (lv_at hl6 0 rfl) ?_
      exact vx_ret (W.widen (k := 1) (n := 6) (Nat.zero_le _) (Nat.zero_le _) (W.lret hx hb hr (fun t ht hW => ⟨_, rfl, by rw [ht]; exact hh5.l0, by rw [ht]; exact kp5, Or.inr ⟨rfl, by omega, by omega, e5⟩⟩) hh5.2.2.1 (eX11_rule (52, .lreturn, 1) (List.mem_of_getElem? (i := 27) rfl))))
    · skip
      refine lv_aload_n hx hb (eX11_rule (40, .aload_n 2, 1) (List.mem_of_getElem? (i := 21) rfl)) rfl (lv_at hl6 1 rfl) ?_
      obtain ⟨a10, fa10, ra10⟩ := tz_ref (k := 5) (rr := 5) hh5 rzq (show RTg[9]? = some (0, 9, 0, fsX10) from rfl) rfl
      refine tz_get (r := 9) (k := 5) (t := (14, 0, 0)) hx hb hh5 rzq rfl rfl (hcl9 217 5 (14, 0, 0) (by decide) rfl).1 fa10 (eX11_rule (41, .getfield 217, 3) (List.mem_of_getElem? (i := 22) rfl)) ?_
      refine lv_aload_n hx hb (eX11_rule (44, .aload_n 0, 1) (List.mem_of_getElem? (i := 23) rfl)) rfl (lv_at hl6 2 rfl) ?_
      refine tz_get (r := 10) (k := 3) (t := (14, 0, 0)) hx hb hh5 hx10 rfl rfl (hcl10 31 3 (14, 0, 0) (by decide) rfl).1 mf5_3 (eX11_rule (45, .getfield 31, 3) (List.mem_of_getElem? (i := 24) rfl)) ?_
      refine tz_rowV (As := [.ref a4]) (st := []) (b := a10) (C := RX6) (Ts := gT) hx hb hml hown h2 (fun _ h => h) (hX6_copy l D cA ro sz H0 a10 a4 ra10 ra4) ⟨rfl, rfl⟩ ⟨by decide, by decide⟩ ⟨by decide, by decide⟩ (tb_4 97 rfl rfl) (tb_1 3 rfl rfl) (tb_4 94 rfl rfl) (tb_4 95 rfl rfl) (tb_4 96 rfl rfl) (show yX6_copy.cls ≠ "java/lang/invoke/MethodHandle" ∧ yX6_copy.cls ≠ "java/lang/invoke/VarHandle" ∧ (parseMethodDescriptor yX6_copy.desc).map (fun d => d.parameters.length) = some 1 by decide +kernel) zs_blind (zs_ob hh5 ra10 (show RTg[5]? = some (0, 5, 0, fsX6) from rfl) (zCX6 hKa.1.1.1)) (fun U hU hW => ⟨rfl, by rw [hU]; exact hh5.l0, zKb s U hW.alike hKa.1.1, by rw [hU]; exact trivial⟩) hh5.2.2.1 hl6.1 (Nat.le_of_ble_eq_true rfl) (eX11_rule (48, .invokevirtual 220, 3) (List.mem_of_getElem? (i := 25) rfl)) (fun r11 s11 t11 lo11 g11 f11 l11 => ?_)
      obtain ⟨q11, z11, c11⟩ := f11
      cases q11
      rw [g11] at c11
      have hh11 : zh_ok D cA RTg ro sz H0 t11.heap lo11 := ⟨z11.1, z11.2.1, l11, z11.2.2.2⟩
      have kp11 := kp5.trans (c11.mono (ms' := kRc) (by decide))
      refine W.eq (g2 := F0 m 51 ls6 []) rfl ?_
      refine lv_lload_n hx hb (eX11_rule (51, .lload_n 3, 1) (List.mem_of_getElem? (i := 26) rfl)) rfl (lv_at hl6 0 rfl) ?_
      exact vx_ret (W.widen (k := 1) (n := 6) (Nat.zero_le _) (Nat.zero_le _) (W.lret hx hb hr (fun t ht hW => ⟨_, rfl, by rw [ht]; exact hh11.l0, by rw [ht]; exact kp11, Or.inr ⟨rfl, by omega, by omega, e5⟩⟩) hh11.2.2.1 (eX11_rule (52, .lreturn, 1) (List.mem_of_getElem? (i := 27) rfl))))
set_option maxRecDepth 100000 in
set_option maxHeartbeats 4000000 in
theorem wR_rule (l : Launch) (hst : l.stackTraces = false) (D : va_G) (cA : Nat → ClassId) (ro : Nat → Option Nat) (sz : Nat) (H0 : Heap) (x : Nat) (p1 : Int32) (o : Nat) (L : List Int) (Z : List zE) (T O : List Int) (hx10 : ro x = some 10) (ho : ro o = some 42) : Met l yL_rule (Cond.codeWith yL_rule cL_rule 4 (some .int) [(0, 8, 11, 13)] :: gT) { frames := 7, cells := 1, slots := 6, locals := 164 } (zs_PX D cA ro sz H0 (fun H => jCZ D cA ro H x L Z ∧ jCK D cA ro H x T O) [.ref x, .int p1, .ref o]) (kr_QL D cA ro sz H0 o (spRu p1.toInt (Z.length : Int) T)) 1 6 (zy_fr sz) := by
  refine zw_ofW (cc := cL_rule) (maxL := 4) (ret := some .int) (by decide +kernel) rfl ?_
  intro p e s m args below meth c s1 B hml hv
  obtain ⟨rfl, hh, hKa, hBM, hJ⟩ := hv
  have hx := B.exec
  have hb := B.bytes
  have hr := B.returns
  have hlk := B.notSynchronized
  have hts0 := atoms_spec (ws := Cond.codeWith yL_rule cL_rule 4 (some .int) [(0, 8, 11, 13)] :: gT) B.pre
  have h2 : ∀ w ∈ gT, w.before ([.ref x, .int p1, .ref o] : List Value).toArray s = true := fun w hw => hts0 w (List.mem_cons_of_mem _ hw)
  have hown : s.vm.findClass RL = some m.cls := findClass_of_methodNamed B.named
  have hl := lv_entry [.ref x, .int p1, .ref o] (n := 4) (Nat.le_of_ble_eq_true rfl)
  rw [lg_entry_eq]
  generalize (lg_sl [.ref x, .int p1, .ref o] ++ List.replicate (4 - (lg_sl [.ref x, .int p1, .ref o]).length) Slot.unset).toArray = ls at hl ⊢
  refine lv_aload_n hx hb (eL_rule (0, .aload_n 2, 1) (List.mem_of_getElem? (i := 0) rfl)) rfl (lv_at hl 2 rfl) ?_
  refine ff_iconst hx hb (eL_rule (1, .iconst 0, 1) (List.mem_of_getElem? (i := 1) rfl)) (by decide) (by decide) (fun v1 e1 => ?_)
  refine lv_aload_n hx hb (eL_rule (2, .aload_n 0, 1) (List.mem_of_getElem? (i := 2) rfl)) rfl (lv_at hl 0 rfl) ?_
  refine lv_iload_n hx hb (eL_rule (3, .iload_n 1, 1) (List.mem_of_getElem? (i := 3) rfl)) rfl (lv_at hl 1 rfl) ?_
  refine zx_rowG (As := [.int p1]) (st := [.int v1, .ref o]) (b := x) (C := RX11) hx hb hml hown hts0 (hX11_rule l hst D cA ro sz H0 x p1 L Z T O hx10) ⟨rfl, rfl⟩ ⟨by decide, by decide⟩ ⟨by decide, by decide⟩ (tb_3 232 rfl rfl) (tb_1 1 rfl rfl) (tb_3 229 rfl rfl) (tb_3 230 rfl rfl) (tb_3 231 rfl rfl) rfl (show yX11_rule.cls ≠ "java/lang/invoke/MethodHandle" ∧ yX11_rule.cls ≠ "java/lang/invoke/VarHandle" ∧ (parseMethodDescriptor yX11_rule.desc).map (fun d => d.parameters.length) = some 1 by decide +kernel) zs_blindX (zw_ob hh hKa.1.1.1 hx10) (fun U hU hW => ⟨rfl, by rw [hU]; exact hh, hKa.warm hW, zBM_B.2 s U hW hU hBM, by rw [hU]; exact hJ⟩) (fun q hq => by cases hq) hl.1 (Nat.le_of_ble_eq_true rfl) (eL_rule (4, .invokevirtual 50, 3) (List.mem_of_getElem? (i := 4) rfl)) (fun v s0 t lo1 g0 g1 g2 => ?_) (fun q s0 t lo1 E ce g0 g1 g3 g4 g5 g2 => ?_)
  · obtain ⟨y9, q1, q5, q6, q8⟩ := g1
    cases q1
    rw [g0] at q6
    have hh1 : zh_ok D cA RTg ro sz H0 t.heap lo1 := ⟨q5.1, q5.2.1, g2, q5.2.2.2⟩
    have kp1 := q6
    refine W.eq (g2 := F0 m 7 ls [.long y9, .int v1, .ref o]) rfl ?_
    refine zw_out hx hb hh1 hKa.1.1.1 ho (by omega) (eL_rule (7, .lastore, 1) (List.mem_of_getElem? (i := 5) rfl)) (fun H9 lo9 hh9 hq9 _ hz9 => ?_)
    obtain ⟨z9, hz9, hz8⟩ := hz9
    have kg9 : zc_kept D RTg ro [(42, 0)] t.heap H9 := zk_setA (by decide) ho rfl hq9
    have kp9 := kp1.trans (kg9.mono (ms' := kRc) (by decide))
    refine lv_goto hx hb (eL_rule (8, .goto 6, 3) (List.mem_of_getElem? (i := 6) rfl)) (tgt := 14) rfl ?_
    refine ff_iconst hx hb (eL_rule (14, .iconst 0, 1) (List.mem_of_getElem? (i := 10) rfl)) (by decide) (by decide) (fun v2 e2 => ?_)
    exact W.zret hx hb hr rfl (fun t ht hW => ⟨_, z9, y9, rfl, by rw [ht]; exact hh9.l0, by rw [ht]; exact kp9, by rw [ht]; exact hz9, hz8, Or.inl ⟨by omega, q8⟩⟩) hh9.2.2.1 (eL_rule (15, .ireturn, 1) (List.mem_of_getElem? (i := 11) rfl))
  · obtain ⟨q4, k5, rfl, sp1⟩ := g1
    rw [g0] at k5
    have k4 : zc_kept D RTg ro kRc s.heap t.heap := k5.mono (fun _ h => by cases h)
    have hh1 : zh_ok D cA RTg ro sz H0 t.heap lo1 := ⟨q4.1, q4.2.1, g2, q4.2.2.2⟩
    obtain ⟨-, z1, oc1, yo1⟩ := zh_arr hh1 ho (show RTg[42]? = some (1, 1, 1, [(1, (-9223372036854775808), 9223372036854775807)]) from rfl)
    obtain ⟨r1, or1, -, -⟩ := yo1 0 (by decide)
    refine vx_catch (own := RL) (name := "java/lang/IllegalArgumentException") hown [] ⟨0, 8, 11, 13⟩ [] (vx_table (x := yL_rule) B (h2 _ (tb_3 228 rfl rfl))) (fun z hz => by cases hz) rfl (by decide) (h2 _ (tb_2 103 rfl rfl)) (va_Nw.use rfl (hKa.1.2.2.2.2.1 (eI, eI) (List.mem_of_getElem? (i := 0) rfl))) g3 g4 g5 ?_
    refine lv_astore_n hx hb (eL_rule (11, .astore_n 3, 1) (List.mem_of_getElem? (i := 7) rfl)) rfl hl (by decide) rfl (fun ls3 hl3 => ?_)
    refine ff_iconst hx hb (eL_rule (12, .iconst 1, 1) (List.mem_of_getElem? (i := 8) rfl)) (by decide) (by decide) (fun v4 e4 => ?_)
    exact W.zret hx hb hr rfl (fun t ht hW => ⟨_, z1, r1, rfl, by rw [ht]; exact hh1.l0, by rw [ht]; exact k4, by rw [ht]; exact oc1, or1, Or.inr ⟨by omega, by have g6 := sp1; rw [show (1 : Int) = _ from (by omega : (1 : Int) = v4.toInt)] at g6; exact g6⟩⟩) hh1.2.2.1 (eL_rule (13, .ireturn, 1) (List.mem_of_getElem? (i := 9) rfl))
