/-! p19: durations, scanning: static arrays by their contents -/
def zSQ (C n d : String) (ty : FieldType) (N : Nat) (P : Nat → Int → Prop) (sz : Nat) (H0 : Heap) (U : State) : Prop := ∃ (a : Nat) (cell : Cell), va_Z C n d (.ref a) (fun q => sz ≤ q) U H0 ∧ a < sz ∧ H0[a]? = some cell ∧ (∀ j, j < N → ∃ y : Int32, cell.slots[j]? = some (.int y) ∧ P j y.toInt) ∧ U.isArrayOf cell ty ∧ cell.vm ≠ .unknown ∧ N ≤ cell.slots.size ∧ cell.slots.size.toInt32 = Int32.ofNat N
theorem zSQ.alike {C n d : String} {ty : FieldType} {N : Nat} {P : Nat → Int → Prop} {sz : Nat} {H0 : Heap} {u U : State} (h : u.vm.Alike U.vm) (k : zSQ C n d ty N P sz H0 u) : zSQ C n d ty N P sz H0 U := by
  obtain ⟨a, cell, h1, h2, h3, h4, h5, h6⟩ := k
  exact ⟨a, cell, va_Z.moved h h1, h2, h3, h4, State.isArrayOf_alike h h5, h6⟩
def zLP (j : Nat) (y : Int) : Prop := y = leC (j : Int)
def zUP (_ : Nat) (_ : Int) : Prop := True
def zLQ (sz : Nat) (H0 : Heap) (U : State) : Prop := zSQ "MomentTexts$DurationText" "LETTERS" "[C" .char 6 zLP sz H0 U ∧ zSQ "MomentTexts$DurationText" "UNITS" "[I" .int 6 zUP sz H0 U
theorem zLQ.alike {sz : Nat} {H0 : Heap} {u U : State} (h : u.vm.Alike U.vm) (k : zLQ sz H0 u) : zLQ sz H0 U := ⟨k.1.alike h, k.2.alike h⟩
section ZSC
variable {D : va_G} {cA : Nat → ClassId} {ro : Nat → Option Nat} {sz : Nat} {H0 H : Heap} {J : Heap → Prop} {vs : List Value}
def zs_PC (D : va_G) (cA : Nat → ClassId) (ro : Nat → Option Nat) (sz : Nat) (H0 : Heap) (J : Heap → Prop) (vs : List Value) : Array Value → State → Prop := fun a U => a = vs.toArray ∧ zh_ok D cA RTg ro sz H0 U.heap [] ∧ (zKn D cA ro sz H0 U ∧ zBQ cA sz H0 U ∧ zLQ sz H0 U) ∧ J U.heap
theorem zs_blindC : FrameBlind (zs_PC D cA ro sz H0 J vs) := by
  intro a U g mk h
  obtain ⟨h1, h2, h3, h4⟩ := h
  exact ⟨h1, h2, ⟨zKb U (U.calling g mk a) (Vm.Alike.refl U.vm) h3.1, h3.2.1.alike (Vm.Alike.refl U.vm), h3.2.2.alike (Vm.Alike.refl U.vm)⟩, h4⟩
end ZSC
section ZSR
variable {p : Program} {l : Launch} {e : Env} {R : Room} {s : State} {m : MethodId} {args : Array Value} {below : List Frame} {meth : Method} {c : Code} {H : Heap} {locs : List Loc} {cells slots : Nat} {Q : State → Prop} {cc : ByteArray} {pc : Nat} {ls : Array Slot} {st : List Value} {D : va_G} {cA : Nat → ClassId} {ro : Nat → Option Nat} {sz : Nat} {H0 : Heap}
theorem zs_get {own C n d : String} {ty : FieldType} {N idx : Nat} {P : Nat → Int → Prop} (hx : p.tables.exec = Jvm.exec) (hb : c.code = cc) (hown : s.vm.findClass own = some m.cls) (hQ : zSQ C n d ty N P sz H0 s) (hh : zh_ok D cA RTg ro sz H0 H locs) (hl : (Cond.fieldLink own idx C n d).before args s = true) (hd : decode cc pc = .ok (.getstatic idx, 3)) (k : ∀ (a : Nat) (cell : Cell), H[a]? = some cell → (∀ j, j < N → ∃ y : Int32, cell.slots[j]? = some (.int y) ∧ P j y.toInt) → s.isArrayOf cell ty ∧ cell.vm ≠ .unknown ∧ N ≤ cell.slots.size ∧ cell.slots.size.toInt32 = Int32.ofNat N → W p l e R s m args below meth c H locs cells slots Q (F0 m (pc + 3) ls (.ref a :: st))) : W p l e R s m args below meth c H locs cells slots Q (F0 m pc ls st) := by
  obtain ⟨a, cell, h1, h2, h3, h4, h5⟩ := hQ
  exact zu_gs hx hb hown (va_Z.kept h1 (fun q _ g => hh.2.1 q (Nat.not_le.mp g))) hl hd (k a cell ((hh.2.1 a h2).trans h3) h4 h5)
theorem zs_len {a N : Nat} {cell : Cell} {ty : FieldType} (hx : p.tables.exec = Jvm.exec) (hb : c.code = cc) (hN : N ≤ 4096) (hc : H[a]? = some cell) (hA : s.isArrayOf cell ty ∧ cell.vm ≠ .unknown ∧ N ≤ cell.slots.size ∧ cell.slots.size.toInt32 = Int32.ofNat N) (hd : decode cc pc = .ok (.arraylength, 1)) (k : ∀ z : Int32, z.toInt = (N : Int) → W p l e R s m args below meth c H locs cells slots Q (F0 m (pc + 1) ls (.int z :: st))) : W p l e R s m args below meth c H locs cells slots Q (F0 m pc ls (.ref a :: st)) :=
  W.alen (n := nI N) hx hb hc hA.1 (hA.2.2.2.trans rfl) rfl rfl hd (k _ (nI_toInt (by omega)))
theorem zs_cald {a N : Nat} {cell : Cell} {P : Nat → Int → Prop} {j : Int32} {J : Nat} (hx : p.tables.exec = Jvm.exec) (hb : c.code = cc) (hc : H[a]? = some cell) (hz : ∀ j, j < N → ∃ y : Int32, cell.slots[j]? = some (.int y) ∧ P j y.toInt) (hA : s.isArrayOf cell .char ∧ cell.vm ≠ .unknown ∧ N ≤ cell.slots.size ∧ cell.slots.size.toInt32 = Int32.ofNat N) (hN : N ≤ 4096) (hJ : j.toInt = (J : Int)) (hJN : J < N) (hd : decode cc pc = .ok (.caload, 1)) (k : ∀ y : Int32, P J y.toInt → W p l e R s m args below meth c H locs cells slots Q (F0 m (pc + 1) ls (.int y :: st))) : W p l e R s m args below meth c H locs cells slots Q (F0 m pc ls (.int j :: .ref a :: st)) := by
  have hv : vp_in j N := vp_in_iff.mpr ⟨by omega, by omega⟩
  have ej : j.toNatClampNeg = J := by show j.toInt.toNat = J; omega
  obtain ⟨y, e1, e2⟩ := hz J hJN
  exact W.cald hx hb hc hA.1 hA.2.1 (fun g => hv (g.imp id (Nat.le_trans hA.2.2.1))) (by rw [ej]; exact e1) rfl rfl hd (k y e2)
theorem zs_iald {a N : Nat} {cell : Cell} {P : Nat → Int → Prop} {j : Int32} {J : Nat} (hx : p.tables.exec = Jvm.exec) (hb : c.code = cc) (hc : H[a]? = some cell) (hz : ∀ j, j < N → ∃ y : Int32, cell.slots[j]? = some (.int y) ∧ P j y.toInt) (hA : s.isArrayOf cell .int ∧ cell.vm ≠ .unknown ∧ N ≤ cell.slots.size ∧ cell.slots.size.toInt32 = Int32.ofNat N) (hN : N ≤ 4096) (hJ : j.toInt = (J : Int)) (hJN : J < N) (hd : decode cc pc = .ok (.iaload, 1)) (k : ∀ y : Int32, P J y.toInt → W p l e R s m args below meth c H locs cells slots Q (F0 m (pc + 1) ls (.int y :: st))) : W p l e R s m args below meth c H locs cells slots Q (F0 m pc ls (.int j :: .ref a :: st)) := by
  have hv : vp_in j N := vp_in_iff.mpr ⟨by omega, by omega⟩
  have ej : j.toNatClampNeg = J := by show j.toInt.toNat = J; omega
  obtain ⟨y, e1, e2⟩ := hz J hJN
  exact W.iald hx hb hc hA.1 hA.2.1 (fun g => hv (g.imp id (Nat.le_trans hA.2.2.1))) (by rw [ej]; exact e1) rfl rfl hd (k y e2)
end ZSR
def jE (D : va_G) (H : Heap) (du : Nat) (en : Int) : Prop := ∃ ev : Int32, zh_f D H du 2 4 = .int ev ∧ ev.toInt = en
theorem jE.kept {D : va_G} {ro : Nat → Option Nat} {H H' : Heap} {ms : List (Nat × Nat)} {du : Nat} {en : Int} (hr : ro du = some 2) (h : zc_kept D RTg ro ms H H') (hm : (2, 4) ∉ ms) (j : jE D H du en) : jE D H' du en := by
  obtain ⟨ev, e1, e2⟩ := j
  exact ⟨ev, (h.1 du 2 4 2 0 fsX3 hr rfl (by decide) hm).trans e1, e2⟩
def adM : List (Nat × Nat) := [(0, 2), (0, 3), (0, 4), (2, 0), (2, 1), (2, 2), (2, 3)]
def duM : List (Nat × Nat) := [(0, 2), (0, 3), (0, 4), (2, 0), (2, 1), (2, 2), (2, 3), (2, 4)]
theorem lk_nn {T : List Int} {c : Int} (s : uS) (h : 0 ≤ c) : 0 ≤ c := h
theorem leC_nn (k : Int) : 0 ≤ leC k := by unfold leC; (repeat' split) <;> decide
set_option maxRecDepth 100000 in
set_option maxHeartbeats 4000000 in
theorem hX3_add (l : Launch) (D : va_G) (cA : Nat → ClassId) (ro : Nat → Option Nat) (sz : Nat) (H0 : Heap) (du : Nat) (tx : Nat) (rk : Int32) (vl : Int32) (pv : Int32) (pa : Int32) (T : List Int) (sg : uS) (en : Int) (hdu : ro du = some 2) (htx : ro tx = some 0) (hrk : 0 ≤ rk.toInt ∧ rk.toInt ≤ 5) : Met l yX3_add (gW yX3_add cX3_add 8 none) { frames := 1, cells := 0, slots := 0, locals := 21 } (zs_PC D cA ro sz H0 (fun H => jU D cA ro H tx T sg ∧ jE D H du en) [.ref du, .ref tx, .int rk, .int vl, .int pv, .int pa]) (fun _ st oc t => oc = .returned none ∧ zh_ok D cA RTg ro sz H0 t.heap [] ∧ zc_kept D RTg ro adM st.heap t.heap ∧ jU D cA ro t.heap tx T (if rk.toInt < 2 ∧ pv.toInt ≠ 0 then blF pa.toInt sg else sg) ∧ jE D t.heap du en) 0 0 (zy_fr sz) := by
  refine zy_ofW (cc := cX3_add) (maxL := 8) (ret := none) (by decide +kernel) rfl ?_
  intro p e s m args below meth c s1 B hml hv
  obtain ⟨rfl, hh, ⟨hKn, hBQ, hLQ⟩, hJ⟩ := hv
  have hx := B.exec
  have hb := B.bytes
  have hr := B.returns
  have hlk := B.notSynchronized
  have hts0 := atoms_spec (ws := gW yX3_add cX3_add 8 none) B.pre
  have h2 : ∀ w ∈ gT, w.before ([.ref du, .ref tx, .int rk, .int vl, .int pv, .int pa] : List Value).toArray s = true := fun w hw => hts0 w (List.mem_cons_of_mem _ hw)
  have hown : s.vm.findClass RX3 = some m.cls := findClass_of_methodNamed B.named
  have hl := lv_entry [.ref du, .ref tx, .int rk, .int vl, .int pv, .int pa] (n := 8) (Nat.le_of_ble_eq_true rfl)
  rw [lg_entry_eq]
  generalize (lg_sl [.ref du, .ref tx, .int rk, .int vl, .int pv, .int pa] ++ List.replicate (8 - (lg_sl [.ref du, .ref tx, .int rk, .int vl, .int pv, .int pa]).length) Slot.unset).toArray = ls at hl ⊢
  have b_rk := zn_i32 rk
  have b_vl := zn_i32 vl
  have b_pv := zn_i32 pv
  have b_pa := zn_i32 pa
  have hD := zD_all h2 hKn.1
  have hcl0 := fun (idx k : Nat) (t : zt_T) (h : (idx, 0, k) ∈ gfX3) (hk : fsX0[k]? = some t) => zf_clause (ro := ro) (ms := adM) h2 hown hKn.1 gfX3_ok (by decide +kernel) idx 0 k 0 0 fsX0 t h rfl hk
  have hcl2 := fun (idx k : Nat) (t : zt_T) (h : (idx, 2, k) ∈ gfX3) (hk : fsX3[k]? = some t) => zf_clause (ro := ro) (ms := adM) h2 hown hKn.1 gfX3_ok (by decide +kernel) idx 2 k 2 0 fsX3 t h rfl hk
  have kp0 : zc_kept D RTg ro adM s.heap s.heap := zc_kept.refl
  obtain ⟨hJ, je0⟩ := hJ
  obtain ⟨hjt, ⟨av, bv, wv, f2, f3, f4, hav, hbv, hwv⟩, hu⟩ := id hJ
  obtain ⟨tb, n, z, f0, r0, f1, hn, hc, hz⟩ := id hjt
  obtain ⟨n9, g9, n1, n2⟩ := zh_fT (k := 1) (t := (0, 0, 120)) hh htx (show RTg[0]? = some (0, 0, 0, fsX0) from rfl) rfl
  cases f1.symm.trans g9
  dsimp only at n1 n2
  clear g9
  obtain ⟨-, z9, c9, hy9⟩ := zh_arr hh r0 (show RTg[12]? = some (1, 2, 120, [(0, (-128), 127)]) from rfl)
  have hy : ∀ i, i < 120 → zt_ok ro (z i) (0, (-128), 127) := zs_arr (hc.symm.trans c9) hy9
  obtain ⟨u1, u2, u3⟩ := id hu
  refine lv_iload_n hx hb (eX3_add (0, .iload_n 2, 1) (List.mem_of_getElem? (i := 0) rfl)) rfl (lv_at hl 2 rfl) ?_
  refine ff_if_lt hx hb (eX3_add (1, .ifCond .lt 11, 3) (List.mem_of_getElem? (i := 1) rfl)) (tgt := 12) rfl (fun c1 => (by exfalso; omega)) (fun c1 => ?_)
  refine lv_iload_n hx hb (eX3_add (4, .iload_n 2, 1) (List.mem_of_getElem? (i := 2) rfl)) rfl (lv_at hl 2 rfl) ?_
  refine zs_get hx hb hown hLQ.2 hh (h2 _ (tb_5 165 rfl rfl)) (eX3_add (5, .getstatic 71, 3) (List.mem_of_getElem? (i := 3) rfl)) (fun a2 cl2 ac2 az2 aA2 => ?_)
  refine zs_len hx hb (by decide) ac2 aA2 (eX3_add (8, .arraylength, 1) (List.mem_of_getElem? (i := 4) rfl)) (fun v3 e3 => ?_)
  refine ff_icmp_lt hx hb (eX3_add (9, .if_icmp .lt 4, 3) (List.mem_of_getElem? (i := 5) rfl)) (tgt := 13) rfl (fun c4 => ?_) (fun c4 => (by exfalso; omega))
  refine zs_get hx hb hown hLQ.2 hh (h2 _ (tb_5 165 rfl rfl)) (eX3_add (13, .getstatic 71, 3) (List.mem_of_getElem? (i := 7) rfl)) (fun a5 cl5 ac5 az5 aA5 => ?_)
  refine lv_iload_n hx hb (eX3_add (16, .iload_n 2, 1) (List.mem_of_getElem? (i := 8) rfl)) rfl (lv_at hl 2 rfl) ?_
  refine zs_iald (J := rk.toInt.toNat) hx hb ac5 az5 aA5 (by decide) (by omega) (by omega) (eX3_add (17, .iaload, 1) (List.mem_of_getElem? (i := 9) rfl)) (fun v6 e6 => ?_)
  refine ff_i2l hx hb (eX3_add (18, .i2l, 1) (List.mem_of_getElem? (i := 10) rfl)) (fun v7 e7 => ?_)
  refine lv_lstore hx hb (eX3_add (19, .lstore 6, 2) (List.mem_of_getElem? (i := 11) rfl)) hl (by decide) rfl (fun ls8 hl8 => ?_)
  refine lv_iload_n hx hb (eX3_add (21, .iload_n 2, 1) (List.mem_of_getElem? (i := 12) rfl)) rfl (lv_at hl8 3 rfl) ?_
  refine ff_iconst hx hb (eX3_add (22, .iconst 2, 1) (List.mem_of_getElem? (i := 13) rfl)) (by decide) (by decide) (fun v9 e9 => ?_)
  refine ff_icmp_ge hx hb (eX3_add (23, .if_icmp .ge 30, 3) (List.mem_of_getElem? (i := 14) rfl)) (tgt := 53) rfl (fun c10 => ?_) (fun c10 => ?_)
  · skip
    have d11 : ¬ (rk.toInt < 2 ∧ pv.toInt ≠ 0) := by omega
    refine lv_iload_n hx hb (eX3_add (53, .iload_n 2, 1) (List.mem_of_getElem? (i := 31) rfl)) rfl (lv_at hl8 3 rfl) ?_
    refine ff_iconst hx hb (eX3_add (54, .iconst 2, 1) (List.mem_of_getElem? (i := 32) rfl)) (by decide) (by decide) (fun v12 e12 => ?_)
    refine ff_icmp_ne hx hb (eX3_add (55, .if_icmp .ne 12, 3) (List.mem_of_getElem? (i := 33) rfl)) (tgt := 67) rfl (fun c13 => ?_) (fun c13 => ?_)
    · skip
      refine lv_aload_n hx hb (eX3_add (67, .aload_n 0, 1) (List.mem_of_getElem? (i := 39) rfl)) rfl (lv_at hl8 1 rfl) ?_
      refine lv_dup hx hb (eX3_add (68, .dup, 1) (List.mem_of_getElem? (i := 40) rfl)) rfl ?_
      obtain ⟨v14, fa14, e14, eb14⟩ := zh_fT (k := 2) (t := (1, (-9223372036854775808), 9223372036854775807)) hh hdu (show RTg[2]? = some (0, 2, 0, fsX3) from rfl) rfl
      dsimp only at e14 eb14
      refine tz_get (r := 2) (k := 2) (t := (1, (-9223372036854775808), 9223372036854775807)) hx hb hh hdu rfl rfl (hcl2 18 2 (1, (-9223372036854775808), 9223372036854775807) (by decide) rfl).1 fa14 (eX3_add (69, .getfield 18, 3) (List.mem_of_getElem? (i := 41) rfl)) ?_
      refine lv_iload_n hx hb (eX3_add (72, .iload_n 3, 1) (List.mem_of_getElem? (i := 42) rfl)) rfl (lv_at hl8 4 rfl) ?_
      refine ff_i2l hx hb (eX3_add (73, .i2l, 1) (List.mem_of_getElem? (i := 43) rfl)) (fun v15 e15 => ?_)
      refine lv_lload hx hb (eX3_add (74, .lload 6, 2) (List.mem_of_getElem? (i := 44) rfl)) (lv_at hl8 0 rfl) ?_
      refine lv_lmul hx hb (eX3_add (76, .lmul, 1) (List.mem_of_getElem? (i := 45) rfl)) ?_
      generalize v15 * v7 = v16
      refine lv_ladd hx hb (eX3_add (77, .ladd, 1) (List.mem_of_getElem? (i := 46) rfl)) ?_
      generalize v14 + v16 = v17
      refine tz_put (r := 2) (k := 2) (t := (1, (-9223372036854775808), 9223372036854775807)) hx hb hD hh hdu rfl rfl ((hcl2 18 2 (1, (-9223372036854775808), 9223372036854775807) (by decide) rfl).2 (by decide)) (tz_l (zn_i64 _).1 (zn_i64 _).2) (eX3_add (78, .putfield 18, 3) (List.mem_of_getElem? (i := 47) rfl)) (fun H18 lo18 hh18 hf18 hk18 _ hq18 => ?_)
      have mf18_tx_0 := (hk18.1 tx 0 0 0 0 fsX0 htx rfl (by decide) (by decide)).trans f0
      have mf18_tx_1 := (hk18.1 tx 0 1 0 0 fsX0 htx rfl (by decide) (by decide)).trans f1
      have mf18_tx_2 := (hk18.1 tx 0 2 0 0 fsX0 htx rfl (by decide) (by decide)).trans f2
      have mf18_tx_3 := (hk18.1 tx 0 3 0 0 fsX0 htx rfl (by decide) (by decide)).trans f3
      have mf18_tx_4 := (hk18.1 tx 0 4 0 0 fsX0 htx rfl (by decide) (by decide)).trans f4
      have mc18_tb := (hk18.2 tb 12 0 2 120 _ r0 rfl (by decide)).trans hc
      have kp18 := kp0.trans (hk18.mono (ms' := adM) (fun x hx => by cases List.mem_singleton.mp hx; decide))
      have jm18 := (hJ).kept htx hk18 (by decide)
      have je18 := je0.kept hdu hk18 (by decide)
      refine lv_aload_n hx hb (eX3_add (81, .aload_n 0, 1) (List.mem_of_getElem? (i := 48) rfl)) rfl (lv_at hl8 1 rfl) ?_
      refine lv_dup hx hb (eX3_add (82, .dup, 1) (List.mem_of_getElem? (i := 49) rfl)) rfl ?_
      refine tz_get (r := 2) (k := 2) (t := (1, (-9223372036854775808), 9223372036854775807)) hx hb hh18 hdu rfl rfl (hcl2 18 2 (1, (-9223372036854775808), 9223372036854775807) (by decide) rfl).1 hf18 (eX3_add (83, .getfield 18, 3) (List.mem_of_getElem? (i := 50) rfl)) ?_
      refine lv_iload hx hb (eX3_add (86, .iload 4, 2) (List.mem_of_getElem? (i := 51) rfl)) (lv_at hl8 5 rfl) ?_
      refine ff_i2l hx hb (eX3_add (88, .i2l, 1) (List.mem_of_getElem? (i := 52) rfl)) (fun v19 e19 => ?_)
      refine lv_lload hx hb (eX3_add (89, .lload 6, 2) (List.mem_of_getElem? (i := 53) rfl)) (lv_at hl8 0 rfl) ?_
      refine lv_lmul hx hb (eX3_add (91, .lmul, 1) (List.mem_of_getElem? (i := 54) rfl)) ?_
      generalize v19 * v7 = v20
      refine ff_ldc2 (n := 1000000000) hx hb hown h2 (clX3_ok 79 1000000000 (List.mem_of_getElem? (i := 1) rfl)) (eX3_add (92, .ldc2_w 79, 3) (List.mem_of_getElem? (i := 55) rfl)) (fun v21 e21 => ?_)
      refine lv_ldiv hx hb (eX3_add (95, .ldiv, 1) (List.mem_of_getElem? (i := 56) rfl)) (fun q9 => by rw [q9] at e21; exact absurd e21 (by decide)) ?_
      generalize v20 / v21 = v22
      refine lv_ladd hx hb (eX3_add (96, .ladd, 1) (List.mem_of_getElem? (i := 57) rfl)) ?_
      generalize v17 + v22 = v23
      refine tz_put (r := 2) (k := 2) (t := (1, (-9223372036854775808), 9223372036854775807)) hx hb hD hh18 hdu rfl rfl ((hcl2 18 2 (1, (-9223372036854775808), 9223372036854775807) (by decide) rfl).2 (by decide)) (tz_l (zn_i64 _).1 (zn_i64 _).2) (eX3_add (97, .putfield 18, 3) (List.mem_of_getElem? (i := 58) rfl)) (fun H24 lo24 hh24 hf24 hk24 _ hq24 => ?_)
      have mf24_tx_0 := (hk24.1 tx 0 0 0 0 fsX0 htx rfl (by decide) (by decide)).trans mf18_tx_0
      have mf24_tx_1 := (hk24.1 tx 0 1 0 0 fsX0 htx rfl (by decide) (by decide)).trans mf18_tx_1
      have mf24_tx_2 := (hk24.1 tx 0 2 0 0 fsX0 htx rfl (by decide) (by decide)).trans mf18_tx_2
      have mf24_tx_3 := (hk24.1 tx 0 3 0 0 fsX0 htx rfl (by decide) (by decide)).trans mf18_tx_3
      have mf24_tx_4 := (hk24.1 tx 0 4 0 0 fsX0 htx rfl (by decide) (by decide)).trans mf18_tx_4
      have mc24_tb := (hk24.2 tb 12 0 2 120 _ r0 rfl (by decide)).trans mc18_tb
      have kp24 := kp18.trans (hk24.mono (ms' := adM) (fun x hx => by cases List.mem_singleton.mp hx; decide))
      have jm24 := (jm18).kept htx hk24 (by decide)
      have je24 := je18.kept hdu hk24 (by decide)
      refine lv_aload_n hx hb (eX3_add (100, .aload_n 0, 1) (List.mem_of_getElem? (i := 59) rfl)) rfl (lv_at hl8 1 rfl) ?_
      refine lv_iload hx hb (eX3_add (101, .iload 4, 2) (List.mem_of_getElem? (i := 60) rfl)) (lv_at hl8 5 rfl) ?_
      refine ff_i2l hx hb (eX3_add (103, .i2l, 1) (List.mem_of_getElem? (i := 61) rfl)) (fun v25 e25 => ?_)
      refine lv_lload hx hb (eX3_add (104, .lload 6, 2) (List.mem_of_getElem? (i := 62) rfl)) (lv_at hl8 0 rfl) ?_
      refine lv_lmul hx hb (eX3_add (106, .lmul, 1) (List.mem_of_getElem? (i := 63) rfl)) ?_
      generalize v25 * v7 = v26
      refine ff_ldc2 (n := 1000000000) hx hb hown h2 (clX3_ok 79 1000000000 (List.mem_of_getElem? (i := 1) rfl)) (eX3_add (107, .ldc2_w 79, 3) (List.mem_of_getElem? (i := 64) rfl)) (fun v27 e27 => ?_)
      refine lv_lrem hx hb (eX3_add (110, .lrem, 1) (List.mem_of_getElem? (i := 65) rfl)) (fun q9 => by rw [q9] at e27; exact absurd e27 (by decide)) ?_
      generalize v26 % v27 = v28
      refine tz_put (r := 2) (k := 3) (t := (1, (-9223372036854775808), 9223372036854775807)) hx hb hD hh24 hdu rfl rfl ((hcl2 21 3 (1, (-9223372036854775808), 9223372036854775807) (by decide) rfl).2 (by decide)) (tz_l (zn_i64 _).1 (zn_i64 _).2) (eX3_add (111, .putfield 21, 3) (List.mem_of_getElem? (i := 66) rfl)) (fun H29 lo29 hh29 hf29 hk29 _ hq29 => ?_)
      have mf29_tx_0 := (hk29.1 tx 0 0 0 0 fsX0 htx rfl (by decide) (by decide)).trans mf24_tx_0
      have mf29_tx_1 := (hk29.1 tx 0 1 0 0 fsX0 htx rfl (by decide) (by decide)).trans mf24_tx_1
      have mf29_tx_2 := (hk29.1 tx 0 2 0 0 fsX0 htx rfl (by decide) (by decide)).trans mf24_tx_2
      have mf29_tx_3 := (hk29.1 tx 0 3 0 0 fsX0 htx rfl (by decide) (by decide)).trans mf24_tx_3
      have mf29_tx_4 := (hk29.1 tx 0 4 0 0 fsX0 htx rfl (by decide) (by decide)).trans mf24_tx_4
      have mf29_du_2 := (hk29.1 du 2 2 2 0 fsX3 hdu rfl (by decide) (by decide)).trans hf24
      have mc29_tb := (hk29.2 tb 12 0 2 120 _ r0 rfl (by decide)).trans mc24_tb
      have kp29 := kp24.trans (hk29.mono (ms' := adM) (fun x hx => by cases List.mem_singleton.mp hx; decide))
      have jm29 := (jm24).kept htx hk29 (by decide)
      have je29 := je24.kept hdu hk29 (by decide)
      have hfin : (if rk.toInt < 2 ∧ pv.toInt ≠ 0 then blF pa.toInt sg else sg) = sg := by first | (simp only [if_neg d11, up_eq]; done) | (simp only [if_neg d11, up_eq] <;> rfl) | rfl
      exact W.vret hx hb hr (fun t ht hW => ⟨rfl, by rw [ht]; exact hh29.l0, by rw [ht]; exact kp29, by rw [ht, hfin]; exact jm29, by rw [ht]; exact je29⟩) hh29.2.2.1 (eX3_add (114, .return_, 1) (List.mem_of_getElem? (i := 67) rfl))
    · skip
      refine lv_aload_n hx hb (eX3_add (58, .aload_n 0, 1) (List.mem_of_getElem? (i := 34) rfl)) rfl (lv_at hl8 1 rfl) ?_
      refine lv_iload_n hx hb (eX3_add (59, .iload_n 3, 1) (List.mem_of_getElem? (i := 35) rfl)) rfl (lv_at hl8 4 rfl) ?_
      refine ff_i2l hx hb (eX3_add (60, .i2l, 1) (List.mem_of_getElem? (i := 36) rfl)) (fun v30 e30 => ?_)
      refine tz_put (r := 2) (k := 1) (t := (1, (-9223372036854775808), 9223372036854775807)) hx hb hD hh hdu rfl rfl ((hcl2 15 1 (1, (-9223372036854775808), 9223372036854775807) (by decide) rfl).2 (by decide)) (tz_l (zn_i64 _).1 (zn_i64 _).2) (eX3_add (61, .putfield 15, 3) (List.mem_of_getElem? (i := 37) rfl)) (fun H31 lo31 hh31 hf31 hk31 _ hq31 => ?_)
      have mf31_tx_0 := (hk31.1 tx 0 0 0 0 fsX0 htx rfl (by decide) (by decide)).trans f0
      have mf31_tx_1 := (hk31.1 tx 0 1 0 0 fsX0 htx rfl (by decide) (by decide)).trans f1
      have mf31_tx_2 := (hk31.1 tx 0 2 0 0 fsX0 htx rfl (by decide) (by decide)).trans f2
      have mf31_tx_3 := (hk31.1 tx 0 3 0 0 fsX0 htx rfl (by decide) (by decide)).trans f3
      have mf31_tx_4 := (hk31.1 tx 0 4 0 0 fsX0 htx rfl (by decide) (by decide)).trans f4
      have mc31_tb := (hk31.2 tb 12 0 2 120 _ r0 rfl (by decide)).trans hc
      have kp31 := kp0.trans (hk31.mono (ms' := adM) (fun x hx => by cases List.mem_singleton.mp hx; decide))
      have jm31 := (hJ).kept htx hk31 (by decide)
      have je31 := je0.kept hdu hk31 (by decide)
      refine lv_goto hx hb (eX3_add (64, .goto 17, 3) (List.mem_of_getElem? (i := 38) rfl)) (tgt := 81) rfl ?_
      refine lv_aload_n hx hb (eX3_add (81, .aload_n 0, 1) (List.mem_of_getElem? (i := 48) rfl)) rfl (lv_at hl8 1 rfl) ?_
      refine lv_dup hx hb (eX3_add (82, .dup, 1) (List.mem_of_getElem? (i := 49) rfl)) rfl ?_
      obtain ⟨v32, fa32, e32, eb32⟩ := zh_fT (k := 2) (t := (1, (-9223372036854775808), 9223372036854775807)) hh31 hdu (show RTg[2]? = some (0, 2, 0, fsX3) from rfl) rfl
      dsimp only at e32 eb32
      refine tz_get (r := 2) (k := 2) (t := (1, (-9223372036854775808), 9223372036854775807)) hx hb hh31 hdu rfl rfl (hcl2 18 2 (1, (-9223372036854775808), 9223372036854775807) (by decide) rfl).1 fa32 (eX3_add (83, .getfield 18, 3) (List.mem_of_getElem? (i := 50) rfl)) ?_
      refine lv_iload hx hb (eX3_add (86, .iload 4, 2) (List.mem_of_getElem? (i := 51) rfl)) (lv_at hl8 5 rfl) ?_
      refine ff_i2l hx hb (eX3_add (88, .i2l, 1) (List.mem_of_getElem? (i := 52) rfl)) (fun v33 e33 => ?_)
      refine lv_lload hx hb (eX3_add (89, .lload 6, 2) (List.mem_of_getElem? (i := 53) rfl)) (lv_at hl8 0 rfl) ?_
      refine lv_lmul hx hb (eX3_add (91, .lmul, 1) (List.mem_of_getElem? (i := 54) rfl)) ?_
      generalize v33 * v7 = v34
      refine ff_ldc2 (n := 1000000000) hx hb hown h2 (clX3_ok 79 1000000000 (List.mem_of_getElem? (i := 1) rfl)) (eX3_add (92, .ldc2_w 79, 3) (List.mem_of_getElem? (i := 55) rfl)) (fun v35 e35 => ?_)
      refine lv_ldiv hx hb (eX3_add (95, .ldiv, 1) (List.mem_of_getElem? (i := 56) rfl)) (fun q9 => by rw [q9] at e35; exact absurd e35 (by decide)) ?_
      generalize v34 / v35 = v36
      refine lv_ladd hx hb (eX3_add (96, .ladd, 1) (List.mem_of_getElem? (i := 57) rfl)) ?_
      generalize v32 + v36 = v37
      refine tz_put (r := 2) (k := 2) (t := (1, (-9223372036854775808), 9223372036854775807)) hx hb hD hh31 hdu rfl rfl ((hcl2 18 2 (1, (-9223372036854775808), 9223372036854775807) (by decide) rfl).2 (by decide)) (tz_l (zn_i64 _).1 (zn_i64 _).2) (eX3_add (97, .putfield 18, 3) (List.mem_of_getElem? (i := 58) rfl)) (fun H38 lo38 hh38 hf38 hk38 _ hq38 => ?_)
      have mf38_tx_0 := (hk38.1 tx 0 0 0 0 fsX0 htx rfl (by decide) (by decide)).trans mf31_tx_0
      have mf38_tx_1 := (hk38.1 tx 0 1 0 0 fsX0 htx rfl (by decide) (by decide)).trans mf31_tx_1
      have mf38_tx_2 := (hk38.1 tx 0 2 0 0 fsX0 htx rfl (by decide) (by decide)).trans mf31_tx_2
      have mf38_tx_3 := (hk38.1 tx 0 3 0 0 fsX0 htx rfl (by decide) (by decide)).trans mf31_tx_3
      have mf38_tx_4 := (hk38.1 tx 0 4 0 0 fsX0 htx rfl (by decide) (by decide)).trans mf31_tx_4
      have mf38_du_1 := (hk38.1 du 2 1 2 0 fsX3 hdu rfl (by decide) (by decide)).trans hf31
      have mc38_tb := (hk38.2 tb 12 0 2 120 _ r0 rfl (by decide)).trans mc31_tb
      have kp38 := kp31.trans (hk38.mono (ms' := adM) (fun x hx => by cases List.mem_singleton.mp hx; decide))
      have jm38 := (jm31).kept htx hk38 (by decide)
      have je38 := je31.kept hdu hk38 (by decide)
      refine lv_aload_n hx hb (eX3_add (100, .aload_n 0, 1) (List.mem_of_getElem? (i := 59) rfl)) rfl (lv_at hl8 1 rfl) ?_
      refine lv_iload hx hb (eX3_add (101, .iload 4, 2) (List.mem_of_getElem? (i := 60) rfl)) (lv_at hl8 5 rfl) ?_
      refine ff_i2l hx hb (eX3_add (103, .i2l, 1) (List.mem_of_getElem? (i := 61) rfl)) (fun v39 e39 => ?_)
      refine lv_lload hx hb (eX3_add (104, .lload 6, 2) (List.mem_of_getElem? (i := 62) rfl)) (lv_at hl8 0 rfl) ?_
      refine lv_lmul hx hb (eX3_add (106, .lmul, 1) (List.mem_of_getElem? (i := 63) rfl)) ?_
      generalize v39 * v7 = v40
      refine ff_ldc2 (n := 1000000000) hx hb hown h2 (clX3_ok 79 1000000000 (List.mem_of_getElem? (i := 1) rfl)) (eX3_add (107, .ldc2_w 79, 3) (List.mem_of_getElem? (i := 64) rfl)) (fun v41 e41 => ?_)
      refine lv_lrem hx hb (eX3_add (110, .lrem, 1) (List.mem_of_getElem? (i := 65) rfl)) (fun q9 => by rw [q9] at e41; exact absurd e41 (by decide)) ?_
      generalize v40 % v41 = v42
      refine tz_put (r := 2) (k := 3) (t := (1, (-9223372036854775808), 9223372036854775807)) hx hb hD hh38 hdu rfl rfl ((hcl2 21 3 (1, (-9223372036854775808), 9223372036854775807) (by decide) rfl).2 (by decide)) (tz_l (zn_i64 _).1 (zn_i64 _).2) (eX3_add (111, .putfield 21, 3) (List.mem_of_getElem? (i := 66) rfl)) (fun H43 lo43 hh43 hf43 hk43 _ hq43 => ?_)
      have mf43_tx_0 := (hk43.1 tx 0 0 0 0 fsX0 htx rfl (by decide) (by decide)).trans mf38_tx_0
      have mf43_tx_1 := (hk43.1 tx 0 1 0 0 fsX0 htx rfl (by decide) (by decide)).trans mf38_tx_1
      have mf43_tx_2 := (hk43.1 tx 0 2 0 0 fsX0 htx rfl (by decide) (by decide)).trans mf38_tx_2
      have mf43_tx_3 := (hk43.1 tx 0 3 0 0 fsX0 htx rfl (by decide) (by decide)).trans mf38_tx_3
      have mf43_tx_4 := (hk43.1 tx 0 4 0 0 fsX0 htx rfl (by decide) (by decide)).trans mf38_tx_4
      have mf43_du_1 := (hk43.1 du 2 1 2 0 fsX3 hdu rfl (by decide) (by decide)).trans mf38_du_1
      have mf43_du_2 := (hk43.1 du 2 2 2 0 fsX3 hdu rfl (by decide) (by decide)).trans hf38
      have mc43_tb := (hk43.2 tb 12 0 2 120 _ r0 rfl (by decide)).trans mc38_tb
      have kp43 := kp38.trans (hk43.mono (ms' := adM) (fun x hx => by cases List.mem_singleton.mp hx; decide))
      have jm43 := (jm38).kept htx hk43 (by decide)
      have je43 := je38.kept hdu hk43 (by decide)
      have hfin : (if rk.toInt < 2 ∧ pv.toInt ≠ 0 then blF pa.toInt sg else sg) = sg := by first | (simp only [if_neg d11, up_eq]; done) | (simp only [if_neg d11, up_eq] <;> rfl) | rfl
      exact W.vret hx hb hr (fun t ht hW => ⟨rfl, by rw [ht]; exact hh43.l0, by rw [ht]; exact kp43, by rw [ht, hfin]; exact jm43, by rw [ht]; exact je43⟩) hh43.2.2.1 (eX3_add (114, .return_, 1) (List.mem_of_getElem? (i := 67) rfl))
  · skip
    refine lv_aload_n hx hb (eX3_add (26, .aload_n 0, 1) (List.mem_of_getElem? (i := 15) rfl)) rfl (lv_at hl8 1 rfl) ?_
    refine lv_dup hx hb (eX3_add (27, .dup, 1) (List.mem_of_getElem? (i := 16) rfl)) rfl ?_
    obtain ⟨v44, fa44, e44, eb44⟩ := zh_fT (k := 0) (t := (1, (-9223372036854775808), 9223372036854775807)) hh hdu (show RTg[2]? = some (0, 2, 0, fsX3) from rfl) rfl
    dsimp only at e44 eb44
    refine tz_get (r := 2) (k := 0) (t := (1, (-9223372036854775808), 9223372036854775807)) hx hb hh hdu rfl rfl (hcl2 9 0 (1, (-9223372036854775808), 9223372036854775807) (by decide) rfl).1 fa44 (eX3_add (28, .getfield 9, 3) (List.mem_of_getElem? (i := 17) rfl)) ?_
    refine lv_iload_n hx hb (eX3_add (31, .iload_n 3, 1) (List.mem_of_getElem? (i := 18) rfl)) rfl (lv_at hl8 4 rfl) ?_
    refine ff_i2l hx hb (eX3_add (32, .i2l, 1) (List.mem_of_getElem? (i := 19) rfl)) (fun v45 e45 => ?_)
    refine lv_lload hx hb (eX3_add (33, .lload 6, 2) (List.mem_of_getElem? (i := 20) rfl)) (lv_at hl8 0 rfl) ?_
    refine lv_lmul hx hb (eX3_add (35, .lmul, 1) (List.mem_of_getElem? (i := 21) rfl)) ?_
    generalize v45 * v7 = v46
    refine lv_ladd hx hb (eX3_add (36, .ladd, 1) (List.mem_of_getElem? (i := 22) rfl)) ?_
    generalize v44 + v46 = v47
    refine tz_put (r := 2) (k := 0) (t := (1, (-9223372036854775808), 9223372036854775807)) hx hb hD hh hdu rfl rfl ((hcl2 9 0 (1, (-9223372036854775808), 9223372036854775807) (by decide) rfl).2 (by decide)) (tz_l (zn_i64 _).1 (zn_i64 _).2) (eX3_add (37, .putfield 9, 3) (List.mem_of_getElem? (i := 23) rfl)) (fun H48 lo48 hh48 hf48 hk48 _ hq48 => ?_)
    have mf48_tx_0 := (hk48.1 tx 0 0 0 0 fsX0 htx rfl (by decide) (by decide)).trans f0
    have mf48_tx_1 := (hk48.1 tx 0 1 0 0 fsX0 htx rfl (by decide) (by decide)).trans f1
    have mf48_tx_2 := (hk48.1 tx 0 2 0 0 fsX0 htx rfl (by decide) (by decide)).trans f2
    have mf48_tx_3 := (hk48.1 tx 0 3 0 0 fsX0 htx rfl (by decide) (by decide)).trans f3
    have mf48_tx_4 := (hk48.1 tx 0 4 0 0 fsX0 htx rfl (by decide) (by decide)).trans f4
    have mc48_tb := (hk48.2 tb 12 0 2 120 _ r0 rfl (by decide)).trans hc
    have kp48 := kp0.trans (hk48.mono (ms' := adM) (fun x hx => by cases List.mem_singleton.mp hx; decide))
    have jm48 := (hJ).kept htx hk48 (by decide)
    have je48 := je0.kept hdu hk48 (by decide)
    refine lv_iload hx hb (eX3_add (40, .iload 4, 2) (List.mem_of_getElem? (i := 24) rfl)) (lv_at hl8 5 rfl) ?_
    refine ff_if_eq hx hb (eX3_add (42, .ifCond .eq 10, 3) (List.mem_of_getElem? (i := 25) rfl)) (tgt := 52) rfl (fun c49 => ?_) (fun c49 => ?_)
    · skip
      have d50 : ¬ (rk.toInt < 2 ∧ pv.toInt ≠ 0) := by omega
      have hfin : (if rk.toInt < 2 ∧ pv.toInt ≠ 0 then blF pa.toInt sg else sg) = sg := by first | (simp only [if_neg d50, up_eq]; done) | (simp only [if_neg d50, up_eq] <;> rfl) | rfl
      exact W.vret hx hb hr (fun t ht hW => ⟨rfl, by rw [ht]; exact hh48.l0, by rw [ht]; exact kp48, by rw [ht, hfin]; exact jm48, by rw [ht]; exact je48⟩) hh48.2.2.1 (eX3_add (52, .return_, 1) (List.mem_of_getElem? (i := 30) rfl))
    · skip
      have d51 : rk.toInt < 2 ∧ pv.toInt ≠ 0 := by omega
      refine lv_aload_n hx hb (eX3_add (45, .aload_n 1, 1) (List.mem_of_getElem? (i := 26) rfl)) rfl (lv_at hl8 2 rfl) ?_
      refine lv_iload hx hb (eX3_add (46, .iload 5, 2) (List.mem_of_getElem? (i := 27) rfl)) (lv_at hl8 6 rfl) ?_
      refine tz_rowV (As := [.int pa]) (st := []) (b := tx) (C := RX0) (Ts := gT) hx hb hml hown h2 (fun _ h => h) (hX0_blameN l D cA ro sz H0 tx pa T (sg) htx) ⟨rfl, rfl⟩ ⟨by decide, by decide⟩ ⟨by decide, by decide⟩ (tb_4 64 rfl rfl) (tb_1 5 rfl rfl) (tb_5 167 rfl rfl) (tb_4 62 rfl rfl) (tb_4 63 rfl rfl) (show yX0_blame.cls ≠ "java/lang/invoke/MethodHandle" ∧ yX0_blame.cls ≠ "java/lang/invoke/VarHandle" ∧ (parseMethodDescriptor yX0_blame.desc).map (fun d => d.parameters.length) = some 1 by decide +kernel) zs_blind (zs_ob hh48 htx (show RTg[0]? = some (0, 0, 0, fsX0) from rfl) (zCX0 hKn.1)) (fun U hU hW => ⟨rfl, by rw [hU]; exact hh48.l0, zKb s U hW.alike hKn, by rw [hU]; exact jm48⟩) hh48.2.2.1 hl8.1 (Nat.le_of_ble_eq_true rfl) (eX3_add (48, .invokevirtual 75, 3) (List.mem_of_getElem? (i := 28) rfl)) (fun r52 s52 t52 lo52 g52 f52 l52 => ?_)
      obtain ⟨v52, q52, e52, z52, c52, j52, fx52⟩ := f52
      cases q52
      rw [g52] at c52 fx52
      have hh52 : zh_ok D cA RTg ro sz H0 t52.heap lo52 := ⟨z52.1, z52.2.1, l52, z52.2.2.2⟩
      have kp52 := kp48.trans (c52.mono (ms' := adM) (by decide))
      have je52 := je48.kept hdu c52 (by decide)
      have mf52_tx_0 := (c52.1 tx 0 0 0 0 fsX0 htx rfl (by decide) (by decide)).trans mf48_tx_0
      have mf52_tx_1 := (c52.1 tx 0 1 0 0 fsX0 htx rfl (by decide) (by decide)).trans mf48_tx_1
      have mf52_du_0 := (c52.1 du 2 0 2 0 fsX3 hdu rfl (by decide) (by decide)).trans hf48
      refine W.eq (g2 := F0 m 51 ls8 [.long v52]) rfl ?_
      refine lv_pop2_2 hx hb (eX3_add (51, .pop2, 1) (List.mem_of_getElem? (i := 29) rfl)) rfl ?_
      have hfin : (if rk.toInt < 2 ∧ pv.toInt ≠ 0 then blF pa.toInt sg else sg) = blF pa.toInt sg := by first | (simp only [if_pos d51, up_eq]; done) | (simp only [if_pos d51, up_eq] <;> rfl) | rfl
      exact W.vret hx hb hr (fun t ht hW => ⟨rfl, by rw [ht]; exact hh52.l0, by rw [ht]; exact kp52, by rw [ht, hfin]; exact j52, by rw [ht]; exact je52⟩) hh52.2.2.1 (eX3_add (52, .return_, 1) (List.mem_of_getElem? (i := 30) rfl))
theorem tk1 {T : List Int} {c : Int} {s : uS} (h : (tkF T c s).1 = 1) : lk T s = c ∧ (tkF T c s).2 = (s.1 + 1, s.2) := by
  unfold tkF at h ⊢
  split at h
  · rename_i q; rw [if_pos q]; exact ⟨q, rfl⟩
  · exact absurd h (by show ¬ (0 : Int) = 1; decide)
theorem tk0 {T : List Int} {c : Int} {s : uS} (h : ¬ (tkF T c s).1 = 1) : ¬ lk T s = c ∧ (tkF T c s).2 = s := by
  unfold tkF at h ⊢
  split at h
  · exact absurd rfl h
  · rename_i q; rw [if_neg q]; exact ⟨q, rfl⟩
theorem leF_bd {T : List Int} {la : Int} (n : Nat) : ∀ {k : Int} {s : uS}, 0 ≤ k → -1 ≤ (leF T la n k s).1 ∧ ((leF T la n k s).1 = -1 ∨ (leF T la n k s).1 ≤ la) := by
  induction n with
  | zero => intro k s _; exact ⟨by show (-1 : Int) ≤ -1; decide, Or.inl rfl⟩
  | succ n ih =>
    intro k s hk
    show -1 ≤ (if _ then _ else if _ then _ else _ : Int × uS).1 ∧ ((if _ then _ else if _ then _ else _ : Int × uS).1 = -1 ∨ (if _ then _ else if _ then _ else _ : Int × uS).1 ≤ la)
    split
    · exact ⟨by show (-1 : Int) ≤ -1; decide, Or.inl rfl⟩
    · rename_i q
      split
      · exact ⟨by show (-1 : Int) ≤ k; omega, Or.inr (by show k ≤ la; omega)⟩
      · exact ih (by omega)
theorem sn_bd {T : List Int} {fi la : Int} {s : uS} (h : 0 ≤ fi ∧ fi ≤ la) : 0 ≤ (snF T fi la s).1.1 ∧ (snF T fi la s).1.1 ≤ la := by
  have k : ∀ (pl : Int) (q : Int × Int) (g : uS), 0 ≤ (sn3F T fi la pl q g).1.1 ∧ (sn3F T fi la pl q g).1.1 ≤ la := by
    intro pl q g
    have b := leF_bd (T := T) (la := la) 6 (k := fi) (s := g) h.1
    unfold sn3F
    split
    · dsimp only; omega
    · dsimp only; omega
  unfold snF sn2F
  split
  · split
    · dsimp only; omega
    · exact k _ _ _
  · exact k _ _ _
theorem sn_en {T : List Int} {fi la : Int} {s : uS} : (snF T fi la s).1.2 = 0 ∨ (snF T fi la s).1.2 = 1 := by
  have d : ∀ g : uS, (dpF T g).1.1 = 0 ∨ (dpF T g).1.1 = 1 := by
    intro g
    unfold dpF
    split
    · exact Or.inr rfl
    · split
      · exact Or.inr rfl
      · exact Or.inl rfl
  have k : ∀ (pl : Int) (q : Int × Int) (g : uS), (sn3F T fi la pl q g).1.2 = q.1 := by
    intro pl q g
    unfold sn3F
    split <;> rfl
  unfold snF sn2F
  split
  · split
    · exact Or.inr rfl
    · rw [k]; exact d _
  · rw [k]; exact d _
theorem lef_no {T : List Int} {la kk : Int} {n : Nat} {gl : uS} (h : ¬ la < kk) (h2 : ¬ lk T gl = leC kk) : leF T la (n + 1) kk gl = leF T la n (kk + 1) gl := by
  show (if _ then _ else if _ then _ else _ : Int × uS) = _
  rw [if_neg h, if_neg h2]
set_option maxRecDepth 100000 in
set_option maxHeartbeats 4000000 in
theorem hX3_scanNumber (l : Launch) (D : va_G) (cA : Nat → ClassId) (ro : Nat → Option Nat) (sz : Nat) (H0 : Heap) (du : Nat) (tx : Nat) (fv : Int32) (lv : Int32) (fi la : Int) (T : List Int) (sg : uS) (hdu : ro du = some 2) (htx : ro tx = some 0) (hfv : fv.toInt = fi) (hlv : lv.toInt = la) (hfl : 0 ≤ fi ∧ fi ≤ la ∧ la ≤ 5) : Met l yX3_scanNumber (gW yX3_scanNumber cX3_scanNumber 8 (some .int)) { frames := 3, cells := 0, slots := 0, locals := 64 } (zs_PC D cA ro sz H0 (fun H => jU D cA ro H tx T sg ∧ jE D H du 0) [.ref du, .ref tx, .int fv, .int lv]) (fun _ st oc t => ∃ r : Int32, oc = .returned (some (.int r)) ∧ r.toInt = (snF T fi la sg).1.1 ∧ zh_ok D cA RTg ro sz H0 t.heap [] ∧ zc_kept D RTg ro duM st.heap t.heap ∧ jU D cA ro t.heap tx T (snF T fi la sg).2 ∧ jE D t.heap du (snF T fi la sg).1.2) 0 0 (zy_fr sz) := by
  refine zy_ofW (cc := cX3_scanNumber) (maxL := 8) (ret := (some .int)) (by decide +kernel) rfl ?_
  intro p e s m args below meth c s1 B hml hv
  obtain ⟨rfl, hh, ⟨hKn, hBQ, hLQ⟩, hJ⟩ := hv
  have hx := B.exec
  have hb := B.bytes
  have hr := B.returns
  have hlk := B.notSynchronized
  have hts0 := atoms_spec (ws := gW yX3_scanNumber cX3_scanNumber 8 (some .int)) B.pre
  have h2 : ∀ w ∈ gT, w.before ([.ref du, .ref tx, .int fv, .int lv] : List Value).toArray s = true := fun w hw => hts0 w (List.mem_cons_of_mem _ hw)
  have hown : s.vm.findClass RX3 = some m.cls := findClass_of_methodNamed B.named
  have hl := lv_entry [.ref du, .ref tx, .int fv, .int lv] (n := 8) (Nat.le_of_ble_eq_true rfl)
  rw [lg_entry_eq]
  generalize (lg_sl [.ref du, .ref tx, .int fv, .int lv] ++ List.replicate (8 - (lg_sl [.ref du, .ref tx, .int fv, .int lv]).length) Slot.unset).toArray = ls at hl ⊢
  have b_fv := zn_i32 fv
  have b_lv := zn_i32 lv
  have hD := zD_all h2 hKn.1
  have hcl0 := fun (idx k : Nat) (t : zt_T) (h : (idx, 0, k) ∈ gfX3) (hk : fsX0[k]? = some t) => zf_clause (ro := ro) (ms := duM) h2 hown hKn.1 gfX3_ok (by decide +kernel) idx 0 k 0 0 fsX0 t h rfl hk
  have hcl2 := fun (idx k : Nat) (t : zt_T) (h : (idx, 2, k) ∈ gfX3) (hk : fsX3[k]? = some t) => zf_clause (ro := ro) (ms := duM) h2 hown hKn.1 gfX3_ok (by decide +kernel) idx 2 k 2 0 fsX3 t h rfl hk
  have kp0 : zc_kept D RTg ro duM s.heap s.heap := zc_kept.refl
  obtain ⟨hJ, je0⟩ := hJ
  obtain ⟨hjt, ⟨av, bv, wv, f2, f3, f4, hav, hbv, hwv⟩, hu⟩ := id hJ
  obtain ⟨tb, n, z, f0, r0, f1, hn, hc, hz⟩ := id hjt
  obtain ⟨n9, g9, n1, n2⟩ := zh_fT (k := 1) (t := (0, 0, 120)) hh htx (show RTg[0]? = some (0, 0, 0, fsX0) from rfl) rfl
  cases f1.symm.trans g9
  dsimp only at n1 n2
  clear g9
  obtain ⟨-, z9, c9, hy9⟩ := zh_arr hh r0 (show RTg[12]? = some (1, 2, 120, [(0, (-128), 127)]) from rfl)
  have hy : ∀ i, i < 120 → zt_ok ro (z i) (0, (-128), 127) := zs_arr (hc.symm.trans c9) hy9
  obtain ⟨u1, u2, u3⟩ := id hu
  refine lv_aload_n hx hb (eX3_scanNumber (0, .aload_n 1, 1) (List.mem_of_getElem? (i := 0) rfl)) rfl (lv_at hl 1 rfl) ?_
  refine ff_iconst hx hb (eX3_scanNumber (1, .iconst 1, 1) (List.mem_of_getElem? (i := 1) rfl)) (by decide) (by decide) (fun v1 e1 => ?_)
  refine ff_bipush hx hb (eX3_scanNumber (2, .bipush 9, 2) (List.mem_of_getElem? (i := 2) rfl)) (by decide) (by decide) (fun v2 e2 => ?_)
  refine tz_rowV (As := [.int v1, .int v2]) (st := []) (b := tx) (C := RX0) (Ts := gT) hx hb hml hown h2 (fun _ h => h) (hX0_numberW l D cA ro sz H0 tx v1 v2 1 9 T (sg) htx (by omega) (by omega) (by decide)) ⟨rfl, rfl⟩ ⟨by decide, by decide⟩ ⟨by decide, by decide⟩ (tb_4 60 rfl rfl) (tb_1 5 rfl rfl) (tb_5 157 rfl rfl) (tb_4 58 rfl rfl) (tb_4 59 rfl rfl) (show yX0_number.cls ≠ "java/lang/invoke/MethodHandle" ∧ yX0_number.cls ≠ "java/lang/invoke/VarHandle" ∧ (parseMethodDescriptor yX0_number.desc).map (fun d => d.parameters.length) = some 2 by decide +kernel) zs_blind (zs_ob hh htx (show RTg[0]? = some (0, 0, 0, fsX0) from rfl) (zCX0 hKn.1)) (fun U hU hW => ⟨rfl, by rw [hU]; exact hh.l0, zKb s U hW.alike hKn, by rw [hU]; exact hJ⟩) hh.2.2.1 hl.1 (Nat.le_of_ble_eq_true rfl) (eX3_scanNumber (4, .invokevirtual 53, 3) (List.mem_of_getElem? (i := 3) rfl)) (fun r3 s3 t3 lo3 g3 f3 l3 => ?_)
  obtain ⟨v3, q3, e3, z3, c3, j3, fx3⟩ := f3
  cases q3
  rw [g3] at c3 fx3
  have hh3 : zh_ok D cA RTg ro sz H0 t3.heap lo3 := ⟨z3.1, z3.2.1, l3, z3.2.2.2⟩
  have kp3 := kp0.trans (c3.mono (ms' := duM) (by decide))
  have kf3 := nbF_hM (T := T) (ld := 1) (n := 9) (s := sg) (M := 999999999) (by decide)
  generalize hx3 : nbF T 1 9 0 0 sg = x3 at j3 e3 kf3
  have uu3 := j3.2.2
  unfold uOK at uu3
  have mf3_tx_0 := (c3.1 tx 0 0 0 0 fsX0 htx rfl (by decide) (by decide)).trans f0
  have mf3_tx_1 := (c3.1 tx 0 1 0 0 fsX0 htx rfl (by decide) (by decide)).trans f1
  have je3 := je0.kept hdu c3 (by decide)
  refine W.eq (g2 := F0 m 7 ls [.int v3]) rfl ?_
  refine lv_istore hx hb (eX3_scanNumber (7, .istore 4, 2) (List.mem_of_getElem? (i := 4) rfl)) hl (by decide) rfl (fun ls4 hl4 => ?_)
  refine lv_aload_n hx hb (eX3_scanNumber (9, .aload_n 1, 1) (List.mem_of_getElem? (i := 5) rfl)) rfl (lv_at hl4 2 rfl) ?_
  obtain ⟨jt5, ⟨av5, bv5, wv5, f25, f35, f45, hav5, hbv5, hwv5⟩, hu5⟩ := id j3
  refine tz_get (r := 0) (k := 2) (t := (0, (-2147483648), 2147483647)) hx hb hh3 htx rfl rfl (hcl0 57 2 (0, (-2147483648), 2147483647) (by decide) rfl).1 f25 (eX3_scanNumber (10, .getfield 57, 3) (List.mem_of_getElem? (i := 6) rfl)) ?_
  refine lv_istore hx hb (eX3_scanNumber (13, .istore 5, 2) (List.mem_of_getElem? (i := 7) rfl)) hl4 (by decide) rfl (fun ls6 hl6 => ?_)
  refine ff_iconst hx hb (eX3_scanNumber (15, .iconst 0, 1) (List.mem_of_getElem? (i := 8) rfl)) (by decide) (by decide) (fun v7 e7 => ?_)
  refine lv_istore hx hb (eX3_scanNumber (16, .istore 6, 2) (List.mem_of_getElem? (i := 9) rfl)) hl6 (by decide) rfl (fun ls8 hl8 => ?_)
  have hpl : av5.toInt = x3.2.1 := by omega
  have loop : ∀ (gl : uS) (q1 q2 : Int) (pv : Int32) (n0 : Nat) (kk : Int) (kv : Int32) (ls : Array Slot) (H : Heap) (lo0 : List Loc), zh_ok D cA RTg ro sz H0 H lo0 → zc_kept D RTg ro duM s.heap H → jU D cA ro H tx T gl → jE D H du q1 → pv.toInt = q2 → kv.toInt = kk → kk + n0 = fi + 6 → fi ≤ kk → leF T la n0 kk gl = leF T la 6 fi gl → sn3F T fi la x3.2.1 (q1, q2) gl = snF T fi la sg → lv_has ls 8 [(7, .int kv), (6, .int pv), (5, .int av5), (4, .int v3), (0, .ref du), (1, .ref tx), (2, .int fv), (3, .int lv)] → W p l e (headSpec (gW yX3_scanNumber cX3_scanNumber 8 (some .int)) { frames := 3, cells := 0, slots := 0, locals := 64 }).room s m ([.ref du, .ref tx, .int fv, .int lv] : List Value).toArray below meth c H lo0 0 0 (MQ below (fun _ st oc t => ∃ r : Int32, oc = .returned (some (.int r)) ∧ r.toInt = (snF T fi la sg).1.1 ∧ zh_ok D cA RTg ro sz H0 t.heap [] ∧ zc_kept D RTg ro duM st.heap t.heap ∧ jU D cA ro t.heap tx T (snF T fi la sg).2 ∧ jE D t.heap du (snF T fi la sg).1.2) ([.ref du, .ref tx, .int fv, .int lv] : List Value).toArray s 0 0 (zy_fr sz)) (F0 m 88 ls []) := by
    intro gl q1 q2 pv n0
    induction n0 with
    | zero =>
      intro kk kv ls H lo0 hh0 kpl jl jel hpv hkv hkn hfk hle htot hl
      have hul := jl.2.2
      unfold uOK at hul
      refine lv_iload hx hb (eX3_scanNumber (88, .iload 7, 2) (List.mem_of_getElem? (i := 46) rfl)) (lv_at hl 0 rfl) ?_
      refine lv_iload_n hx hb (eX3_scanNumber (90, .iload_n 3, 1) (List.mem_of_getElem? (i := 47) rfl)) rfl (lv_at hl 7 rfl) ?_
      refine ff_icmp_gt hx hb (eX3_scanNumber (91, .if_icmp .gt 47, 3) (List.mem_of_getElem? (i := 48) rfl)) (tgt := 138) rfl (fun c9 => ?_) (fun c9 => (by exfalso; omega))
      · skip
        have hlx : leF T la 6 fi gl = (-1, gl) := by rw [← hle] <;> rfl
        refine lv_aload_n hx hb (eX3_scanNumber (138, .aload_n 1, 1) (List.mem_of_getElem? (i := 70) rfl)) rfl (lv_at hl 5 rfl) ?_
        refine tz_rowV (As := []) (st := []) (b := tx) (C := RX0) (Ts := gT) hx hb hml hown h2 (fun _ h => h) (hX0_fail l D cA ro sz H0 tx T (gl) htx) ⟨rfl, rfl⟩ ⟨by decide, by decide⟩ ⟨by decide, by decide⟩ (tb_4 40 rfl rfl) (tb_1 5 rfl rfl) (tb_5 169 rfl rfl) (tb_4 38 rfl rfl) (tb_4 39 rfl rfl) (show yX0_fail.cls ≠ "java/lang/invoke/MethodHandle" ∧ yX0_fail.cls ≠ "java/lang/invoke/VarHandle" ∧ (parseMethodDescriptor yX0_fail.desc).map (fun d => d.parameters.length) = some 0 by decide +kernel) zs_blind (zs_ob hh0 htx (show RTg[0]? = some (0, 0, 0, fsX0) from rfl) (zCX0 hKn.1)) (fun U hU hW => ⟨rfl, by rw [hU]; exact hh0.l0, zKb s U hW.alike hKn, by rw [hU]; exact jl⟩) hh0.2.2.1 hl.1 (Nat.le_of_ble_eq_true rfl) (eX3_scanNumber (139, .invokevirtual 50, 3) (List.mem_of_getElem? (i := 71) rfl)) (fun r10 s10 t10 lo10 g10 f10 l10 => ?_)
        obtain ⟨q10, z10, c10, j10, fx10⟩ := f10
        cases q10
        rw [g10] at c10 fx10
        have hh10 : zh_ok D cA RTg ro sz H0 t10.heap lo10 := ⟨z10.1, z10.2.1, l10, z10.2.2.2⟩
        have kp10 := kpl.trans (c10.mono (ms' := duM) (by decide))
        generalize hx10 : flF gl = x10 at j10
        have uu10 := j10.2.2
        unfold uOK at uu10
        have je10 := jel.kept hdu c10 (by decide)
        refine W.eq (g2 := F0 m 142 ls []) rfl ?_
        refine lv_iload_n hx hb (eX3_scanNumber (142, .iload_n 3, 1) (List.mem_of_getElem? (i := 72) rfl)) rfl (lv_at hl 7 rfl) ?_
        have hfin : snF T fi la sg = ((la, q1), x10) := by rw [← htot]; unfold sn3F; rw [hlx]; dsimp only; rw [if_neg (by decide)]; rw [hx10]
        exact W.zret hx hb hr rfl (fun t ht hW => ⟨_, rfl, by rw [hfin]; show lv.toInt = la; omega, by rw [ht]; exact hh10.l0, by rw [ht]; exact kp10, by rw [ht, hfin]; exact j10, by rw [ht, hfin]; exact je10⟩) hh10.2.2.1 (eX3_scanNumber (143, .ireturn, 1) (List.mem_of_getElem? (i := 73) rfl))
    | succ n0 ih =>
      intro kk kv ls H lo0 hh0 kpl jl jel hpv hkv hkn hfk hle htot hl
      have hul := jl.2.2
      unfold uOK at hul
      refine lv_iload hx hb (eX3_scanNumber (88, .iload 7, 2) (List.mem_of_getElem? (i := 46) rfl)) (lv_at hl 0 rfl) ?_
      refine lv_iload_n hx hb (eX3_scanNumber (90, .iload_n 3, 1) (List.mem_of_getElem? (i := 47) rfl)) rfl (lv_at hl 7 rfl) ?_
      refine ff_icmp_gt hx hb (eX3_scanNumber (91, .if_icmp .gt 47, 3) (List.mem_of_getElem? (i := 48) rfl)) (tgt := 138) rfl (fun c11 => ?_) (fun c11 => ?_)
      · skip
        have hlx : leF T la 6 fi gl = (-1, gl) := by rw [← hle]; show (if _ then _ else _ : Int × uS) = _; rw [if_pos (by omega)]
        refine lv_aload_n hx hb (eX3_scanNumber (138, .aload_n 1, 1) (List.mem_of_getElem? (i := 70) rfl)) rfl (lv_at hl 5 rfl) ?_
        refine tz_rowV (As := []) (st := []) (b := tx) (C := RX0) (Ts := gT) hx hb hml hown h2 (fun _ h => h) (hX0_fail l D cA ro sz H0 tx T (gl) htx) ⟨rfl, rfl⟩ ⟨by decide, by decide⟩ ⟨by decide, by decide⟩ (tb_4 40 rfl rfl) (tb_1 5 rfl rfl) (tb_5 169 rfl rfl) (tb_4 38 rfl rfl) (tb_4 39 rfl rfl) (show yX0_fail.cls ≠ "java/lang/invoke/MethodHandle" ∧ yX0_fail.cls ≠ "java/lang/invoke/VarHandle" ∧ (parseMethodDescriptor yX0_fail.desc).map (fun d => d.parameters.length) = some 0 by decide +kernel) zs_blind (zs_ob hh0 htx (show RTg[0]? = some (0, 0, 0, fsX0) from rfl) (zCX0 hKn.1)) (fun U hU hW => ⟨rfl, by rw [hU]; exact hh0.l0, zKb s U hW.alike hKn, by rw [hU]; exact jl⟩) hh0.2.2.1 hl.1 (Nat.le_of_ble_eq_true rfl) (eX3_scanNumber (139, .invokevirtual 50, 3) (List.mem_of_getElem? (i := 71) rfl)) (fun r12 s12 t12 lo12 g12 f12 l12 => ?_)
        obtain ⟨q12, z12, c12, j12, fx12⟩ := f12
        cases q12
        rw [g12] at c12 fx12
        have hh12 : zh_ok D cA RTg ro sz H0 t12.heap lo12 := ⟨z12.1, z12.2.1, l12, z12.2.2.2⟩
        have kp12 := kpl.trans (c12.mono (ms' := duM) (by decide))
        generalize hx12 : flF gl = x12 at j12
        have uu12 := j12.2.2
        unfold uOK at uu12
        have je12 := jel.kept hdu c12 (by decide)
        refine W.eq (g2 := F0 m 142 ls []) rfl ?_
        refine lv_iload_n hx hb (eX3_scanNumber (142, .iload_n 3, 1) (List.mem_of_getElem? (i := 72) rfl)) rfl (lv_at hl 7 rfl) ?_
        have hfin : snF T fi la sg = ((la, q1), x12) := by rw [← htot]; unfold sn3F; rw [hlx]; dsimp only; rw [if_neg (by decide)]; rw [hx12]
        exact W.zret hx hb hr rfl (fun t ht hW => ⟨_, rfl, by rw [hfin]; show lv.toInt = la; omega, by rw [ht]; exact hh12.l0, by rw [ht]; exact kp12, by rw [ht, hfin]; exact j12, by rw [ht, hfin]; exact je12⟩) hh12.2.2.1 (eX3_scanNumber (143, .ireturn, 1) (List.mem_of_getElem? (i := 73) rfl))
      · skip
        refine lv_iload hx hb (eX3_scanNumber (94, .iload 7, 2) (List.mem_of_getElem? (i := 49) rfl)) (lv_at hl 0 rfl) ?_
        refine zs_get hx hb hown hLQ.1 hh0 (h2 _ (tb_5 150 rfl rfl)) (eX3_scanNumber (96, .getstatic 34, 3) (List.mem_of_getElem? (i := 50) rfl)) (fun a13 cl13 ac13 az13 aA13 => ?_)
        refine zs_len hx hb (by decide) ac13 aA13 (eX3_scanNumber (99, .arraylength, 1) (List.mem_of_getElem? (i := 51) rfl)) (fun v14 e14 => ?_)
        refine ff_icmp_ge hx hb (eX3_scanNumber (100, .if_icmp .ge 38, 3) (List.mem_of_getElem? (i := 52) rfl)) (tgt := 138) rfl (fun c15 => (by exfalso; omega)) (fun c15 => ?_)
        refine lv_aload_n hx hb (eX3_scanNumber (103, .aload_n 1, 1) (List.mem_of_getElem? (i := 53) rfl)) rfl (lv_at hl 5 rfl) ?_
        refine zs_get hx hb hown hLQ.1 hh0 (h2 _ (tb_5 150 rfl rfl)) (eX3_scanNumber (104, .getstatic 34, 3) (List.mem_of_getElem? (i := 54) rfl)) (fun a16 cl16 ac16 az16 aA16 => ?_)
        refine lv_iload hx hb (eX3_scanNumber (107, .iload 7, 2) (List.mem_of_getElem? (i := 55) rfl)) (lv_at hl 0 rfl) ?_
        refine zs_cald (J := kv.toInt.toNat) hx hb ac16 az16 aA16 (by decide) (by omega) (by omega) (eX3_scanNumber (109, .caload, 1) (List.mem_of_getElem? (i := 56) rfl)) (fun v17 e17 => ?_)
        refine tz_rowV (As := [.int v17]) (st := []) (b := tx) (C := RX0) (Ts := gT) hx hb hml hown h2 (fun _ h => h) (hX0_take l D cA ro sz H0 tx v17 (leC kk) T gl htx (by rw [show v17.toInt = leC ((kv.toInt.toNat : Nat) : Int) from e17, show ((kv.toInt.toNat : Nat) : Int) = kk by omega]) (leC_nn kk)) ⟨rfl, rfl⟩ ⟨by decide, by decide⟩ ⟨by decide, by decide⟩ (tb_4 8 rfl rfl) (tb_1 5 rfl rfl) (tb_5 158 rfl rfl) (tb_4 6 rfl rfl) (tb_4 7 rfl rfl) (show yX0_take.cls ≠ "java/lang/invoke/MethodHandle" ∧ yX0_take.cls ≠ "java/lang/invoke/VarHandle" ∧ (parseMethodDescriptor yX0_take.desc).map (fun d => d.parameters.length) = some 1 by decide +kernel) zs_blind (zs_ob hh0 htx (show RTg[0]? = some (0, 0, 0, fsX0) from rfl) (zCX0 hKn.1)) (fun U hU hW => ⟨rfl, by rw [hU]; exact hh0.l0, zKb s U hW.alike hKn, by rw [hU]; exact jl⟩) hh0.2.2.1 hl.1 (Nat.le_of_ble_eq_true rfl) (eX3_scanNumber (110, .invokevirtual 46, 3) (List.mem_of_getElem? (i := 57) rfl)) (fun r18 s18 t18 lo18 g18 f18 l18 => ?_)
        obtain ⟨v18, q18, e18, z18, c18, j18, fx18⟩ := f18
        cases q18
        rw [g18] at c18 fx18
        have hh18 : zh_ok D cA RTg ro sz H0 t18.heap lo18 := ⟨z18.1, z18.2.1, l18, z18.2.2.2⟩
        have kp18 := kpl.trans (c18.mono (ms' := duM) (by decide))
        have kf18 := tkF_01 T (leC kk) gl
        generalize hx18 : tkF T (leC kk) gl = x18 at j18 e18 kf18
        have uu18 := j18.2.2
        unfold uOK at uu18
        have je18 := jel.kept hdu c18 (by decide)
        refine W.eq (g2 := F0 m 113 ls [.int v18]) rfl ?_
        refine ff_if_eq hx hb (eX3_scanNumber (113, .ifCond .eq 19, 3) (List.mem_of_getElem? (i := 58) rfl)) (tgt := 132) rfl (fun c19 => ?_) (fun c19 => ?_)
        · obtain ⟨hno, hsame⟩ := tk0 (T := T) (c := leC kk) (s := gl) (by rw [hx18]; omega)
          rw [hx18] at hsame
          refine ff_iinc (k := 0) hx hb (eX3_scanNumber (132, .iinc 7 1, 3) (List.mem_of_getElem? (i := 68) rfl)) hl rfl (by decide) (by decide) (by decide) (by omega) (by omega) (fun v20 e20 ls20 hl20 => ?_)
          refine lv_goto hx hb (eX3_scanNumber (135, .goto (-47), 3) (List.mem_of_getElem? (i := 69) rfl)) (tgt := 88) rfl ?_
          exact ih (kk + 1) v20 ls20 _ _ hh18 kp18 (by rw [← hsame]; exact j18) je18 hpv (by omega) (by omega) (by omega) (by rw [← hle]; exact (lef_no (by omega) hno).symm) htot (lv_sub hl20 [0, 1, 2, 3, 4, 5, 6, 7] rfl)
        · obtain ⟨hyes, hgo⟩ := tk1 (T := T) (c := leC kk) (s := gl) (by rw [hx18]; omega)
          rw [hx18] at hgo
          have hlx : leF T la 6 fi gl = (kk, x18.2) := by rw [← hle, hgo]; show (if _ then _ else if _ then _ else _ : Int × uS) = _; rw [if_neg (by omega), if_pos hyes]
          refine lv_aload_n hx hb (eX3_scanNumber (116, .aload_n 0, 1) (List.mem_of_getElem? (i := 59) rfl)) rfl (lv_at hl 4 rfl) ?_
          refine lv_aload_n hx hb (eX3_scanNumber (117, .aload_n 1, 1) (List.mem_of_getElem? (i := 60) rfl)) rfl (lv_at hl 5 rfl) ?_
          refine lv_iload hx hb (eX3_scanNumber (118, .iload 7, 2) (List.mem_of_getElem? (i := 61) rfl)) (lv_at hl 0 rfl) ?_
          refine lv_iload hx hb (eX3_scanNumber (120, .iload 4, 2) (List.mem_of_getElem? (i := 62) rfl)) (lv_at hl 3 rfl) ?_
          refine lv_iload hx hb (eX3_scanNumber (122, .iload 6, 2) (List.mem_of_getElem? (i := 63) rfl)) (lv_at hl 1 rfl) ?_
          refine lv_iload hx hb (eX3_scanNumber (124, .iload 5, 2) (List.mem_of_getElem? (i := 64) rfl)) (lv_at hl 2 rfl) ?_
          refine tz_rowV (As := [.ref tx, .int kv, .int v3, .int pv, .int av5]) (st := []) (b := du) (C := RX3) (Ts := gT) hx hb hml hown h2 (fun _ h => h) (hX3_add l D cA ro sz H0 du tx kv v3 pv av5 T (x18.2) q1 hdu htx (by omega)) ⟨rfl, rfl⟩ ⟨by decide, by decide⟩ ⟨by decide, by decide⟩ (tb_5 164 rfl rfl) (tb_1 10 rfl rfl) (tb_5 161 rfl rfl) (tb_5 162 rfl rfl) (tb_5 163 rfl rfl) (show yX3_add.cls ≠ "java/lang/invoke/MethodHandle" ∧ yX3_add.cls ≠ "java/lang/invoke/VarHandle" ∧ (parseMethodDescriptor yX3_add.desc).map (fun d => d.parameters.length) = some 5 by decide +kernel) zs_blindC (zs_ob hh18 hdu (show RTg[2]? = some (0, 2, 0, fsX3) from rfl) (zCX3 hKn.1)) (fun U hU hW => ⟨rfl, by rw [hU]; exact hh18.l0, ⟨zKb s U hW.alike hKn, hBQ.alike hW.alike, hLQ.alike hW.alike⟩, by rw [hU]; exact ⟨j18, je18⟩⟩) hh18.2.2.1 hl.1 (Nat.le_of_ble_eq_true rfl) (eX3_scanNumber (126, .invokevirtual 67, 3) (List.mem_of_getElem? (i := 65) rfl)) (fun r21 s21 t21 lo21 g21 f21 l21 => ?_)
          obtain ⟨q21, z21, c21, j21, je21⟩ := f21
          cases q21
          rw [g21] at c21
          have hh21 : zh_ok D cA RTg ro sz H0 t21.heap lo21 := ⟨z21.1, z21.2.1, l21, z21.2.2.2⟩
          have kp21 := kp18.trans (c21.mono (ms' := duM) (by decide))
          rw [show kv.toInt = kk by omega, show pv.toInt = q2 by omega, show av5.toInt = x3.2.1 by omega] at j21
          refine W.eq (g2 := F0 m 129 ls []) rfl ?_
          refine lv_iload hx hb (eX3_scanNumber (129, .iload 7, 2) (List.mem_of_getElem? (i := 66) rfl)) (lv_at hl 0 rfl) ?_
          have hfin : snF T fi la sg = ((kk, q1), (if kk < 2 ∧ q2 ≠ 0 then blF x3.2.1 x18.2 else x18.2)) := by rw [← htot]; unfold sn3F; rw [hlx]; dsimp only; rw [if_pos (by omega)]
          exact W.zret hx hb hr rfl (fun t ht hW => ⟨_, rfl, by rw [hfin]; show kv.toInt = kk; omega, by rw [ht]; exact hh21.l0, by rw [ht]; exact kp21, by rw [ht, hfin]; exact j21, by rw [ht, hfin]; exact je21⟩) hh21.2.2.1 (eX3_scanNumber (131, .ireturn, 1) (List.mem_of_getElem? (i := 67) rfl))
  have jn47 : ∀ (gj : uS) (q1 q2 : Int) (pv : Int32) (ls : Array Slot) (H : Heap) (lo0 : List Loc), zh_ok D cA RTg ro sz H0 H lo0 → zc_kept D RTg ro duM s.heap H → jU D cA ro H tx T gj → jE D H du q1 → pv.toInt = q2 → (q1 = 0 ∨ q1 = 1) → sn2F T fi la x3.2.1 ((q1, q2), gj) = snF T fi la sg → lv_has ls 8 [(6, .int pv), (5, .int av5), (4, .int v3), (0, .ref du), (1, .ref tx), (2, .int fv), (3, .int lv)] → W p l e (headSpec (gW yX3_scanNumber cX3_scanNumber 8 (some .int)) { frames := 3, cells := 0, slots := 0, locals := 64 }).room s m ([.ref du, .ref tx, .int fv, .int lv] : List Value).toArray below meth c H lo0 0 0 (MQ below (fun _ st oc t => ∃ r : Int32, oc = .returned (some (.int r)) ∧ r.toInt = (snF T fi la sg).1.1 ∧ zh_ok D cA RTg ro sz H0 t.heap [] ∧ zc_kept D RTg ro duM st.heap t.heap ∧ jU D cA ro t.heap tx T (snF T fi la sg).2 ∧ jE D t.heap du (snF T fi la sg).1.2) ([.ref du, .ref tx, .int fv, .int lv] : List Value).toArray s 0 0 (zy_fr sz)) (F0 m 47 ls []) := by
    intro gj q1 q2 pv ls H lo0 hh0 kpl jl jel hpv hq1 htot hl
    have hul := jl.2.2
    unfold uOK at hul
    refine lv_iload_n hx hb (eX3_scanNumber (47, .iload_n 2, 1) (List.mem_of_getElem? (i := 24) rfl)) rfl (lv_at hl 5 rfl) ?_
    refine ff_if_ne hx hb (eX3_scanNumber (48, .ifCond .ne 37, 3) (List.mem_of_getElem? (i := 25) rfl)) (tgt := 85) rfl (fun c22 => ?_) (fun c22 => ?_)
    · skip
      have d23 : ¬ (fi = 0 ∧ q1 = 0) := by omega
      refine lv_iload_n hx hb (eX3_scanNumber (85, .iload_n 2, 1) (List.mem_of_getElem? (i := 44) rfl)) rfl (lv_at hl 5 rfl) ?_
      refine lv_istore hx hb (eX3_scanNumber (86, .istore 7, 2) (List.mem_of_getElem? (i := 45) rfl)) hl (by decide) rfl (fun ls24 hl24 => ?_)
      exact loop gj q1 q2 pv 6 fi fv ls24 _ _ hh0 kpl jl jel hpv (by omega) (by omega) (by omega) rfl (by rw [← htot]; first | (simp only [sn2F, if_neg d23, up_eq]; done) | (simp only [sn2F, if_neg d23, up_eq] <;> rfl) | rfl) (lv_sub hl24 [0, 1, 2, 3, 4, 5, 6, 7] rfl)
    · skip
      refine lv_aload_n hx hb (eX3_scanNumber (51, .aload_n 0, 1) (List.mem_of_getElem? (i := 26) rfl)) rfl (lv_at hl 3 rfl) ?_
      obtain ⟨v25, fa25, e25⟩ := id jel
      refine tz_get (r := 2) (k := 4) (t := (0, 0, 1)) hx hb hh0 hdu rfl rfl (hcl2 24 4 (0, 0, 1) (by decide) rfl).1 fa25 (eX3_scanNumber (52, .getfield 24, 3) (List.mem_of_getElem? (i := 27) rfl)) ?_
      refine ff_if_ne hx hb (eX3_scanNumber (55, .ifCond .ne 30, 3) (List.mem_of_getElem? (i := 28) rfl)) (tgt := 85) rfl (fun c26 => ?_) (fun c26 => ?_)
      · skip
        have d27 : ¬ (fi = 0 ∧ q1 = 0) := by omega
        refine lv_iload_n hx hb (eX3_scanNumber (85, .iload_n 2, 1) (List.mem_of_getElem? (i := 44) rfl)) rfl (lv_at hl 5 rfl) ?_
        refine lv_istore hx hb (eX3_scanNumber (86, .istore 7, 2) (List.mem_of_getElem? (i := 45) rfl)) hl (by decide) rfl (fun ls28 hl28 => ?_)
        exact loop gj q1 q2 pv 6 fi fv ls28 _ _ hh0 kpl jl jel hpv (by omega) (by omega) (by omega) rfl (by rw [← htot]; first | (simp only [sn2F, if_neg d27, up_eq]; done) | (simp only [sn2F, if_neg d27, up_eq] <;> rfl) | rfl) (lv_sub hl28 [0, 1, 2, 3, 4, 5, 6, 7] rfl)
      · skip
        have d29 : fi = 0 ∧ q1 = 0 := by omega
        refine lv_aload_n hx hb (eX3_scanNumber (58, .aload_n 1, 1) (List.mem_of_getElem? (i := 29) rfl)) rfl (lv_at hl 4 rfl) ?_
        refine ff_bipush hx hb (eX3_scanNumber (59, .bipush 87, 2) (List.mem_of_getElem? (i := 30) rfl)) (by decide) (by decide) (fun v30 e30 => ?_)
        refine tz_rowV (As := [.int v30]) (st := []) (b := tx) (C := RX0) (Ts := gT) hx hb hml hown h2 (fun _ h => h) (hX0_take l D cA ro sz H0 tx v30 87 T (gj) htx (by omega) (by decide)) ⟨rfl, rfl⟩ ⟨by decide, by decide⟩ ⟨by decide, by decide⟩ (tb_4 8 rfl rfl) (tb_1 5 rfl rfl) (tb_5 158 rfl rfl) (tb_4 6 rfl rfl) (tb_4 7 rfl rfl) (show yX0_take.cls ≠ "java/lang/invoke/MethodHandle" ∧ yX0_take.cls ≠ "java/lang/invoke/VarHandle" ∧ (parseMethodDescriptor yX0_take.desc).map (fun d => d.parameters.length) = some 1 by decide +kernel) zs_blind (zs_ob hh0 htx (show RTg[0]? = some (0, 0, 0, fsX0) from rfl) (zCX0 hKn.1)) (fun U hU hW => ⟨rfl, by rw [hU]; exact hh0.l0, zKb s U hW.alike hKn, by rw [hU]; exact jl⟩) hh0.2.2.1 hl.1 (Nat.le_of_ble_eq_true rfl) (eX3_scanNumber (61, .invokevirtual 46, 3) (List.mem_of_getElem? (i := 31) rfl)) (fun r31 s31 t31 lo31 g31 f31 l31 => ?_)
        obtain ⟨v31, q31, e31, z31, c31, j31, fx31⟩ := f31
        cases q31
        rw [g31] at c31 fx31
        have hh31 : zh_ok D cA RTg ro sz H0 t31.heap lo31 := ⟨z31.1, z31.2.1, l31, z31.2.2.2⟩
        have kp31 := kpl.trans (c31.mono (ms' := duM) (by decide))
        have kf31 := tkF_01 T 87 gj
        generalize hx31 : tkF T 87 gj = x31 at j31 e31 kf31
        have uu31 := j31.2.2
        unfold uOK at uu31
        have mf31_du_4 := (c31.1 du 2 4 2 0 fsX3 hdu rfl (by decide) (by decide)).trans fa25
        have je31 := jel.kept hdu c31 (by decide)
        refine W.eq (g2 := F0 m 64 ls [.int v31]) rfl ?_
        refine ff_if_eq hx hb (eX3_scanNumber (64, .ifCond .eq 21, 3) (List.mem_of_getElem? (i := 32) rfl)) (tgt := 85) rfl (fun c32 => ?_) (fun c32 => ?_)
        · skip
          have d31 : ¬ x31.1 = 1 := by omega
          refine lv_iload_n hx hb (eX3_scanNumber (85, .iload_n 2, 1) (List.mem_of_getElem? (i := 44) rfl)) rfl (lv_at hl 5 rfl) ?_
          refine lv_istore hx hb (eX3_scanNumber (86, .istore 7, 2) (List.mem_of_getElem? (i := 45) rfl)) hl (by decide) rfl (fun ls33 hl33 => ?_)
          exact loop x31.2 q1 q2 pv 6 fi fv ls33 _ _ hh31 kp31 j31 je31 hpv (by omega) (by omega) (by omega) rfl (by rw [← htot]; first | (simp only [sn2F, hx31, if_pos d29, if_neg d31, up_eq]; done) | (simp only [sn2F, hx31, if_pos d29, if_neg d31, up_eq] <;> rfl) | rfl) (lv_sub hl33 [0, 1, 2, 3, 4, 5, 6, 7] rfl)
        · skip
          have d31 : x31.1 = 1 := by omega
          refine lv_aload_n hx hb (eX3_scanNumber (67, .aload_n 0, 1) (List.mem_of_getElem? (i := 33) rfl)) rfl (lv_at hl 3 rfl) ?_
          refine ff_iconst hx hb (eX3_scanNumber (68, .iconst 1, 1) (List.mem_of_getElem? (i := 34) rfl)) (by decide) (by decide) (fun v34 e34 => ?_)
          refine tz_put (r := 2) (k := 4) (t := (0, 0, 1)) hx hb hD hh31 hdu rfl rfl ((hcl2 24 4 (0, 0, 1) (by decide) rfl).2 (by decide)) (tz_i (by omega) (by omega)) (eX3_scanNumber (69, .putfield 24, 3) (List.mem_of_getElem? (i := 35) rfl)) (fun H35 lo35 hh35 hf35 hk35 _ hq35 => ?_)
          have kp35 := kp31.trans (hk35.mono (ms' := duM) (fun x hx => by cases List.mem_singleton.mp hx; decide))
          have jm35 := (j31).kept htx hk35 (by decide)
          have je35 : jE D H35 du 1 := ⟨_, hf35, by omega⟩
          refine lv_aload_n hx hb (eX3_scanNumber (72, .aload_n 0, 1) (List.mem_of_getElem? (i := 36) rfl)) rfl (lv_at hl 3 rfl) ?_
          refine ff_ldc2 (n := 7) hx hb hown h2 (clX3_ok 65 7 (List.mem_of_getElem? (i := 0) rfl)) (eX3_scanNumber (73, .ldc2_w 65, 3) (List.mem_of_getElem? (i := 37) rfl)) (fun v36 e36 => ?_)
          refine lv_iload hx hb (eX3_scanNumber (76, .iload 4, 2) (List.mem_of_getElem? (i := 38) rfl)) (lv_at hl 2 rfl) ?_
          refine ff_i2l hx hb (eX3_scanNumber (78, .i2l, 1) (List.mem_of_getElem? (i := 39) rfl)) (fun v37 e37 => ?_)
          refine lv_lmul hx hb (eX3_scanNumber (79, .lmul, 1) (List.mem_of_getElem? (i := 40) rfl)) ?_
          generalize v36 * v37 = v38
          refine tz_put (r := 2) (k := 1) (t := (1, (-9223372036854775808), 9223372036854775807)) hx hb hD hh35 hdu rfl rfl ((hcl2 15 1 (1, (-9223372036854775808), 9223372036854775807) (by decide) rfl).2 (by decide)) (tz_l (zn_i64 _).1 (zn_i64 _).2) (eX3_scanNumber (80, .putfield 15, 3) (List.mem_of_getElem? (i := 41) rfl)) (fun H39 lo39 hh39 hf39 hk39 _ hq39 => ?_)
          have mf39_du_4 := (hk39.1 du 2 4 2 0 fsX3 hdu rfl (by decide) (by decide)).trans hf35
          have kp39 := kp35.trans (hk39.mono (ms' := duM) (fun x hx => by cases List.mem_singleton.mp hx; decide))
          have jm39 := (jm35).kept htx hk39 (by decide)
          have je39 := je35.kept hdu hk39 (by decide)
          refine lv_iload_n hx hb (eX3_scanNumber (83, .iload_n 3, 1) (List.mem_of_getElem? (i := 42) rfl)) rfl (lv_at hl 6 rfl) ?_
          have hfin : snF T fi la sg = ((la, 1), x31.2) := by rw [← htot]; first | (simp only [sn2F, hx31, if_pos d29, if_pos d31, up_eq]; done) | (simp only [sn2F, hx31, if_pos d29, if_pos d31, up_eq] <;> rfl) | rfl
          exact W.zret hx hb hr rfl (fun t ht hW => ⟨_, rfl, by rw [hfin]; show lv.toInt = la; omega, by rw [ht]; exact hh39.l0, by rw [ht]; exact kp39, by rw [ht, hfin]; exact jm39, by rw [ht, hfin]; exact je39⟩) hh39.2.2.1 (eX3_scanNumber (84, .ireturn, 1) (List.mem_of_getElem? (i := 43) rfl))
  refine lv_aload_n hx hb (eX3_scanNumber (18, .aload_n 1, 1) (List.mem_of_getElem? (i := 10) rfl)) rfl (lv_at hl8 4 rfl) ?_
  refine ff_bipush hx hb (eX3_scanNumber (19, .bipush 46, 2) (List.mem_of_getElem? (i := 11) rfl)) (by decide) (by decide) (fun v40 e40 => ?_)
  refine tz_rowV (As := [.int v40]) (st := []) (b := tx) (C := RX0) (Ts := gT) hx hb hml hown h2 (fun _ h => h) (hX0_take l D cA ro sz H0 tx v40 46 T (x3.2) htx (by omega) (by decide)) ⟨rfl, rfl⟩ ⟨by decide, by decide⟩ ⟨by decide, by decide⟩ (tb_4 8 rfl rfl) (tb_1 5 rfl rfl) (tb_5 158 rfl rfl) (tb_4 6 rfl rfl) (tb_4 7 rfl rfl) (show yX0_take.cls ≠ "java/lang/invoke/MethodHandle" ∧ yX0_take.cls ≠ "java/lang/invoke/VarHandle" ∧ (parseMethodDescriptor yX0_take.desc).map (fun d => d.parameters.length) = some 1 by decide +kernel) zs_blind (zs_ob hh3 htx (show RTg[0]? = some (0, 0, 0, fsX0) from rfl) (zCX0 hKn.1)) (fun U hU hW => ⟨rfl, by rw [hU]; exact hh3.l0, zKb s U hW.alike hKn, by rw [hU]; exact j3⟩) hh3.2.2.1 hl8.1 (Nat.le_of_ble_eq_true rfl) (eX3_scanNumber (21, .invokevirtual 46, 3) (List.mem_of_getElem? (i := 12) rfl)) (fun r41 s41 t41 lo41 g41 f41 l41 => ?_)
  obtain ⟨v41, q41, e41, z41, c41, j41, fx41⟩ := f41
  cases q41
  rw [g41] at c41 fx41
  have hh41 : zh_ok D cA RTg ro sz H0 t41.heap lo41 := ⟨z41.1, z41.2.1, l41, z41.2.2.2⟩
  have kp41 := kp3.trans (c41.mono (ms' := duM) (by decide))
  have kf41 := tkF_01 T 46 x3.2
  generalize hx41 : tkF T 46 x3.2 = x41 at j41 e41 kf41
  have uu41 := j41.2.2
  unfold uOK at uu41
  have mf41_tx_0 := (c41.1 tx 0 0 0 0 fsX0 htx rfl (by decide) (by decide)).trans mf3_tx_0
  have mf41_tx_1 := (c41.1 tx 0 1 0 0 fsX0 htx rfl (by decide) (by decide)).trans mf3_tx_1
  have je41 := je3.kept hdu c41 (by decide)
  refine W.eq (g2 := F0 m 24 ls8 [.int v41]) rfl ?_
  refine ff_if_ne hx hb (eX3_scanNumber (24, .ifCond .ne 12, 3) (List.mem_of_getElem? (i := 13) rfl)) (tgt := 36) rfl (fun c42 => ?_) (fun c42 => ?_)
  · skip
    have d41 : x41.1 = 1 := by omega
    refine lv_aload_n hx hb (eX3_scanNumber (36, .aload_n 0, 1) (List.mem_of_getElem? (i := 18) rfl)) rfl (lv_at hl8 3 rfl) ?_
    refine ff_iconst hx hb (eX3_scanNumber (37, .iconst 1, 1) (List.mem_of_getElem? (i := 19) rfl)) (by decide) (by decide) (fun v43 e43 => ?_)
    refine tz_put (r := 2) (k := 4) (t := (0, 0, 1)) hx hb hD hh41 hdu rfl rfl ((hcl2 24 4 (0, 0, 1) (by decide) rfl).2 (by decide)) (tz_i (by omega) (by omega)) (eX3_scanNumber (38, .putfield 24, 3) (List.mem_of_getElem? (i := 20) rfl)) (fun H44 lo44 hh44 hf44 hk44 _ hq44 => ?_)
    have mf44_tx_0 := (hk44.1 tx 0 0 0 0 fsX0 htx rfl (by decide) (by decide)).trans mf41_tx_0
    have mf44_tx_1 := (hk44.1 tx 0 1 0 0 fsX0 htx rfl (by decide) (by decide)).trans mf41_tx_1
    have kp44 := kp41.trans (hk44.mono (ms' := duM) (fun x hx => by cases List.mem_singleton.mp hx; decide))
    have jm44 := (j41).kept htx hk44 (by decide)
    have je44 : jE D H44 du 1 := ⟨_, hf44, by omega⟩
    refine lv_aload_n hx hb (eX3_scanNumber (41, .aload_n 1, 1) (List.mem_of_getElem? (i := 21) rfl)) rfl (lv_at hl8 4 rfl) ?_
    refine tz_rowV (As := []) (st := []) (b := tx) (C := RX0) (Ts := gT) hx hb hml hown h2 (fun _ h => h) (hX0_part l D cA ro sz H0 tx T (x41.2) htx) ⟨rfl, rfl⟩ ⟨by decide, by decide⟩ ⟨by decide, by decide⟩ (tb_5 13 rfl rfl) (tb_1 5 rfl rfl) (tb_5 159 rfl rfl) (tb_5 11 rfl rfl) (tb_5 12 rfl rfl) (show yX0_part.cls ≠ "java/lang/invoke/MethodHandle" ∧ yX0_part.cls ≠ "java/lang/invoke/VarHandle" ∧ (parseMethodDescriptor yX0_part.desc).map (fun d => d.parameters.length) = some 0 by decide +kernel) zs_blind (zs_ob hh44 htx (show RTg[0]? = some (0, 0, 0, fsX0) from rfl) (zCX0 hKn.1)) (fun U hU hW => ⟨rfl, by rw [hU]; exact hh44.l0, zKb s U hW.alike hKn, by rw [hU]; exact jm44⟩) hh44.2.2.1 hl8.1 (Nat.le_of_ble_eq_true rfl) (eX3_scanNumber (42, .invokevirtual 61, 3) (List.mem_of_getElem? (i := 22) rfl)) (fun r45 s45 t45 lo45 g45 f45 l45 => ?_)
    obtain ⟨v45, q45, e45, z45, c45, j45, fx45⟩ := f45
    cases q45
    rw [g45] at c45 fx45
    have hh45 : zh_ok D cA RTg ro sz H0 t45.heap lo45 := ⟨z45.1, z45.2.1, l45, z45.2.2.2⟩
    have kp45 := kp44.trans (c45.mono (ms' := duM) (by decide))
    have kf45 := ptF_bd T x41.2
    generalize hx45 : ptF T x41.2 = x45 at j45 e45 kf45
    have uu45 := j45.2.2
    unfold uOK at uu45
    have mf45_tx_0 := (c45.1 tx 0 0 0 0 fsX0 htx rfl (by decide) (by decide)).trans mf44_tx_0
    have mf45_tx_1 := (c45.1 tx 0 1 0 0 fsX0 htx rfl (by decide) (by decide)).trans mf44_tx_1
    have mf45_du_4 := (c45.1 du 2 4 2 0 fsX3 hdu rfl (by decide) (by decide)).trans hf44
    have je45 := je44.kept hdu c45 (by decide)
    refine W.eq (g2 := F0 m 45 ls8 [.int v45]) rfl ?_
    refine lv_istore hx hb (eX3_scanNumber (45, .istore 6, 2) (List.mem_of_getElem? (i := 23) rfl)) hl8 (by decide) rfl (fun ls46 hl46 => ?_)
    exact jn47 x45.2 1 (x45.1) v45 ls46 _ _ hh45 kp45 j45 je45 (by omega) (by omega) (by first | (simp only [snF, dpF, hx3, hx41, hx45, if_pos d41, up_eq]; done) | (simp only [snF, dpF, hx3, hx41, hx45, if_pos d41, up_eq] <;> rfl) | rfl) (lv_sub hl46 [0, 1, 2, 3, 4, 5, 6] rfl)
  · skip
    have d41 : ¬ x41.1 = 1 := by omega
    refine lv_aload_n hx hb (eX3_scanNumber (27, .aload_n 1, 1) (List.mem_of_getElem? (i := 14) rfl)) rfl (lv_at hl8 4 rfl) ?_
    refine ff_bipush hx hb (eX3_scanNumber (28, .bipush 44, 2) (List.mem_of_getElem? (i := 15) rfl)) (by decide) (by decide) (fun v47 e47 => ?_)
    refine tz_rowV (As := [.int v47]) (st := []) (b := tx) (C := RX0) (Ts := gT) hx hb hml hown h2 (fun _ h => h) (hX0_take l D cA ro sz H0 tx v47 44 T (x41.2) htx (by omega) (by decide)) ⟨rfl, rfl⟩ ⟨by decide, by decide⟩ ⟨by decide, by decide⟩ (tb_4 8 rfl rfl) (tb_1 5 rfl rfl) (tb_5 158 rfl rfl) (tb_4 6 rfl rfl) (tb_4 7 rfl rfl) (show yX0_take.cls ≠ "java/lang/invoke/MethodHandle" ∧ yX0_take.cls ≠ "java/lang/invoke/VarHandle" ∧ (parseMethodDescriptor yX0_take.desc).map (fun d => d.parameters.length) = some 1 by decide +kernel) zs_blind (zs_ob hh41 htx (show RTg[0]? = some (0, 0, 0, fsX0) from rfl) (zCX0 hKn.1)) (fun U hU hW => ⟨rfl, by rw [hU]; exact hh41.l0, zKb s U hW.alike hKn, by rw [hU]; exact j41⟩) hh41.2.2.1 hl8.1 (Nat.le_of_ble_eq_true rfl) (eX3_scanNumber (30, .invokevirtual 46, 3) (List.mem_of_getElem? (i := 16) rfl)) (fun r48 s48 t48 lo48 g48 f48 l48 => ?_)
    obtain ⟨v48, q48, e48, z48, c48, j48, fx48⟩ := f48
    cases q48
    rw [g48] at c48 fx48
    have hh48 : zh_ok D cA RTg ro sz H0 t48.heap lo48 := ⟨z48.1, z48.2.1, l48, z48.2.2.2⟩
    have kp48 := kp41.trans (c48.mono (ms' := duM) (by decide))
    have kf48 := tkF_01 T 44 x41.2
    generalize hx48 : tkF T 44 x41.2 = x48 at j48 e48 kf48
    have uu48 := j48.2.2
    unfold uOK at uu48
    have mf48_tx_0 := (c48.1 tx 0 0 0 0 fsX0 htx rfl (by decide) (by decide)).trans mf41_tx_0
    have mf48_tx_1 := (c48.1 tx 0 1 0 0 fsX0 htx rfl (by decide) (by decide)).trans mf41_tx_1
    have je48 := je41.kept hdu c48 (by decide)
    refine W.eq (g2 := F0 m 33 ls8 [.int v48]) rfl ?_
    refine ff_if_eq hx hb (eX3_scanNumber (33, .ifCond .eq 14, 3) (List.mem_of_getElem? (i := 17) rfl)) (tgt := 47) rfl (fun c49 => ?_) (fun c49 => ?_)
    · skip
      have d48 : ¬ x48.1 = 1 := by omega
      exact jn47 x48.2 0 (0) v7 ls8 _ _ hh48 kp48 j48 je48 (by omega) (by omega) (by first | (simp only [snF, dpF, hx3, hx41, hx48, if_neg d41, if_neg d48, up_eq]; done) | (simp only [snF, dpF, hx3, hx41, hx48, if_neg d41, if_neg d48, up_eq] <;> rfl) | rfl) (lv_sub hl8 [0, 1, 2, 3, 4, 5, 6] rfl)
    · skip
      have d48 : x48.1 = 1 := by omega
      refine lv_aload_n hx hb (eX3_scanNumber (36, .aload_n 0, 1) (List.mem_of_getElem? (i := 18) rfl)) rfl (lv_at hl8 3 rfl) ?_
      refine ff_iconst hx hb (eX3_scanNumber (37, .iconst 1, 1) (List.mem_of_getElem? (i := 19) rfl)) (by decide) (by decide) (fun v50 e50 => ?_)
      refine tz_put (r := 2) (k := 4) (t := (0, 0, 1)) hx hb hD hh48 hdu rfl rfl ((hcl2 24 4 (0, 0, 1) (by decide) rfl).2 (by decide)) (tz_i (by omega) (by omega)) (eX3_scanNumber (38, .putfield 24, 3) (List.mem_of_getElem? (i := 20) rfl)) (fun H51 lo51 hh51 hf51 hk51 _ hq51 => ?_)
      have mf51_tx_0 := (hk51.1 tx 0 0 0 0 fsX0 htx rfl (by decide) (by decide)).trans mf48_tx_0
      have mf51_tx_1 := (hk51.1 tx 0 1 0 0 fsX0 htx rfl (by decide) (by decide)).trans mf48_tx_1
      have kp51 := kp48.trans (hk51.mono (ms' := duM) (fun x hx => by cases List.mem_singleton.mp hx; decide))
      have jm51 := (j48).kept htx hk51 (by decide)
      have je51 : jE D H51 du 1 := ⟨_, hf51, by omega⟩
      refine lv_aload_n hx hb (eX3_scanNumber (41, .aload_n 1, 1) (List.mem_of_getElem? (i := 21) rfl)) rfl (lv_at hl8 4 rfl) ?_
      refine tz_rowV (As := []) (st := []) (b := tx) (C := RX0) (Ts := gT) hx hb hml hown h2 (fun _ h => h) (hX0_part l D cA ro sz H0 tx T (x48.2) htx) ⟨rfl, rfl⟩ ⟨by decide, by decide⟩ ⟨by decide, by decide⟩ (tb_5 13 rfl rfl) (tb_1 5 rfl rfl) (tb_5 159 rfl rfl) (tb_5 11 rfl rfl) (tb_5 12 rfl rfl) (show yX0_part.cls ≠ "java/lang/invoke/MethodHandle" ∧ yX0_part.cls ≠ "java/lang/invoke/VarHandle" ∧ (parseMethodDescriptor yX0_part.desc).map (fun d => d.parameters.length) = some 0 by decide +kernel) zs_blind (zs_ob hh51 htx (show RTg[0]? = some (0, 0, 0, fsX0) from rfl) (zCX0 hKn.1)) (fun U hU hW => ⟨rfl, by rw [hU]; exact hh51.l0, zKb s U hW.alike hKn, by rw [hU]; exact jm51⟩) hh51.2.2.1 hl8.1 (Nat.le_of_ble_eq_true rfl) (eX3_scanNumber (42, .invokevirtual 61, 3) (List.mem_of_getElem? (i := 22) rfl)) (fun r52 s52 t52 lo52 g52 f52 l52 => ?_)
      obtain ⟨v52, q52, e52, z52, c52, j52, fx52⟩ := f52
      cases q52
      rw [g52] at c52 fx52
      have hh52 : zh_ok D cA RTg ro sz H0 t52.heap lo52 := ⟨z52.1, z52.2.1, l52, z52.2.2.2⟩
      have kp52 := kp51.trans (c52.mono (ms' := duM) (by decide))
      have kf52 := ptF_bd T x48.2
      generalize hx52 : ptF T x48.2 = x52 at j52 e52 kf52
      have uu52 := j52.2.2
      unfold uOK at uu52
      have mf52_tx_0 := (c52.1 tx 0 0 0 0 fsX0 htx rfl (by decide) (by decide)).trans mf51_tx_0
      have mf52_tx_1 := (c52.1 tx 0 1 0 0 fsX0 htx rfl (by decide) (by decide)).trans mf51_tx_1
      have mf52_du_4 := (c52.1 du 2 4 2 0 fsX3 hdu rfl (by decide) (by decide)).trans hf51
      have je52 := je51.kept hdu c52 (by decide)
      refine W.eq (g2 := F0 m 45 ls8 [.int v52]) rfl ?_
      refine lv_istore hx hb (eX3_scanNumber (45, .istore 6, 2) (List.mem_of_getElem? (i := 23) rfl)) hl8 (by decide) rfl (fun ls53 hl53 => ?_)
      exact jn47 x52.2 1 (x52.1) v52 ls53 _ _ hh52 kp52 j52 je52 (by omega) (by omega) (by first | (simp only [snF, dpF, hx3, hx41, hx48, hx52, if_neg d41, if_pos d48, up_eq]; done) | (simp only [snF, dpF, hx3, hx41, hx48, hx52, if_neg d41, if_pos d48, up_eq] <;> rfl) | rfl) (lv_sub hl53 [0, 1, 2, 3, 4, 5, 6] rfl)
def fnD (x : Int × uS) : uS := if x.1 = 1 then flF x.2 else x.2
set_option maxRecDepth 100000 in
set_option maxHeartbeats 4000000 in
theorem hX3_scan (l : Launch) (D : va_G) (cA : Nat → ClassId) (ro : Nat → Option Nat) (sz : Nat) (H0 : Heap) (du : Nat) (tx : Nat) (T : List Int) (sg : uS) (hdu : ro du = some 2) (htx : ro tx = some 0) : Met l yX3_scan (gW yX3_scan cX3_scan 6 none) { frames := 4, cells := 0, slots := 0, locals := 91 } (zs_PC D cA ro sz H0 (fun H => jU D cA ro H tx T sg) [.ref du, .ref tx]) (fun _ st oc t => oc = .returned none ∧ zh_ok D cA RTg ro sz H0 t.heap [] ∧ zc_kept D RTg ro duM st.heap t.heap ∧ jU D cA ro t.heap tx T (duF T sg)) 0 0 (zy_fr sz) := by
  refine zy_ofW (cc := cX3_scan) (maxL := 6) (ret := none) (by decide +kernel) rfl ?_
  intro p e s m args below meth c s1 B hml hv
  obtain ⟨rfl, hh, ⟨hKn, hBQ, hLQ⟩, hJ⟩ := hv
  have hx := B.exec
  have hb := B.bytes
  have hr := B.returns
  have hlk := B.notSynchronized
  have hts0 := atoms_spec (ws := gW yX3_scan cX3_scan 6 none) B.pre
  have h2 : ∀ w ∈ gT, w.before ([.ref du, .ref tx] : List Value).toArray s = true := fun w hw => hts0 w (List.mem_cons_of_mem _ hw)
  have hown : s.vm.findClass RX3 = some m.cls := findClass_of_methodNamed B.named
  have hl := lv_entry [.ref du, .ref tx] (n := 6) (Nat.le_of_ble_eq_true rfl)
  rw [lg_entry_eq]
  generalize (lg_sl [.ref du, .ref tx] ++ List.replicate (6 - (lg_sl [.ref du, .ref tx]).length) Slot.unset).toArray = ls at hl ⊢
  have hD := zD_all h2 hKn.1
  have hcl0 := fun (idx k : Nat) (t : zt_T) (h : (idx, 0, k) ∈ gfX3) (hk : fsX0[k]? = some t) => zf_clause (ro := ro) (ms := duM) h2 hown hKn.1 gfX3_ok (by decide +kernel) idx 0 k 0 0 fsX0 t h rfl hk
  have hcl2 := fun (idx k : Nat) (t : zt_T) (h : (idx, 2, k) ∈ gfX3) (hk : fsX3[k]? = some t) => zf_clause (ro := ro) (ms := duM) h2 hown hKn.1 gfX3_ok (by decide +kernel) idx 2 k 2 0 fsX3 t h rfl hk
  have kp0 : zc_kept D RTg ro duM s.heap s.heap := zc_kept.refl
  obtain ⟨hjt, ⟨av, bv, wv, f2, f3, f4, hav, hbv, hwv⟩, hu⟩ := id hJ
  obtain ⟨tb, n, z, f0, r0, f1, hn, hc, hz⟩ := id hjt
  obtain ⟨n9, g9, n1, n2⟩ := zh_fT (k := 1) (t := (0, 0, 120)) hh htx (show RTg[0]? = some (0, 0, 0, fsX0) from rfl) rfl
  cases f1.symm.trans g9
  dsimp only at n1 n2
  clear g9
  obtain ⟨-, z9, c9, hy9⟩ := zh_arr hh r0 (show RTg[12]? = some (1, 2, 120, [(0, (-128), 127)]) from rfl)
  have hy : ∀ i, i < 120 → zt_ok ro (z i) (0, (-128), 127) := zs_arr (hc.symm.trans c9) hy9
  obtain ⟨u1, u2, u3⟩ := id hu
  refine lv_aload_n hx hb (eX3_scan (0, .aload_n 0, 1) (List.mem_of_getElem? (i := 0) rfl)) rfl (lv_at hl 0 rfl) ?_
  refine ff_lconst hx hb (eX3_scan (1, .lconst 0, 1) (List.mem_of_getElem? (i := 1) rfl)) rfl (fun v1 e1 => ?_)
  refine tz_put (r := 2) (k := 0) (t := (1, (-9223372036854775808), 9223372036854775807)) hx hb hD hh hdu rfl rfl ((hcl2 9 0 (1, (-9223372036854775808), 9223372036854775807) (by decide) rfl).2 (by decide)) (tz_l (zn_i64 _).1 (zn_i64 _).2) (eX3_scan (2, .putfield 9, 3) (List.mem_of_getElem? (i := 2) rfl)) (fun H2 lo2 hh2 hf2 hk2 _ hq2 => ?_)
  have mf2_tx_0 := (hk2.1 tx 0 0 0 0 fsX0 htx rfl (by decide) (by decide)).trans f0
  have mf2_tx_1 := (hk2.1 tx 0 1 0 0 fsX0 htx rfl (by decide) (by decide)).trans f1
  have mf2_tx_2 := (hk2.1 tx 0 2 0 0 fsX0 htx rfl (by decide) (by decide)).trans f2
  have mf2_tx_3 := (hk2.1 tx 0 3 0 0 fsX0 htx rfl (by decide) (by decide)).trans f3
  have mf2_tx_4 := (hk2.1 tx 0 4 0 0 fsX0 htx rfl (by decide) (by decide)).trans f4
  have mc2_tb := (hk2.2 tb 12 0 2 120 _ r0 rfl (by decide)).trans hc
  have kp2 := kp0.trans (hk2.mono (ms' := duM) (fun x hx => by cases List.mem_singleton.mp hx; decide))
  have jm2 := (hJ).kept htx hk2 (by decide)
  refine lv_aload_n hx hb (eX3_scan (5, .aload_n 0, 1) (List.mem_of_getElem? (i := 3) rfl)) rfl (lv_at hl 0 rfl) ?_
  refine ff_lconst hx hb (eX3_scan (6, .lconst 0, 1) (List.mem_of_getElem? (i := 4) rfl)) rfl (fun v3 e3 => ?_)
  refine tz_put (r := 2) (k := 1) (t := (1, (-9223372036854775808), 9223372036854775807)) hx hb hD hh2 hdu rfl rfl ((hcl2 15 1 (1, (-9223372036854775808), 9223372036854775807) (by decide) rfl).2 (by decide)) (tz_l (zn_i64 _).1 (zn_i64 _).2) (eX3_scan (7, .putfield 15, 3) (List.mem_of_getElem? (i := 5) rfl)) (fun H4 lo4 hh4 hf4 hk4 _ hq4 => ?_)
  have mf4_tx_0 := (hk4.1 tx 0 0 0 0 fsX0 htx rfl (by decide) (by decide)).trans mf2_tx_0
  have mf4_tx_1 := (hk4.1 tx 0 1 0 0 fsX0 htx rfl (by decide) (by decide)).trans mf2_tx_1
  have mf4_tx_2 := (hk4.1 tx 0 2 0 0 fsX0 htx rfl (by decide) (by decide)).trans mf2_tx_2
  have mf4_tx_3 := (hk4.1 tx 0 3 0 0 fsX0 htx rfl (by decide) (by decide)).trans mf2_tx_3
  have mf4_tx_4 := (hk4.1 tx 0 4 0 0 fsX0 htx rfl (by decide) (by decide)).trans mf2_tx_4
  have mf4_du_0 := (hk4.1 du 2 0 2 0 fsX3 hdu rfl (by decide) (by decide)).trans hf2
  have mc4_tb := (hk4.2 tb 12 0 2 120 _ r0 rfl (by decide)).trans mc2_tb
  have kp4 := kp2.trans (hk4.mono (ms' := duM) (fun x hx => by cases List.mem_singleton.mp hx; decide))
  have jm4 := (jm2).kept htx hk4 (by decide)
  refine lv_aload_n hx hb (eX3_scan (10, .aload_n 0, 1) (List.mem_of_getElem? (i := 6) rfl)) rfl (lv_at hl 0 rfl) ?_
  refine ff_lconst hx hb (eX3_scan (11, .lconst 0, 1) (List.mem_of_getElem? (i := 7) rfl)) rfl (fun v5 e5 => ?_)
  refine tz_put (r := 2) (k := 2) (t := (1, (-9223372036854775808), 9223372036854775807)) hx hb hD hh4 hdu rfl rfl ((hcl2 18 2 (1, (-9223372036854775808), 9223372036854775807) (by decide) rfl).2 (by decide)) (tz_l (zn_i64 _).1 (zn_i64 _).2) (eX3_scan (12, .putfield 18, 3) (List.mem_of_getElem? (i := 8) rfl)) (fun H6 lo6 hh6 hf6 hk6 _ hq6 => ?_)
  have mf6_tx_0 := (hk6.1 tx 0 0 0 0 fsX0 htx rfl (by decide) (by decide)).trans mf4_tx_0
  have mf6_tx_1 := (hk6.1 tx 0 1 0 0 fsX0 htx rfl (by decide) (by decide)).trans mf4_tx_1
  have mf6_tx_2 := (hk6.1 tx 0 2 0 0 fsX0 htx rfl (by decide) (by decide)).trans mf4_tx_2
  have mf6_tx_3 := (hk6.1 tx 0 3 0 0 fsX0 htx rfl (by decide) (by decide)).trans mf4_tx_3
  have mf6_tx_4 := (hk6.1 tx 0 4 0 0 fsX0 htx rfl (by decide) (by decide)).trans mf4_tx_4
  have mf6_du_0 := (hk6.1 du 2 0 2 0 fsX3 hdu rfl (by decide) (by decide)).trans mf4_du_0
  have mf6_du_1 := (hk6.1 du 2 1 2 0 fsX3 hdu rfl (by decide) (by decide)).trans hf4
  have mc6_tb := (hk6.2 tb 12 0 2 120 _ r0 rfl (by decide)).trans mc4_tb
  have kp6 := kp4.trans (hk6.mono (ms' := duM) (fun x hx => by cases List.mem_singleton.mp hx; decide))
  have jm6 := (jm4).kept htx hk6 (by decide)
  refine lv_aload_n hx hb (eX3_scan (15, .aload_n 0, 1) (List.mem_of_getElem? (i := 9) rfl)) rfl (lv_at hl 0 rfl) ?_
  refine ff_lconst hx hb (eX3_scan (16, .lconst 0, 1) (List.mem_of_getElem? (i := 10) rfl)) rfl (fun v7 e7 => ?_)
  refine tz_put (r := 2) (k := 3) (t := (1, (-9223372036854775808), 9223372036854775807)) hx hb hD hh6 hdu rfl rfl ((hcl2 21 3 (1, (-9223372036854775808), 9223372036854775807) (by decide) rfl).2 (by decide)) (tz_l (zn_i64 _).1 (zn_i64 _).2) (eX3_scan (17, .putfield 21, 3) (List.mem_of_getElem? (i := 11) rfl)) (fun H8 lo8 hh8 hf8 hk8 _ hq8 => ?_)
  have mf8_tx_0 := (hk8.1 tx 0 0 0 0 fsX0 htx rfl (by decide) (by decide)).trans mf6_tx_0
  have mf8_tx_1 := (hk8.1 tx 0 1 0 0 fsX0 htx rfl (by decide) (by decide)).trans mf6_tx_1
  have mf8_tx_2 := (hk8.1 tx 0 2 0 0 fsX0 htx rfl (by decide) (by decide)).trans mf6_tx_2
  have mf8_tx_3 := (hk8.1 tx 0 3 0 0 fsX0 htx rfl (by decide) (by decide)).trans mf6_tx_3
  have mf8_tx_4 := (hk8.1 tx 0 4 0 0 fsX0 htx rfl (by decide) (by decide)).trans mf6_tx_4
  have mf8_du_0 := (hk8.1 du 2 0 2 0 fsX3 hdu rfl (by decide) (by decide)).trans mf6_du_0
  have mf8_du_1 := (hk8.1 du 2 1 2 0 fsX3 hdu rfl (by decide) (by decide)).trans mf6_du_1
  have mf8_du_2 := (hk8.1 du 2 2 2 0 fsX3 hdu rfl (by decide) (by decide)).trans hf6
  have mc8_tb := (hk8.2 tb 12 0 2 120 _ r0 rfl (by decide)).trans mc6_tb
  have kp8 := kp6.trans (hk8.mono (ms' := duM) (fun x hx => by cases List.mem_singleton.mp hx; decide))
  have jm8 := (jm6).kept htx hk8 (by decide)
  refine lv_aload_n hx hb (eX3_scan (20, .aload_n 0, 1) (List.mem_of_getElem? (i := 12) rfl)) rfl (lv_at hl 0 rfl) ?_
  refine ff_iconst hx hb (eX3_scan (21, .iconst 0, 1) (List.mem_of_getElem? (i := 13) rfl)) (by decide) (by decide) (fun v9 e9 => ?_)
  refine tz_put (r := 2) (k := 4) (t := (0, 0, 1)) hx hb hD hh8 hdu rfl rfl ((hcl2 24 4 (0, 0, 1) (by decide) rfl).2 (by decide)) (tz_i (by omega) (by omega)) (eX3_scan (22, .putfield 24, 3) (List.mem_of_getElem? (i := 14) rfl)) (fun H10 lo10 hh10 hf10 hk10 _ hq10 => ?_)
  have mf10_tx_0 := (hk10.1 tx 0 0 0 0 fsX0 htx rfl (by decide) (by decide)).trans mf8_tx_0
  have mf10_tx_1 := (hk10.1 tx 0 1 0 0 fsX0 htx rfl (by decide) (by decide)).trans mf8_tx_1
  have mf10_tx_2 := (hk10.1 tx 0 2 0 0 fsX0 htx rfl (by decide) (by decide)).trans mf8_tx_2
  have mf10_tx_3 := (hk10.1 tx 0 3 0 0 fsX0 htx rfl (by decide) (by decide)).trans mf8_tx_3
  have mf10_tx_4 := (hk10.1 tx 0 4 0 0 fsX0 htx rfl (by decide) (by decide)).trans mf8_tx_4
  have mf10_du_0 := (hk10.1 du 2 0 2 0 fsX3 hdu rfl (by decide) (by decide)).trans mf8_du_0
  have mf10_du_1 := (hk10.1 du 2 1 2 0 fsX3 hdu rfl (by decide) (by decide)).trans mf8_du_1
  have mf10_du_2 := (hk10.1 du 2 2 2 0 fsX3 hdu rfl (by decide) (by decide)).trans mf8_du_2
  have mf10_du_3 := (hk10.1 du 2 3 2 0 fsX3 hdu rfl (by decide) (by decide)).trans hf8
  have mc10_tb := (hk10.2 tb 12 0 2 120 _ r0 rfl (by decide)).trans mc8_tb
  have kp10 := kp8.trans (hk10.mono (ms' := duM) (fun x hx => by cases List.mem_singleton.mp hx; decide))
  have jm10 := (jm8).kept htx hk10 (by decide)
  have je10 : jE D H10 du 0 := ⟨_, hf10, by omega⟩
  refine lv_aload_n hx hb (eX3_scan (25, .aload_n 1, 1) (List.mem_of_getElem? (i := 15) rfl)) rfl (lv_at hl 1 rfl) ?_
  refine ff_bipush hx hb (eX3_scan (26, .bipush 80, 2) (List.mem_of_getElem? (i := 16) rfl)) (by decide) (by decide) (fun v11 e11 => ?_)
  refine tz_rowV (As := [.int v11]) (st := []) (b := tx) (C := RX0) (Ts := gT) hx hb hml hown h2 (fun _ h => h) (hX0_need l D cA ro sz H0 tx v11 80 T (sg) htx (by omega) (by decide)) ⟨rfl, rfl⟩ ⟨by decide, by decide⟩ ⟨by decide, by decide⟩ (tb_4 44 rfl rfl) (tb_1 5 rfl rfl) (tb_5 149 rfl rfl) (tb_4 42 rfl rfl) (tb_4 43 rfl rfl) (show yX0_need.cls ≠ "java/lang/invoke/MethodHandle" ∧ yX0_need.cls ≠ "java/lang/invoke/VarHandle" ∧ (parseMethodDescriptor yX0_need.desc).map (fun d => d.parameters.length) = some 1 by decide +kernel) zs_blind (zs_ob hh10 htx (show RTg[0]? = some (0, 0, 0, fsX0) from rfl) (zCX0 hKn.1)) (fun U hU hW => ⟨rfl, by rw [hU]; exact hh10.l0, zKb s U hW.alike hKn, by rw [hU]; exact jm10⟩) hh10.2.2.1 hl.1 (Nat.le_of_ble_eq_true rfl) (eX3_scan (28, .invokevirtual 28, 3) (List.mem_of_getElem? (i := 17) rfl)) (fun r12 s12 t12 lo12 g12 f12 l12 => ?_)
  obtain ⟨q12, z12, c12, j12, fx12⟩ := f12
  cases q12
  rw [g12] at c12 fx12
  have hh12 : zh_ok D cA RTg ro sz H0 t12.heap lo12 := ⟨z12.1, z12.2.1, l12, z12.2.2.2⟩
  have kp12 := kp10.trans (c12.mono (ms' := duM) (by decide))
  generalize hx12 : ndF T 80 sg = x12 at j12
  have uu12 := j12.2.2
  unfold uOK at uu12
  have mf12_tx_0 := (c12.1 tx 0 0 0 0 fsX0 htx rfl (by decide) (by decide)).trans mf10_tx_0
  have mf12_tx_1 := (c12.1 tx 0 1 0 0 fsX0 htx rfl (by decide) (by decide)).trans mf10_tx_1
  have mf12_du_0 := (c12.1 du 2 0 2 0 fsX3 hdu rfl (by decide) (by decide)).trans mf10_du_0
  have mf12_du_1 := (c12.1 du 2 1 2 0 fsX3 hdu rfl (by decide) (by decide)).trans mf10_du_1
  have mf12_du_2 := (c12.1 du 2 2 2 0 fsX3 hdu rfl (by decide) (by decide)).trans mf10_du_2
  have mf12_du_3 := (c12.1 du 2 3 2 0 fsX3 hdu rfl (by decide) (by decide)).trans mf10_du_3
  have mf12_du_4 := (c12.1 du 2 4 2 0 fsX3 hdu rfl (by decide) (by decide)).trans hf10
  have je12 := je10.kept hdu c12 (by decide)
  refine W.eq (g2 := F0 m 31 ls []) rfl ?_
  refine ff_iconst hx hb (eX3_scan (31, .iconst 1, 1) (List.mem_of_getElem? (i := 18) rfl)) (by decide) (by decide) (fun v13 e13 => ?_)
  refine lv_istore_n hx hb (eX3_scan (32, .istore_n 2, 1) (List.mem_of_getElem? (i := 19) rfl)) rfl hl (by decide) rfl (fun ls14 hl14 => ?_)
  refine ff_iconst hx hb (eX3_scan (33, .iconst 0, 1) (List.mem_of_getElem? (i := 20) rfl)) (by decide) (by decide) (fun v15 e15 => ?_)
  refine lv_istore_n hx hb (eX3_scan (34, .istore_n 3, 1) (List.mem_of_getElem? (i := 21) rfl)) rfl hl14 (by decide) rfl (fun ls16 hl16 => ?_)
  refine ff_iconst hx hb (eX3_scan (35, .iconst 2, 1) (List.mem_of_getElem? (i := 22) rfl)) (by decide) (by decide) (fun v17 e17 => ?_)
  refine lv_istore hx hb (eX3_scan (36, .istore 4, 2) (List.mem_of_getElem? (i := 23) rfl)) hl16 (by decide) rfl (fun ls18 hl18 => ?_)
  refine ff_iconst hx hb (eX3_scan (38, .iconst 0, 1) (List.mem_of_getElem? (i := 24) rfl)) (by decide) (by decide) (fun v19 e19 => ?_)
  refine lv_istore hx hb (eX3_scan (39, .istore 5, 2) (List.mem_of_getElem? (i := 25) rfl)) hl18 (by decide) rfl (fun ls20 hl20 => ?_)
  have jn114 : ∀ (op : Int) (gj : uS) (ov : Int32) (ls : Array Slot) (H : Heap) (lo0 : List Loc), zh_ok D cA RTg ro sz H0 H lo0 → zc_kept D RTg ro duM s.heap H → jU D cA ro H tx T gj → ov.toInt = op → (op = 0 ∨ op = 1) → fnD (op, gj) = duF T sg → lv_has ls 6 [(2, .int ov), (0, .ref du), (1, .ref tx)] → W p l e (headSpec (gW yX3_scan cX3_scan 6 none) { frames := 4, cells := 0, slots := 0, locals := 91 }).room s m ([.ref du, .ref tx] : List Value).toArray below meth c H lo0 0 0 (MQ below (fun _ st oc t => oc = .returned none ∧ zh_ok D cA RTg ro sz H0 t.heap [] ∧ zc_kept D RTg ro duM st.heap t.heap ∧ jU D cA ro t.heap tx T (duF T sg)) ([.ref du, .ref tx] : List Value).toArray s 0 0 (zy_fr sz)) (F0 m 114 ls []) := by
    intro op gj ov ls H lo0 hh0 kpl jl hov hop htot hl
    have hul := jl.2.2
    unfold uOK at hul
    refine lv_iload_n hx hb (eX3_scan (114, .iload_n 2, 1) (List.mem_of_getElem? (i := 65) rfl)) rfl (lv_at hl 0 rfl) ?_
    refine ff_if_eq hx hb (eX3_scan (115, .ifCond .eq 7, 3) (List.mem_of_getElem? (i := 66) rfl)) (tgt := 122) rfl (fun c21 => ?_) (fun c21 => ?_)
    · skip
      have d22 : ¬ op = 1 := by omega
      have hfin : duF T sg = gj := by rw [← htot]; first | (simp only [fnD, if_neg d22, up_eq]; done) | (simp only [fnD, if_neg d22, up_eq] <;> rfl) | rfl
      exact W.vret hx hb hr (fun t ht hW => ⟨rfl, by rw [ht]; exact hh0.l0, by rw [ht]; exact kpl, by rw [ht, hfin]; exact jl⟩) hh0.2.2.1 (eX3_scan (122, .return_, 1) (List.mem_of_getElem? (i := 69) rfl))
    · skip
      have d23 : op = 1 := by omega
      refine lv_aload_n hx hb (eX3_scan (118, .aload_n 1, 1) (List.mem_of_getElem? (i := 67) rfl)) rfl (lv_at hl 2 rfl) ?_
      refine tz_rowV (As := []) (st := []) (b := tx) (C := RX0) (Ts := gT) hx hb hml hown h2 (fun _ h => h) (hX0_fail l D cA ro sz H0 tx T (gj) htx) ⟨rfl, rfl⟩ ⟨by decide, by decide⟩ ⟨by decide, by decide⟩ (tb_4 40 rfl rfl) (tb_1 5 rfl rfl) (tb_5 169 rfl rfl) (tb_4 38 rfl rfl) (tb_4 39 rfl rfl) (show yX0_fail.cls ≠ "java/lang/invoke/MethodHandle" ∧ yX0_fail.cls ≠ "java/lang/invoke/VarHandle" ∧ (parseMethodDescriptor yX0_fail.desc).map (fun d => d.parameters.length) = some 0 by decide +kernel) zs_blind (zs_ob hh0 htx (show RTg[0]? = some (0, 0, 0, fsX0) from rfl) (zCX0 hKn.1)) (fun U hU hW => ⟨rfl, by rw [hU]; exact hh0.l0, zKb s U hW.alike hKn, by rw [hU]; exact jl⟩) hh0.2.2.1 hl.1 (Nat.le_of_ble_eq_true rfl) (eX3_scan (119, .invokevirtual 50, 3) (List.mem_of_getElem? (i := 68) rfl)) (fun r24 s24 t24 lo24 g24 f24 l24 => ?_)
      obtain ⟨q24, z24, c24, j24, fx24⟩ := f24
      cases q24
      rw [g24] at c24 fx24
      have hh24 : zh_ok D cA RTg ro sz H0 t24.heap lo24 := ⟨z24.1, z24.2.1, l24, z24.2.2.2⟩
      have kp24 := kpl.trans (c24.mono (ms' := duM) (by decide))
      generalize hx24 : flF gj = x24 at j24
      have uu24 := j24.2.2
      unfold uOK at uu24
      refine W.eq (g2 := F0 m 122 ls []) rfl ?_
      have hfin : duF T sg = x24 := by rw [← htot]; first | (simp only [fnD, hx24, if_pos d23, up_eq]; done) | (simp only [fnD, hx24, if_pos d23, up_eq] <;> rfl) | rfl
      exact W.vret hx hb hr (fun t ht hW => ⟨rfl, by rw [ht]; exact hh24.l0, by rw [ht]; exact kp24, by rw [ht, hfin]; exact j24⟩) hh24.2.2.1 (eX3_scan (122, .return_, 1) (List.mem_of_getElem? (i := 69) rfl))
  have loop : ∀ (n0 : Nat) (op rk la en : Int) (gj : uS) (ov rv lv iv : Int32) (ls : Array Slot) (H : Heap) (lo0 : List Loc), zh_ok D cA RTg ro sz H0 H lo0 → zc_kept D RTg ro duM s.heap H → jU D cA ro H tx T gj → jE D H du en → ov.toInt = op → rv.toInt = rk → lv.toInt = la → iv.toInt + n0 = 7 → 0 ≤ iv.toInt → (op = 0 ∨ op = 1) → (en = 0 ∨ en = 1) → (0 ≤ rk ∧ rk ≤ 6) → (la = 2 ∨ la = 5) → fnD (duR T n0 rk la op en gj) = duF T sg → lv_has ls 6 [(2, .int ov), (3, .int rv), (4, .int lv), (5, .int iv), (0, .ref du), (1, .ref tx)] → W p l e (headSpec (gW yX3_scan cX3_scan 6 none) { frames := 4, cells := 0, slots := 0, locals := 91 }).room s m ([.ref du, .ref tx] : List Value).toArray below meth c H lo0 0 0 (MQ below (fun _ st oc t => oc = .returned none ∧ zh_ok D cA RTg ro sz H0 t.heap [] ∧ zc_kept D RTg ro duM st.heap t.heap ∧ jU D cA ro t.heap tx T (duF T sg)) ([.ref du, .ref tx] : List Value).toArray s 0 0 (zy_fr sz)) (F0 m 41 ls []) := by
    intro n0
    induction n0 with
    | zero =>
      intro op rk la en gj ov rv lv iv ls H lo0 hh0 kpl jl jel hov hrv hlv hiv hiv0 hop hen hrk hla htot hl
      have hul := jl.2.2
      unfold uOK at hul
      refine lv_iload hx hb (eX3_scan (41, .iload 5, 2) (List.mem_of_getElem? (i := 26) rfl)) (lv_at hl 3 rfl) ?_
      refine zs_get hx hb hown hLQ.1 hh0 (h2 _ (tb_5 150 rfl rfl)) (eX3_scan (43, .getstatic 34, 3) (List.mem_of_getElem? (i := 27) rfl)) (fun a25 cl25 ac25 az25 aA25 => ?_)
      refine zs_len hx hb (by decide) ac25 aA25 (eX3_scan (46, .arraylength, 1) (List.mem_of_getElem? (i := 28) rfl)) (fun v26 e26 => ?_)
      refine ff_icmp_gt hx hb (eX3_scan (47, .if_icmp .gt 67, 3) (List.mem_of_getElem? (i := 29) rfl)) (tgt := 114) rfl (fun c27 => ?_) (fun c27 => (by exfalso; omega))
      exact jn114 op gj ov ls _ _ hh0 kpl jl (by omega) (by omega) (by rw [← htot]; exact congrArg fnD (by rfl)) (lv_sub hl [0, 4, 5] rfl)
    | succ n0 ih =>
      intro op rk la en gj ov rv lv iv ls H lo0 hh0 kpl jl jel hov hrv hlv hiv hiv0 hop hen hrk hla htot hl
      have hul := jl.2.2
      unfold uOK at hul
      refine lv_iload hx hb (eX3_scan (41, .iload 5, 2) (List.mem_of_getElem? (i := 26) rfl)) (lv_at hl 3 rfl) ?_
      refine zs_get hx hb hown hLQ.1 hh0 (h2 _ (tb_5 150 rfl rfl)) (eX3_scan (43, .getstatic 34, 3) (List.mem_of_getElem? (i := 27) rfl)) (fun a28 cl28 ac28 az28 aA28 => ?_)
      refine zs_len hx hb (by decide) ac28 aA28 (eX3_scan (46, .arraylength, 1) (List.mem_of_getElem? (i := 28) rfl)) (fun v29 e29 => ?_)
      refine ff_icmp_gt hx hb (eX3_scan (47, .if_icmp .gt 67, 3) (List.mem_of_getElem? (i := 29) rfl)) (tgt := 114) rfl (fun c30 => (by exfalso; omega)) (fun c30 => ?_)
      refine lv_aload_n hx hb (eX3_scan (50, .aload_n 0, 1) (List.mem_of_getElem? (i := 30) rfl)) rfl (lv_at hl 4 rfl) ?_
      obtain ⟨v31, fa31, e31⟩ := id jel
      refine tz_get (r := 2) (k := 4) (t := (0, 0, 1)) hx hb hh0 hdu rfl rfl (hcl2 24 4 (0, 0, 1) (by decide) rfl).1 fa31 (eX3_scan (51, .getfield 24, 3) (List.mem_of_getElem? (i := 31) rfl)) ?_
      refine ff_if_ne hx hb (eX3_scan (54, .ifCond .ne 60, 3) (List.mem_of_getElem? (i := 32) rfl)) (tgt := 114) rfl (fun c32 => ?_) (fun c32 => ?_)
      · skip
        have d33 : en = 1 := by omega
        exact jn114 op gj ov ls _ _ hh0 kpl jl (by omega) (by omega) (by rw [← htot]; exact congrArg fnD (by first | (simp only [duR, if_pos d33, up_eq]; done) | (simp only [duR, if_pos d33, up_eq] <;> rfl) | rfl)) (lv_sub hl [0, 4, 5] rfl)
      · skip
        have d34 : ¬ en = 1 := by omega
        have hen0 : en = 0 := by omega
        subst hen0
        refine lv_iload_n hx hb (eX3_scan (57, .iload_n 3, 1) (List.mem_of_getElem? (i := 33) rfl)) rfl (lv_at hl 1 rfl) ?_
        refine lv_iload hx hb (eX3_scan (58, .iload 4, 2) (List.mem_of_getElem? (i := 34) rfl)) (lv_at hl 2 rfl) ?_
        refine ff_icmp_gt hx hb (eX3_scan (60, .if_icmp .gt 26, 3) (List.mem_of_getElem? (i := 35) rfl)) (tgt := 86) rfl (fun c35 => ?_) (fun c35 => ?_)
        · skip
          have d36 : ¬ (rk ≤ la ∧ 0 ≤ dgF T gj) := by omega
          refine lv_iload hx hb (eX3_scan (86, .iload 4, 2) (List.mem_of_getElem? (i := 50) rfl)) (lv_at hl 2 rfl) ?_
          refine ff_iconst hx hb (eX3_scan (88, .iconst 2, 1) (List.mem_of_getElem? (i := 51) rfl)) (by decide) (by decide) (fun v37 e37 => ?_)
          refine ff_icmp_ne hx hb (eX3_scan (89, .if_icmp .ne 25, 3) (List.mem_of_getElem? (i := 52) rfl)) (tgt := 114) rfl (fun c38 => ?_) (fun c38 => ?_)
          · skip
            have d39 : ¬ la = 2 := by omega
            exact jn114 op gj ov ls _ _ hh0 kpl jl (by omega) (by omega) (by rw [← htot]; exact congrArg fnD (by first | (simp only [duR, if_neg d34, if_neg d36, if_neg d39, up_eq]; done) | (simp only [duR, if_neg d34, if_neg d36, if_neg d39, up_eq] <;> rfl) | rfl)) (lv_sub hl [0, 4, 5] rfl)
          · skip
            have d40 : la = 2 := by omega
            refine lv_aload_n hx hb (eX3_scan (92, .aload_n 1, 1) (List.mem_of_getElem? (i := 53) rfl)) rfl (lv_at hl 5 rfl) ?_
            refine ff_bipush hx hb (eX3_scan (93, .bipush 84, 2) (List.mem_of_getElem? (i := 54) rfl)) (by decide) (by decide) (fun v41 e41 => ?_)
            refine tz_rowV (As := [.int v41]) (st := []) (b := tx) (C := RX0) (Ts := gT) hx hb hml hown h2 (fun _ h => h) (hX0_take l D cA ro sz H0 tx v41 84 T (gj) htx (by omega) (by decide)) ⟨rfl, rfl⟩ ⟨by decide, by decide⟩ ⟨by decide, by decide⟩ (tb_4 8 rfl rfl) (tb_1 5 rfl rfl) (tb_5 158 rfl rfl) (tb_4 6 rfl rfl) (tb_4 7 rfl rfl) (show yX0_take.cls ≠ "java/lang/invoke/MethodHandle" ∧ yX0_take.cls ≠ "java/lang/invoke/VarHandle" ∧ (parseMethodDescriptor yX0_take.desc).map (fun d => d.parameters.length) = some 1 by decide +kernel) zs_blind (zs_ob hh0 htx (show RTg[0]? = some (0, 0, 0, fsX0) from rfl) (zCX0 hKn.1)) (fun U hU hW => ⟨rfl, by rw [hU]; exact hh0.l0, zKb s U hW.alike hKn, by rw [hU]; exact jl⟩) hh0.2.2.1 hl.1 (Nat.le_of_ble_eq_true rfl) (eX3_scan (95, .invokevirtual 46, 3) (List.mem_of_getElem? (i := 55) rfl)) (fun r42 s42 t42 lo42 g42 f42 l42 => ?_)
            obtain ⟨v42, q42, e42, z42, c42, j42, fx42⟩ := f42
            cases q42
            rw [g42] at c42 fx42
            have hh42 : zh_ok D cA RTg ro sz H0 t42.heap lo42 := ⟨z42.1, z42.2.1, l42, z42.2.2.2⟩
            have kp42 := kpl.trans (c42.mono (ms' := duM) (by decide))
            have kf42 := tkF_01 T 84 gj
            generalize hx42 : tkF T 84 gj = x42 at j42 e42 kf42
            have uu42 := j42.2.2
            unfold uOK at uu42
            have mf42_du_4 := (c42.1 du 2 4 2 0 fsX3 hdu rfl (by decide) (by decide)).trans fa31
            have je42 := jel.kept hdu c42 (by decide)
            refine W.eq (g2 := F0 m 98 ls [.int v42]) rfl ?_
            refine ff_if_eq hx hb (eX3_scan (98, .ifCond .eq 16, 3) (List.mem_of_getElem? (i := 56) rfl)) (tgt := 114) rfl (fun c43 => ?_) (fun c43 => ?_)
            · skip
              have d42 : ¬ x42.1 = 1 := by omega
              exact jn114 op x42.2 ov ls _ _ hh42 kp42 j42 (by omega) (by omega) (by rw [← htot]; exact congrArg fnD (by first | (simp only [duR, hx42, if_neg d34, if_neg d36, if_pos d40, if_neg d42, up_eq]; done) | (simp only [duR, hx42, if_neg d34, if_neg d36, if_pos d40, if_neg d42, up_eq] <;> rfl) | rfl)) (lv_sub hl [0, 4, 5] rfl)
            · skip
              have d42 : x42.1 = 1 := by omega
              refine ff_iconst hx hb (eX3_scan (101, .iconst 3, 1) (List.mem_of_getElem? (i := 57) rfl)) (by decide) (by decide) (fun v44 e44 => ?_)
              refine lv_istore_n hx hb (eX3_scan (102, .istore_n 3, 1) (List.mem_of_getElem? (i := 58) rfl)) rfl hl (by decide) rfl (fun ls45 hl45 => ?_)
              refine ff_iconst hx hb (eX3_scan (103, .iconst 5, 1) (List.mem_of_getElem? (i := 59) rfl)) (by decide) (by decide) (fun v46 e46 => ?_)
              refine lv_istore hx hb (eX3_scan (104, .istore 4, 2) (List.mem_of_getElem? (i := 60) rfl)) hl45 (by decide) rfl (fun ls47 hl47 => ?_)
              refine ff_iconst hx hb (eX3_scan (106, .iconst 1, 1) (List.mem_of_getElem? (i := 61) rfl)) (by decide) (by decide) (fun v48 e48 => ?_)
              refine lv_istore_n hx hb (eX3_scan (107, .istore_n 2, 1) (List.mem_of_getElem? (i := 62) rfl)) rfl hl47 (by decide) rfl (fun ls49 hl49 => ?_)
              refine ff_iinc (k := 3) hx hb (eX3_scan (108, .iinc 5 1, 3) (List.mem_of_getElem? (i := 63) rfl)) hl49 rfl (by decide) (by decide) (by decide) (by omega) (by omega) (fun v50 e50 ls50 hl50 => ?_)
              refine lv_goto hx hb (eX3_scan (111, .goto (-70), 3) (List.mem_of_getElem? (i := 64) rfl)) (tgt := 41) rfl ?_
              exact ih 1 3 5 0 x42.2 v48 v44 v46 v50 ls50 _ _ hh42 kp42 j42 je42 (by omega) (by omega) (by omega) (by omega) (by omega) (by omega) (by omega) (by omega) (by omega) (by rw [← htot]; exact congrArg fnD (by first | (simp only [duR, hx42, if_neg d34, if_neg d36, if_pos d40, if_pos d42, up_eq]; done) | (simp only [duR, hx42, if_neg d34, if_neg d36, if_pos d40, if_pos d42, up_eq] <;> rfl) | rfl)) (lv_sub hl50 [1, 3, 2, 0, 4, 5] rfl)
        · skip
          refine lv_aload_n hx hb (eX3_scan (63, .aload_n 1, 1) (List.mem_of_getElem? (i := 36) rfl)) rfl (lv_at hl 5 rfl) ?_
          refine tz_rowV (As := []) (st := []) (b := tx) (C := RX0) (Ts := gT) hx hb hml hown h2 (fun _ h => h) (hX0_atDigit l D cA ro sz H0 tx T (gj) htx) ⟨rfl, rfl⟩ ⟨by decide, by decide⟩ ⟨by decide, by decide⟩ (tb_4 24 rfl rfl) (tb_1 5 rfl rfl) (tb_5 152 rfl rfl) (tb_4 22 rfl rfl) (tb_4 23 rfl rfl) (show yX0_atDigit.cls ≠ "java/lang/invoke/MethodHandle" ∧ yX0_atDigit.cls ≠ "java/lang/invoke/VarHandle" ∧ (parseMethodDescriptor yX0_atDigit.desc).map (fun d => d.parameters.length) = some 0 by decide +kernel) zs_blind (zs_ob hh0 htx (show RTg[0]? = some (0, 0, 0, fsX0) from rfl) (zCX0 hKn.1)) (fun U hU hW => ⟨rfl, by rw [hU]; exact hh0.l0, zKb s U hW.alike hKn, by rw [hU]; exact jl⟩) hh0.2.2.1 hl.1 (Nat.le_of_ble_eq_true rfl) (eX3_scan (64, .invokevirtual 38, 3) (List.mem_of_getElem? (i := 37) rfl)) (fun r51 s51 t51 lo51 g51 f51 l51 => ?_)
          obtain ⟨z51, v51, q51, e51⟩ := f51
          cases q51
          rw [z51, g51]
          have hh51 : zh_ok D cA RTg ro sz H0 H lo51 := ⟨hh0.1, hh0.2.1, l51, hh0.2.2.2⟩
          refine W.eq (g2 := F0 m 67 ls [.int v51]) rfl ?_
          refine ff_if_eq hx hb (eX3_scan (67, .ifCond .eq 19, 3) (List.mem_of_getElem? (i := 38) rfl)) (tgt := 86) rfl (fun c52 => ?_) (fun c52 => ?_)
          · skip
            have d53 : ¬ (rk ≤ la ∧ 0 ≤ dgF T gj) := by omega
            refine lv_iload hx hb (eX3_scan (86, .iload 4, 2) (List.mem_of_getElem? (i := 50) rfl)) (lv_at hl 2 rfl) ?_
            refine ff_iconst hx hb (eX3_scan (88, .iconst 2, 1) (List.mem_of_getElem? (i := 51) rfl)) (by decide) (by decide) (fun v54 e54 => ?_)
            refine ff_icmp_ne hx hb (eX3_scan (89, .if_icmp .ne 25, 3) (List.mem_of_getElem? (i := 52) rfl)) (tgt := 114) rfl (fun c55 => ?_) (fun c55 => ?_)
            · skip
              have d56 : ¬ la = 2 := by omega
              exact jn114 op gj ov ls _ _ hh51 kpl jl (by omega) (by omega) (by rw [← htot]; exact congrArg fnD (by first | (simp only [duR, if_neg d34, if_neg d53, if_neg d56, up_eq]; done) | (simp only [duR, if_neg d34, if_neg d53, if_neg d56, up_eq] <;> rfl) | rfl)) (lv_sub hl [0, 4, 5] rfl)
            · skip
              have d57 : la = 2 := by omega
              refine lv_aload_n hx hb (eX3_scan (92, .aload_n 1, 1) (List.mem_of_getElem? (i := 53) rfl)) rfl (lv_at hl 5 rfl) ?_
              refine ff_bipush hx hb (eX3_scan (93, .bipush 84, 2) (List.mem_of_getElem? (i := 54) rfl)) (by decide) (by decide) (fun v58 e58 => ?_)
              refine tz_rowV (As := [.int v58]) (st := []) (b := tx) (C := RX0) (Ts := gT) hx hb hml hown h2 (fun _ h => h) (hX0_take l D cA ro sz H0 tx v58 84 T (gj) htx (by omega) (by decide)) ⟨rfl, rfl⟩ ⟨by decide, by decide⟩ ⟨by decide, by decide⟩ (tb_4 8 rfl rfl) (tb_1 5 rfl rfl) (tb_5 158 rfl rfl) (tb_4 6 rfl rfl) (tb_4 7 rfl rfl) (show yX0_take.cls ≠ "java/lang/invoke/MethodHandle" ∧ yX0_take.cls ≠ "java/lang/invoke/VarHandle" ∧ (parseMethodDescriptor yX0_take.desc).map (fun d => d.parameters.length) = some 1 by decide +kernel) zs_blind (zs_ob hh51 htx (show RTg[0]? = some (0, 0, 0, fsX0) from rfl) (zCX0 hKn.1)) (fun U hU hW => ⟨rfl, by rw [hU]; exact hh51.l0, zKb s U hW.alike hKn, by rw [hU]; exact jl⟩) hh51.2.2.1 hl.1 (Nat.le_of_ble_eq_true rfl) (eX3_scan (95, .invokevirtual 46, 3) (List.mem_of_getElem? (i := 55) rfl)) (fun r59 s59 t59 lo59 g59 f59 l59 => ?_)
              obtain ⟨v59, q59, e59, z59, c59, j59, fx59⟩ := f59
              cases q59
              rw [g59] at c59 fx59
              have hh59 : zh_ok D cA RTg ro sz H0 t59.heap lo59 := ⟨z59.1, z59.2.1, l59, z59.2.2.2⟩
              have kp59 := kpl.trans (c59.mono (ms' := duM) (by decide))
              have kf59 := tkF_01 T 84 gj
              generalize hx59 : tkF T 84 gj = x59 at j59 e59 kf59
              have uu59 := j59.2.2
              unfold uOK at uu59
              have mf59_du_4 := (c59.1 du 2 4 2 0 fsX3 hdu rfl (by decide) (by decide)).trans fa31
              have je59 := jel.kept hdu c59 (by decide)
              refine W.eq (g2 := F0 m 98 ls [.int v59]) rfl ?_
              refine ff_if_eq hx hb (eX3_scan (98, .ifCond .eq 16, 3) (List.mem_of_getElem? (i := 56) rfl)) (tgt := 114) rfl (fun c60 => ?_) (fun c60 => ?_)
              · skip
                have d59 : ¬ x59.1 = 1 := by omega
                exact jn114 op x59.2 ov ls _ _ hh59 kp59 j59 (by omega) (by omega) (by rw [← htot]; exact congrArg fnD (by first | (simp only [duR, hx59, if_neg d34, if_neg d53, if_pos d57, if_neg d59, up_eq]; done) | (simp only [duR, hx59, if_neg d34, if_neg d53, if_pos d57, if_neg d59, up_eq] <;> rfl) | rfl)) (lv_sub hl [0, 4, 5] rfl)
              · skip
                have d59 : x59.1 = 1 := by omega
                refine ff_iconst hx hb (eX3_scan (101, .iconst 3, 1) (List.mem_of_getElem? (i := 57) rfl)) (by decide) (by decide) (fun v61 e61 => ?_)
                refine lv_istore_n hx hb (eX3_scan (102, .istore_n 3, 1) (List.mem_of_getElem? (i := 58) rfl)) rfl hl (by decide) rfl (fun ls62 hl62 => ?_)
                refine ff_iconst hx hb (eX3_scan (103, .iconst 5, 1) (List.mem_of_getElem? (i := 59) rfl)) (by decide) (by decide) (fun v63 e63 => ?_)
                refine lv_istore hx hb (eX3_scan (104, .istore 4, 2) (List.mem_of_getElem? (i := 60) rfl)) hl62 (by decide) rfl (fun ls64 hl64 => ?_)
                refine ff_iconst hx hb (eX3_scan (106, .iconst 1, 1) (List.mem_of_getElem? (i := 61) rfl)) (by decide) (by decide) (fun v65 e65 => ?_)
                refine lv_istore_n hx hb (eX3_scan (107, .istore_n 2, 1) (List.mem_of_getElem? (i := 62) rfl)) rfl hl64 (by decide) rfl (fun ls66 hl66 => ?_)
                refine ff_iinc (k := 3) hx hb (eX3_scan (108, .iinc 5 1, 3) (List.mem_of_getElem? (i := 63) rfl)) hl66 rfl (by decide) (by decide) (by decide) (by omega) (by omega) (fun v67 e67 ls67 hl67 => ?_)
                refine lv_goto hx hb (eX3_scan (111, .goto (-70), 3) (List.mem_of_getElem? (i := 64) rfl)) (tgt := 41) rfl ?_
                exact ih 1 3 5 0 x59.2 v65 v61 v63 v67 ls67 _ _ hh59 kp59 j59 je59 (by omega) (by omega) (by omega) (by omega) (by omega) (by omega) (by omega) (by omega) (by omega) (by rw [← htot]; exact congrArg fnD (by first | (simp only [duR, hx59, if_neg d34, if_neg d53, if_pos d57, if_pos d59, up_eq]; done) | (simp only [duR, hx59, if_neg d34, if_neg d53, if_pos d57, if_pos d59, up_eq] <;> rfl) | rfl)) (lv_sub hl67 [1, 3, 2, 0, 4, 5] rfl)
          · skip
            have d68 : rk ≤ la ∧ 0 ≤ dgF T gj := by omega
            refine lv_aload_n hx hb (eX3_scan (70, .aload_n 0, 1) (List.mem_of_getElem? (i := 39) rfl)) rfl (lv_at hl 4 rfl) ?_
            refine lv_aload_n hx hb (eX3_scan (71, .aload_n 1, 1) (List.mem_of_getElem? (i := 40) rfl)) rfl (lv_at hl 5 rfl) ?_
            refine lv_iload_n hx hb (eX3_scan (72, .iload_n 3, 1) (List.mem_of_getElem? (i := 41) rfl)) rfl (lv_at hl 1 rfl) ?_
            refine lv_iload hx hb (eX3_scan (73, .iload 4, 2) (List.mem_of_getElem? (i := 42) rfl)) (lv_at hl 2 rfl) ?_
            refine tz_rowV (As := [.ref tx, .int rv, .int lv]) (st := []) (b := du) (C := RX3) (Ts := gT) hx hb hml hown h2 (fun _ h => h) (hX3_scanNumber l D cA ro sz H0 du tx rv lv rk la T (gj) hdu htx (by omega) (by omega) (by omega)) ⟨rfl, rfl⟩ ⟨by decide, by decide⟩ ⟨by decide, by decide⟩ (tb_5 156 rfl rfl) (tb_1 10 rfl rfl) (tb_5 153 rfl rfl) (tb_5 154 rfl rfl) (tb_5 155 rfl rfl) (show yX3_scanNumber.cls ≠ "java/lang/invoke/MethodHandle" ∧ yX3_scanNumber.cls ≠ "java/lang/invoke/VarHandle" ∧ (parseMethodDescriptor yX3_scanNumber.desc).map (fun d => d.parameters.length) = some 3 by decide +kernel) zs_blindC (zs_ob hh51 hdu (show RTg[2]? = some (0, 2, 0, fsX3) from rfl) (zCX3 hKn.1)) (fun U hU hW => ⟨rfl, by rw [hU]; exact hh51.l0, ⟨zKb s U hW.alike hKn, hBQ.alike hW.alike, hLQ.alike hW.alike⟩, by rw [hU]; exact ⟨jl, jel⟩⟩) hh51.2.2.1 hl.1 (Nat.le_of_ble_eq_true rfl) (eX3_scan (75, .invokevirtual 42, 3) (List.mem_of_getElem? (i := 43) rfl)) (fun r69 s69 t69 lo69 g69 f69 l69 => ?_)
            obtain ⟨v69, q69, e69, z69, c69, j69, je69⟩ := f69
            cases q69
            rw [g69] at c69
            have hh69 : zh_ok D cA RTg ro sz H0 t69.heap lo69 := ⟨z69.1, z69.2.1, l69, z69.2.2.2⟩
            have kp69 := kpl.trans (c69.mono (ms' := duM) (by decide))
            have sb69 := sn_bd (T := T) (fi := rk) (la := la) (s := gj) (by omega)
            have sn69 := sn_en (T := T) (fi := rk) (la := la) (s := gj)
            generalize hx69 : snF T rk la gj = x69 at e69 j69 je69 sb69 sn69
            have uu69 := j69.2.2
            unfold uOK at uu69
            refine W.eq (g2 := F0 m 78 ls [.int v69]) rfl ?_
            refine ff_iconst hx hb (eX3_scan (78, .iconst 1, 1) (List.mem_of_getElem? (i := 44) rfl)) (by decide) (by decide) (fun v70 e70 => ?_)
            refine ff_iadd hx hb (eX3_scan (79, .iadd, 1) (List.mem_of_getElem? (i := 45) rfl)) (by omega) (by omega) (fun v71 e71 => ?_)
            refine lv_istore_n hx hb (eX3_scan (80, .istore_n 3, 1) (List.mem_of_getElem? (i := 46) rfl)) rfl hl (by decide) rfl (fun ls72 hl72 => ?_)
            refine ff_iconst hx hb (eX3_scan (81, .iconst 0, 1) (List.mem_of_getElem? (i := 47) rfl)) (by decide) (by decide) (fun v73 e73 => ?_)
            refine lv_istore_n hx hb (eX3_scan (82, .istore_n 2, 1) (List.mem_of_getElem? (i := 48) rfl)) rfl hl72 (by decide) rfl (fun ls74 hl74 => ?_)
            refine lv_goto hx hb (eX3_scan (83, .goto 25, 3) (List.mem_of_getElem? (i := 49) rfl)) (tgt := 108) rfl ?_
            refine ff_iinc (k := 3) hx hb (eX3_scan (108, .iinc 5 1, 3) (List.mem_of_getElem? (i := 63) rfl)) hl74 rfl (by decide) (by decide) (by decide) (by omega) (by omega) (fun v75 e75 ls75 hl75 => ?_)
            refine lv_goto hx hb (eX3_scan (111, .goto (-70), 3) (List.mem_of_getElem? (i := 64) rfl)) (tgt := 41) rfl ?_
            exact ih 0 (x69.1.1 + 1) la x69.1.2 x69.2 v73 v71 lv v75 ls75 _ _ hh69 kp69 j69 je69 (by omega) (by omega) (by omega) (by omega) (by omega) (by omega) (by omega) (by omega) (by omega) (by rw [← htot]; exact congrArg fnD (by first | (simp only [duR, hx69, if_neg d34, if_pos d68, up_eq]; done) | (simp only [duR, hx69, if_neg d34, if_pos d68, up_eq] <;> rfl) | rfl)) (lv_sub hl75 [1, 2, 3, 0, 4, 5] rfl)
  exact loop 7 1 0 2 0 x12 v13 v15 v17 v19 ls20 _ _ hh12 kp12 j12 je12 (by omega) (by omega) (by omega) (by omega) (by omega) (by omega) (by omega) (by omega) (by omega) (by first | rfl | (unfold duF; rw [hx12] <;> rfl)) (lv_sub hl20 [3, 2, 1, 0, 4, 5] rfl)
