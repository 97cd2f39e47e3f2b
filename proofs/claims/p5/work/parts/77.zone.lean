/-! zone(): a new thing in an array of things -/
section TZN
variable {p : Program} {l : Launch} {e : Env} {R : Room} {s : State} {m : MethodId} {args : Array Value} {below : List Frame} {meth : Method} {c : Code} {H : Heap} {locs : List Loc} {cells slots : Nat} {Q : State → Prop} {cc : ByteArray} {pc : Nat} {ls : Array Slot} {st : List Value}
variable {D : va_G} {cA : Nat → ClassId} {ro : Nat → Option Nat} {sz : Nat} {H0 : Heap}
theorem zh_f_eq {H H' : Heap} {a ci k : Nat} (h : H'[a]? = H[a]?) : zh_f D H' a ci k = zh_f D H a ci k := by unfold zh_f; rw [h]
theorem tz_aast {a v : Nat} {j : Int32} (hx : p.tables.exec = Jvm.exec) (hb : c.code = cc) (hK : zK0 D cA s) (hh : zh_ok D cA RTg ro sz H0 H locs) (ha : ro a = some 20) (hv : ro v = some 9) (h1 : 0 ≤ j.toInt) (h2 : j.toInt < 8) (hd : decode cc pc = .ok (.aastore, 1))
    (kk : ∀ (H' : Heap) (locs' : List Loc), zh_ok D cA RTg ro sz H0 H' locs' → (∀ q : Nat, q ≠ a → H'[q]? = H[q]?) → W p l e R s m args below meth c H' locs' cells slots Q (F0 m (pc + 1) ls st)) : W p l e R s m args below meth c H locs cells slots Q (F0 m pc ls (.ref v :: .int j :: .ref a :: st)) := by
  have hR20 : RTg[20]? = some (1, 4, 8, [(23, 0, 0)]) := rfl
  obtain ⟨hsa, z, c1, y1⟩ := zh_arr hh ha hR20
  obtain ⟨-, cellV, g1, g2, g3, -⟩ := zh_obj hh hv (show RTg[9]? = some (0, 9, 0, fsX10) from rfl)
  have hin := tz_in (N := 8) h1 h2
  have hlt : j.toNatClampNeg < 8 := Nat.not_le.mp fun q => hin (Or.inr q)
  have h0 : ¬ j < 0 := fun q => hin (Or.inl q)
  have hcls := (hK.1 9 _ rfl).2
  obtain ⟨kA, comp, k1, k2, k3, -⟩ := (hK.2 4 _ rfl).2
  have hcomp : comp = D.1 9 := Option.some.inj (k3.symm.trans hcls.1)
  subst hcomp
  obtain ⟨kC, hkC, -⟩ := hcls.2
  refine W.aast hx hb c1 (fun q h => by cases h) (fun h => by cases h) k1 k2 rfl hkC ⟨h0, by show _ < (arrV _ _ _).slots.size; rw [arrV_size]; exact hlt⟩ g1 (fun q h => by rw [g3] at h; cases h) (by rw [g2]; exact hkC) (by rw [g2]; exact va_assign hcls) rfl rfl hd fun H1 e2 z2 oq => ?_
  rw [arrV_store] at e2
  exact kk H1 _ (zh_setA hh ha hR20 z2 e2 oq (tz_upd y1 (Or.inr ⟨v, rfl, hv⟩)) (fun q hq => by
    rcases List.mem_append.mp hq with g | g
    · exact hh.2.2.1 q g
    · rw [List.mem_singleton.mp g]; exact hsa)) oq
theorem tz_new {own C : String} {T : u_T} {N ci idx : Nat} (hx : p.tables.exec = Jvm.exec) (hb : c.code = cc) (hh : zh_ok D cA RTg ro sz H0 H locs) (hts : ∀ w ∈ gT, w.before args s = true) (hin : ∀ w ∈ u_ws C T N, w ∈ gT) (ty : Nat → FieldType) (hty : ∀ k, k < N → parseFieldDescriptor (T k).2.2.1 = some (ty k)) (hown : s.vm.findClass own = some m.cls) (hcl : Cond.classLink own idx C ∈ gT) (hins : Cond.instantiable C N ∈ gT) (hini : Cond.initialized C ∈ gT) (hK : zK0 D cA s) (hci : vwCl[ci]? = some (C, T, N)) (hc : cells + 1 ≤ R.cells) (hs : slots + N ≤ R.slots) (hd : decode cc pc = .ok (.new idx, 3))
    (kk : ∀ (b : Nat) (H' : Heap), zh_ok D cA RTg ro sz H0 H' locs → ro b = none → sz ≤ b → b = H.size → H'.size = H.size + 1 → t_OB b (D.1 ci) N (D.2 ci) H' (fun k => defaultValue (ty k)) → (∀ q : Nat, q < H.size → H'[q]? = H[q]?) → W p l e R s m args below meth c H' locs (cells + 1) (slots + N) Q (F0 m (pc + 3) ls (.ref b :: st))) : W p l e R s m args below meth c H locs cells slots Q (F0 m pc ls st) := by
  have hKn := hK.1 ci _ hci
  refine W.newcK hx hb hown (hts _ hcl) (hts _ hins) (hts _ hini) (g := F0 m pc ls st) rfl hd hc hs hKn.2.1 (h := H.size) rfl (fun H' kC hkC e1 e2 e3 => ?_)
  exact kk H.size H' (zh_same hh (by omega) (fun q g _ => e3 q g) hh.2.2.1) (zo_none hh) hh.1 rfl e2 (u_born ty hts hin hKn hkC e1 hty) e3
end TZN
def zz_XC (D : va_G) (cA : Nat → ClassId) (ro : Nat → Option Nat) (sz : Nat) (H0 : Heap) (Es : List String) : String → State → State → Prop := fun E _ t => E ∈ Es ∧ zh_ok D cA RTg ro sz H0 t.heap []
def tX11_zone : List (Nat × Instr × Nat) := [(0, .iload_n 1, 1), (1, .invokestatic 186, 3), (4, .ifCond .ne 13, 3), (7, .new 83, 3), (10, .dup, 1), (11, .ldc 189, 2), (13, .invokespecial 87, 3), (16, .athrow, 1), (17, .aload_n 0, 1), (18, .getfield 24, 3), (21, .ifCond .lt 15, 3), (24, .aload_n 0, 1), (25, .getfield 24, 3), (28, .aload_n 0, 1), (29, .getfield 20, 3), (32, .arraylength, 1), (33, .if_icmp .lt 13, 3), (36, .new 157, 3), (39, .dup, 1), (40, .ldc 191, 2), (42, .invokespecial 161, 3), (45, .athrow, 1), (46, .aload_n 0, 1), (47, .getfield 20, 3), (50, .aload_n 0, 1), (51, .getfield 24, 3), (54, .new 18, 3), (57, .dup, 1), (58, .iload_n 1, 1), (59, .aload_n 0, 1), (60, .getfield 14, 3), (63, .invokespecial 193, 3), (66, .aastore, 1), (67, .aload_n 0, 1), (68, .dup, 1), (69, .getfield 24, 3), (72, .iconst 1, 1), (73, .iadd, 1), (74, .putfield 24, 3), (77, .aload_n 0, 1), (78, .getfield 24, 3), (81, .iconst 1, 1), (82, .isub, 1), (83, .ireturn, 1)]
set_option maxRecDepth 100000 in
theorem eX11_zone : ∀ x ∈ tX11_zone, decode cX11_zone x.1 = .ok x.2 := by decide +kernel
set_option maxRecDepth 100000 in
set_option maxHeartbeats 4000000 in
theorem hX11_zone (l : Launch) (hst : l.stackTraces = false) (D : va_G) (cA : Nat → ClassId) (ro : Nat → Option Nat) (sz : Nat) (H0 : Heap) (x : Nat) (o : Int32) (hx10 : ro x = some 10) : vx_Met l yX11_zone (gW yX11_zone cX11_zone 2 (some .int)) { frames := 6, cells := 6, slots := 147, locals := 82 } (zw_Pc D cA ro sz H0 [.ref x, .int o]) (zw_Qc D cA ro sz H0) (zz_XC D cA ro sz H0 [eI, eU]) 6 147 (zy_fr sz) := by
  refine vx_ofW (cc := cX11_zone) (maxL := 2) (ret := (some .int)) (by decide +kernel) rfl ?_
  intro p e s m args below meth c s1 B hml hex hv
  obtain ⟨rfl, hh, hKa⟩ := hv
  have hx := B.exec
  have hb := B.bytes
  have hr := B.returns
  have hlk := B.notSynchronized
  have hts0 := atoms_spec (ws := gW yX11_zone cX11_zone 2 (some .int)) B.pre
  have h2 : ∀ w ∈ gT, w.before ([.ref x, .int o] : List Value).toArray s = true := fun w hw => hts0 w (List.mem_cons_of_mem _ hw)
  have hown : s.vm.findClass RX11 = some m.cls := findClass_of_methodNamed B.named
  have hl := lv_entry [.ref x, .int o] (n := 2) (Nat.le_of_ble_eq_true rfl)
  rw [lg_entry_eq]
  generalize (lg_sl [.ref x, .int o] ++ List.replicate (2 - (lg_sl [.ref x, .int o]).length) Slot.unset).toArray = ls at hl ⊢
  have b_o := zn_i32 o
  have hD := zD_all h2 hKa.1.1.1
  have hcl := fun (ro : Nat → Option Nat) (idx k : Nat) (t : zt_T) (h : (idx, 10, k) ∈ gfX11) (hk : fsX11[k]? = some t) => zf_clause (ro := ro) (ms := [(10, 2)]) h2 hown hKa.1.1.1 gfX11_ok (by decide +kernel) idx 10 k 10 0 fsX11 t h rfl hk
  refine lv_iload_n hx hb (eX11_zone (0, .iload_n 1, 1) (List.mem_of_getElem? (i := 0) rfl)) rfl (lv_at hl 1 rfl) ?_
  refine zr_S (idx := 186) hx hb hml hown hts0 hKa.1.1 zKb (mX11_isOffset l D cA ro sz H0) ⟨rfl, rfl⟩ ⟨by decide, by decide⟩ ⟨Nat.zero_le _, Nat.zero_le _⟩ (tb_3 170 rfl rfl) (tb_1 1 rfl rfl) (tb_3 168 rfl rfl) (tb_3 169 rfl rfl) (by decide +kernel) rfl 1 186 (.invokestatic 186) (Or.inl ⟨rfl, rfl⟩) (eX11_zone (1, .invokestatic 186, 3) (List.mem_of_getElem? (i := 1) rfl)) _ _ _ [] [.int o] hl.1 (Nat.le_of_ble_eq_true rfl) hh ⟨⟨tz_i (zn_i32 _).1 (zn_i32 _).2, trivial⟩, fun e he => (by cases he), fun f hf => (by cases hf)⟩ (fun H1 lo1 x1 hh1 hk1 hal1 => ?_)
  obtain ⟨w1, rfl, v1, rfl, -, -⟩ := zc_one (t := (0, 0, 1)) (L := []) hal1
  refine W.eq (g2 := F0 m 4 ls [.int v1]) rfl ?_
  refine ff_if_ne hx hb (eX11_zone (4, .ifCond .ne 13, 3) (List.mem_of_getElem? (i := 2) rfl)) (tgt := 17) rfl (fun c2 => ?_) (fun c2 => ?_)
  · skip
    obtain ⟨n, fn, n1, n2⟩ := zh_fT (k := 2) (t := (0, 0, 8)) hh1 hx10 (show RTg[10]? = some (0, 10, 0, fsX11) from rfl) rfl
    dsimp only at n1 n2
    obtain ⟨az, fz, rz⟩ := tz_ref (k := 1) (rr := 20) hh1 hx10 (show RTg[10]? = some (0, 10, 0, fsX11) from rfl) rfl
    obtain ⟨al, fl, rl⟩ := tz_ref (k := 0) (rr := 4) hh1 hx10 (show RTg[10]? = some (0, 10, 0, fsX11) from rfl) rfl
    have hlx := zh_lt hh1 hx10
    refine lv_aload_n hx hb (eX11_zone (17, .aload_n 0, 1) (List.mem_of_getElem? (i := 8) rfl)) rfl (lv_at hl 0 rfl) ?_
    refine tz_get (r := 10) (k := 2) (t := (0, 0, 8)) hx hb hh1 hx10 rfl rfl (hcl ro 24 2 (0, 0, 8) (by decide) rfl).1 fn (eX11_zone (18, .getfield 24, 3) (List.mem_of_getElem? (i := 9) rfl)) ?_
    refine ff_if_lt hx hb (eX11_zone (21, .ifCond .lt 15, 3) (List.mem_of_getElem? (i := 10) rfl)) (tgt := 36) rfl (fun c3 => (by exfalso; omega)) (fun c3 => ?_)
    refine lv_aload_n hx hb (eX11_zone (24, .aload_n 0, 1) (List.mem_of_getElem? (i := 11) rfl)) rfl (lv_at hl 0 rfl) ?_
    refine tz_get (r := 10) (k := 2) (t := (0, 0, 8)) hx hb hh1 hx10 rfl rfl (hcl ro 24 2 (0, 0, 8) (by decide) rfl).1 fn (eX11_zone (25, .getfield 24, 3) (List.mem_of_getElem? (i := 12) rfl)) ?_
    refine lv_aload_n hx hb (eX11_zone (28, .aload_n 0, 1) (List.mem_of_getElem? (i := 13) rfl)) rfl (lv_at hl 0 rfl) ?_
    refine tz_get (r := 10) (k := 1) (t := (44, 0, 0)) hx hb hh1 hx10 rfl rfl (hcl ro 20 1 (44, 0, 0) (by decide) rfl).1 fz (eX11_zone (29, .getfield 20, 3) (List.mem_of_getElem? (i := 14) rfl)) ?_
    obtain ⟨-, zz, cz, yz⟩ := zh_arr hh1 rz (show RTg[20]? = some (1, 4, 8, [(23, 0, 0)]) from rfl)
    refine W.alen (n := nI 8) hx hb cz (zAr hKa.1.1.1 4 (by decide) 8 zz) (by rw [arrV_size]; rfl) rfl rfl (eX11_zone (32, .arraylength, 1) (List.mem_of_getElem? (i := 15) rfl)) ?_
    have e4 : (nI 8).toInt = 8 := nI_toInt (by decide)
    refine ff_icmp_lt hx hb (eX11_zone (33, .if_icmp .lt 13, 3) (List.mem_of_getElem? (i := 16) rfl)) (tgt := 46) rfl (fun c5 => ?_) (fun c5 => ?_)
    · skip
      refine lv_aload_n hx hb (eX11_zone (46, .aload_n 0, 1) (List.mem_of_getElem? (i := 22) rfl)) rfl (lv_at hl 0 rfl) ?_
      refine tz_get (r := 10) (k := 1) (t := (44, 0, 0)) hx hb hh1 hx10 rfl rfl (hcl ro 20 1 (44, 0, 0) (by decide) rfl).1 fz (eX11_zone (47, .getfield 20, 3) (List.mem_of_getElem? (i := 23) rfl)) ?_
      refine lv_aload_n hx hb (eX11_zone (50, .aload_n 0, 1) (List.mem_of_getElem? (i := 24) rfl)) rfl (lv_at hl 0 rfl) ?_
      refine tz_get (r := 10) (k := 2) (t := (0, 0, 8)) hx hb hh1 hx10 rfl rfl (hcl ro 24 2 (0, 0, 8) (by decide) rfl).1 fn (eX11_zone (51, .getfield 24, 3) (List.mem_of_getElem? (i := 25) rfl)) ?_
      refine tz_new (C := RX10) (T := TX10) (N := 6) (ci := 9) hx hb hh1 h2 wiX10 tyX10 tyX10_ok hown (tb_1 45 rfl rfl) (tb_3 173 rfl rfl) (tb_1 20 rfl rfl) hKa.1.1.1 rfl (by decide) (by decide) (eX11_zone (54, .new 18, 3) (List.mem_of_getElem? (i := 26) rfl)) (fun b H6 hh6 hrb hsb hbs hz6 hOb hq6 => ?_)
      have fn6 := (zh_f_eq (hq6 x hlx)).trans fn
      have fz6 := (zh_f_eq (hq6 x hlx)).trans fz
      have fl6 := (zh_f_eq (hq6 x hlx)).trans fl
      refine lv_dup hx hb (eX11_zone (57, .dup, 1) (List.mem_of_getElem? (i := 27) rfl)) rfl ?_
      refine lv_iload_n hx hb (eX11_zone (58, .iload_n 1, 1) (List.mem_of_getElem? (i := 28) rfl)) rfl (lv_at hl 1 rfl) ?_
      refine lv_aload_n hx hb (eX11_zone (59, .aload_n 0, 1) (List.mem_of_getElem? (i := 29) rfl)) rfl (lv_at hl 0 rfl) ?_
      refine tz_get (r := 10) (k := 0) (t := (12, 0, 0)) hx hb hh6 hx10 rfl rfl (hcl ro 14 0 (12, 0, 0) (by decide) rfl).1 fl6 (eX11_zone (60, .getfield 14, 3) (List.mem_of_getElem? (i := 30) rfl)) ?_
      refine zo_call (As := [.int o, .ref al]) (rest := [.ref b, .int n, .ref az]) (b := b) hx hb hml hown hts0 (iX10 l D cA ro sz H0 b o al rl) ⟨rfl, rfl⟩ ⟨by decide, by decide⟩ ⟨by decide, by decide⟩ (tb_3 176 rfl rfl) (tb_1 20 rfl rfl) (tb_3 174 rfl rfl) (tb_3 175 rfl rfl) rfl (show yX10_init.cls ≠ "java/lang/invoke/MethodHandle" ∧ yX10_init.cls ≠ "java/lang/invoke/VarHandle" ∧ (parseMethodDescriptor yX10_init.desc).map (fun d => d.parameters.length) = some 2 by decide +kernel) hh6 hrb hsb hOb hKa.2 hl.1 (Nat.le_of_ble_eq_true rfl) (eX11_zone (63, .invokespecial 193, 3) (List.mem_of_getElem? (i := 31) rfl)) (fun H3 lo3 ro3 he3 hn3 hr3 hh3 hz3 hq3 => ?_)
      have hxb : x ≠ b := fun g => by rw [g, hrb] at hx10; cases hx10
      have fn3 := (zh_f_eq (hq3 x (by omega) hxb)).trans fn6
      refine tz_aast hx hb hKa.1.1.1 hh3 (he3 _ _ rz) hr3 (by omega) (by omega) (eX11_zone (66, .aastore, 1) (List.mem_of_getElem? (i := 32) rfl)) (fun H7 lo7 hh7 hq7 => ?_)
      have hxz : x ≠ az := fun g => by rw [g, rz] at hx10; cases hx10
      have fn7 := (zh_f_eq (hq7 x hxz)).trans fn3
      refine lv_aload_n hx hb (eX11_zone (67, .aload_n 0, 1) (List.mem_of_getElem? (i := 33) rfl)) rfl (lv_at hl 0 rfl) ?_
      refine lv_dup hx hb (eX11_zone (68, .dup, 1) (List.mem_of_getElem? (i := 34) rfl)) rfl ?_
      refine tz_get (r := 10) (k := 2) (t := (0, 0, 8)) hx hb hh7 (he3 _ _ hx10) rfl rfl (hcl ro3 24 2 (0, 0, 8) (by decide) rfl).1 fn7 (eX11_zone (69, .getfield 24, 3) (List.mem_of_getElem? (i := 35) rfl)) ?_
      refine ff_iconst hx hb (eX11_zone (72, .iconst 1, 1) (List.mem_of_getElem? (i := 36) rfl)) (by decide) (by decide) (fun v8 e8 => ?_)
      refine ff_iadd hx hb (eX11_zone (73, .iadd, 1) (List.mem_of_getElem? (i := 37) rfl)) (by omega) (by omega) (fun v9 e9 => ?_)
      refine tz_put (r := 10) (k := 2) (t := (0, 0, 8)) hx hb hD hh7 (he3 _ _ hx10) rfl rfl ((hcl ro3 24 2 (0, 0, 8) (by decide) rfl).2 List.mem_cons_self) (tz_i (by omega) (by omega)) (eX11_zone (74, .putfield 24, 3) (List.mem_of_getElem? (i := 38) rfl)) (fun H10 lo10 hh10 hf10 _ _ _ => ?_)
      refine lv_aload_n hx hb (eX11_zone (77, .aload_n 0, 1) (List.mem_of_getElem? (i := 39) rfl)) rfl (lv_at hl 0 rfl) ?_
      refine tz_get (r := 10) (k := 2) (t := (0, 0, 8)) hx hb hh10 (he3 _ _ hx10) rfl rfl (hcl ro3 24 2 (0, 0, 8) (by decide) rfl).1 hf10 (eX11_zone (78, .getfield 24, 3) (List.mem_of_getElem? (i := 40) rfl)) ?_
      refine ff_iconst hx hb (eX11_zone (81, .iconst 1, 1) (List.mem_of_getElem? (i := 41) rfl)) (by decide) (by decide) (fun v11 e11 => ?_)
      refine ff_isub hx hb (eX11_zone (82, .isub, 1) (List.mem_of_getElem? (i := 42) rfl)) (by omega) (by omega) (fun v12 e12 => ?_)
      exact vx_ret (W.zret hx hb hr rfl (fun t ht hW => ⟨_, ro3, rfl, he3, by rw [ht]; exact hh10.l0⟩) hh10.2.2.1 (eX11_zone (83, .ireturn, 1) (List.mem_of_getElem? (i := 43) rfl)))
    · skip
      exact zx_leafG (ik := 157) (is := 191) (ic := 161) (cls := "java/lang/UnsupportedOperationException") (text := "no room for more zones") hx hb hst hown h2 hKa.1 hh hh1 (by rw [hl.1, hml]) hex hlk ⟨by decide, by decide, by decide, by decide⟩ (tb_3 79 rfl rfl) (tb_1 19 rfl rfl) (by decide) (gAt_in gAt_2) (by decide +kernel) (by decide) (by decide) (fun t h7 h8 => ⟨by decide, hh1.grow h7 h8⟩) (eX11_zone (36, .new 157, 3) (List.mem_of_getElem? (i := 17) rfl)) (eX11_zone (39, .dup, 1) (List.mem_of_getElem? (i := 18) rfl)) (eX11_zone (40, .ldc 191, 2) (List.mem_of_getElem? (i := 19) rfl)) (eX11_zone (42, .invokespecial 161, 3) (List.mem_of_getElem? (i := 20) rfl)) (eX11_zone (45, .athrow, 1) (List.mem_of_getElem? (i := 21) rfl))
  · skip
    exact zx_leafG (ik := 83) (is := 189) (ic := 87) (cls := "java/lang/IllegalArgumentException") (text := "no such offset") hx hb hst hown h2 hKa.1 hh hh1 (by rw [hl.1, hml]) hex hlk ⟨by decide, by decide, by decide, by decide⟩ (tb_2 121 rfl rfl) (tb_1 17 rfl rfl) (by decide) (gAt_in gAt_1) (by decide +kernel) (by decide) (by decide) (fun t h7 h8 => ⟨by decide, hh1.grow h7 h8⟩) (eX11_zone (7, .new 83, 3) (List.mem_of_getElem? (i := 3) rfl)) (eX11_zone (10, .dup, 1) (List.mem_of_getElem? (i := 4) rfl)) (eX11_zone (11, .ldc 189, 2) (List.mem_of_getElem? (i := 5) rfl)) (eX11_zone (13, .invokespecial 87, 3) (List.mem_of_getElem? (i := 6) rfl)) (eX11_zone (16, .athrow, 1) (List.mem_of_getElem? (i := 7) rfl))
def tL_zone : List (Nat × Instr × Nat) := [(0, .aload_n 2, 1), (1, .iconst 0, 1), (2, .aload_n 0, 1), (3, .iload_n 1, 1), (4, .invokevirtual 42, 3), (7, .i2l, 1), (8, .lastore, 1), (9, .goto 9, 3), (12, .astore_n 3, 1), (13, .iconst 1, 1), (14, .ireturn, 1), (15, .astore_n 3, 1), (16, .iconst 2, 1), (17, .ireturn, 1), (18, .iconst 0, 1), (19, .ireturn, 1)]
set_option maxRecDepth 100000 in
theorem eL_zone : ∀ x ∈ tL_zone, decode cL_zone x.1 = .ok x.2 := by decide +kernel
set_option maxRecDepth 100000 in
set_option maxHeartbeats 4000000 in
theorem wL_zone (l : Launch) (hst : l.stackTraces = false) (D : va_G) (cA : Nat → ClassId) (ro : Nat → Option Nat) (sz : Nat) (H0 : Heap) (x : Nat) (p1 : Int32) (o : Nat) (hx10 : ro x = some 10) (ho : ro o = some 42) : Met l yL_zone (Cond.codeWith yL_zone cL_zone 4 (some .int) [(0, 9, 12, 13), (0, 9, 15, 34)] :: gT) { frames := 7, cells := 6, slots := 147, locals := 103 } (zw_Pc D cA ro sz H0 [.ref x, .int p1, .ref o]) (zw_Qc D cA ro sz H0) 6 147 (zy_fr sz) := by
  refine zw_ofW (cc := cL_zone) (maxL := 4) (ret := some .int) (by decide +kernel) rfl ?_
  intro p e s m args below meth c s1 B hml hv
  obtain ⟨rfl, hh, hKa⟩ := hv
  have hx := B.exec
  have hb := B.bytes
  have hr := B.returns
  have hlk := B.notSynchronized
  have hts0 := atoms_spec (ws := Cond.codeWith yL_zone cL_zone 4 (some .int) [(0, 9, 12, 13), (0, 9, 15, 34)] :: gT) B.pre
  have h2 : ∀ w ∈ gT, w.before ([.ref x, .int p1, .ref o] : List Value).toArray s = true := fun w hw => hts0 w (List.mem_cons_of_mem _ hw)
  have hown : s.vm.findClass RL = some m.cls := findClass_of_methodNamed B.named
  have hl := lv_entry [.ref x, .int p1, .ref o] (n := 4) (Nat.le_of_ble_eq_true rfl)
  rw [lg_entry_eq]
  generalize (lg_sl [.ref x, .int p1, .ref o] ++ List.replicate (4 - (lg_sl [.ref x, .int p1, .ref o]).length) Slot.unset).toArray = ls at hl ⊢
  refine lv_aload_n hx hb (eL_zone (0, .aload_n 2, 1) (List.mem_of_getElem? (i := 0) rfl)) rfl (lv_at hl 2 rfl) ?_
  refine ff_iconst hx hb (eL_zone (1, .iconst 0, 1) (List.mem_of_getElem? (i := 1) rfl)) (by decide) (by decide) (fun v1 e1 => ?_)
  refine lv_aload_n hx hb (eL_zone (2, .aload_n 0, 1) (List.mem_of_getElem? (i := 2) rfl)) rfl (lv_at hl 0 rfl) ?_
  refine lv_iload_n hx hb (eL_zone (3, .iload_n 1, 1) (List.mem_of_getElem? (i := 3) rfl)) rfl (lv_at hl 1 rfl) ?_
  refine zx_rowG (As := [.int p1]) (st := [.int v1, .ref o]) (b := x) (C := RX11) hx hb hml hown hts0 (hX11_zone l hst D cA ro sz H0 x p1 hx10) ⟨rfl, rfl⟩ ⟨by decide, by decide⟩ ⟨by decide, by decide⟩ (tb_3 167 rfl rfl) (tb_1 1 rfl rfl) (tb_3 164 rfl rfl) (tb_3 165 rfl rfl) (tb_3 166 rfl rfl) rfl (show yX11_zone.cls ≠ "java/lang/invoke/MethodHandle" ∧ yX11_zone.cls ≠ "java/lang/invoke/VarHandle" ∧ (parseMethodDescriptor yX11_zone.desc).map (fun d => d.parameters.length) = some 1 by decide +kernel) zw_blind (zw_ob hh hKa.1.1.1 hx10) (fun U hU hW => ⟨rfl, by rw [hU]; exact hh, hKa.warm hW⟩) (fun q hq => by cases hq) hl.1 (Nat.le_of_ble_eq_true rfl) (eL_zone (4, .invokevirtual 42, 3) (List.mem_of_getElem? (i := 4) rfl)) (fun v s0 t lo1 g0 g1 g2 => ?_) (fun q s0 t lo1 E ce g0 g1 g3 g4 g5 g2 => ?_)
  · obtain ⟨r9, ro9, q1, he9, q3⟩ := g1
    cases q1
    have hh1 : zh_ok D cA RTg ro9 sz H0 t.heap lo1 := ⟨q3.1, q3.2.1, g2, q3.2.2.2⟩
    refine W.eq (g2 := F0 m 7 ls [.int r9, .int v1, .ref o]) rfl ?_
    refine ff_i2l hx hb (eL_zone (7, .i2l, 1) (List.mem_of_getElem? (i := 5) rfl)) (fun v2 e2 => ?_)
    refine zw_out hx hb hh1 hKa.1.1.1 (he9 _ _ ho) (by omega) (eL_zone (8, .lastore, 1) (List.mem_of_getElem? (i := 6) rfl)) (fun H9 lo9 hh9 _ _ _ => ?_)
    refine lv_goto hx hb (eL_zone (9, .goto 9, 3) (List.mem_of_getElem? (i := 7) rfl)) (tgt := 18) rfl ?_
    refine ff_iconst hx hb (eL_zone (18, .iconst 0, 1) (List.mem_of_getElem? (i := 14) rfl)) (by decide) (by decide) (fun v3 e3 => ?_)
    exact W.zret hx hb hr rfl (fun t ht hW => ⟨_, ro9, rfl, he9, by rw [ht]; exact hh9.l0⟩) hh9.2.2.1 (eL_zone (19, .ireturn, 1) (List.mem_of_getElem? (i := 15) rfl))
  · obtain ⟨hE, q4⟩ := g1
    have hh1 : zh_ok D cA RTg ro sz H0 t.heap lo1 := ⟨q4.1, q4.2.1, g2, q4.2.2.2⟩
    refine (List.mem_cons.mp hE).elim (fun g => ?_) (fun hE => ?_)
    · subst g
      refine vx_catch (own := RL) (name := "java/lang/IllegalArgumentException") hown [] ⟨0, 9, 12, 13⟩ [⟨0, 9, 15, 34⟩] (vx_table (x := yL_zone) B (h2 _ (tb_3 163 rfl rfl))) (fun z hz => by cases hz) rfl (by decide) (h2 _ (tb_2 103 rfl rfl)) (va_Nw.use rfl (hKa.1.2.2.2.2.1 (eI, eI) (List.mem_of_getElem? (i := 0) rfl))) g3 g4 g5 ?_
      refine lv_astore_n hx hb (eL_zone (12, .astore_n 3, 1) (List.mem_of_getElem? (i := 8) rfl)) rfl hl (by decide) rfl (fun ls4 hl4 => ?_)
      refine ff_iconst hx hb (eL_zone (13, .iconst 1, 1) (List.mem_of_getElem? (i := 9) rfl)) (by decide) (by decide) (fun v5 e5 => ?_)
      exact W.zret hx hb hr rfl (fun t ht hW => ⟨_, ro, rfl, fun _ _ h => h, by rw [ht]; exact hh1.l0⟩) hh1.2.2.1 (eL_zone (14, .ireturn, 1) (List.mem_of_getElem? (i := 10) rfl))
    refine (List.mem_cons.mp hE).elim (fun g => ?_) (fun hE => ?_)
    · subst g
      refine vx_catch (own := RL) (name := "java/lang/UnsupportedOperationException") hown [⟨0, 9, 12, 13⟩] ⟨0, 9, 15, 34⟩ [] (vx_table (x := yL_zone) B (h2 _ (tb_3 163 rfl rfl))) (fun z hz => by cases List.mem_singleton.mp hz; exact Or.inr ⟨by decide, eI, h2 _ (tb_2 103 rfl rfl), hKa.1.2.2.2.2.2.2⟩) rfl (by decide) (h2 _ (tb_3 65 rfl rfl)) (va_Nw.use rfl (hKa.1.2.2.2.2.1 (eU, eU) (List.mem_of_getElem? (i := 1) rfl))) g3 g4 g5 ?_
      refine lv_astore_n hx hb (eL_zone (15, .astore_n 3, 1) (List.mem_of_getElem? (i := 11) rfl)) rfl hl (by decide) rfl (fun ls6 hl6 => ?_)
      refine ff_iconst hx hb (eL_zone (16, .iconst 2, 1) (List.mem_of_getElem? (i := 12) rfl)) (by decide) (by decide) (fun v7 e7 => ?_)
      exact W.zret hx hb hr rfl (fun t ht hW => ⟨_, ro, rfl, fun _ _ h => h, by rw [ht]; exact hh1.l0⟩) hh1.2.2.1 (eL_zone (17, .ireturn, 1) (List.mem_of_getElem? (i := 13) rfl))
    cases hE
