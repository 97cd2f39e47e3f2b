/-! easter() and change() of the reference -/
theorem zc_two {D : va_G} {RT : List zr_R} {ro : Nat → Option Nat} {k : zc_C} {t1 t2 : zt_T} {H H1 : Heap} {vs : List Value} {x : Option Value} {L1 L2 : List zl_F} (h : ∃ al ∈ [((some t1, [], L1) : zc_A), (some t2, [], L2)], zc_post D RT ro k al H H1 vs x) : ∃ v : Value, x = some v ∧ ((zt_ok ro v t1 ∧ ∀ f ∈ L1, zl_at (fun u => (zc_env D RT k H H1 vs (some v)).getD u 0) f ≤ 0) ∨ zt_ok ro v t2) := by
  obtain ⟨al, hal, hres, -, hrel⟩ := h
  rcases List.mem_cons.mp hal with g | g
  · subst g
    match x, hres with
    | some v, hres => exact ⟨v, rfl, Or.inl ⟨hres, hrel⟩⟩
  · cases List.mem_singleton.mp g
    match x, hres with
    | some v, hres => exact ⟨v, rfl, Or.inr hres⟩
section FF01
variable {p : Program} {l : Launch} {e : Env} {R : Room} {s : State} {m : MethodId} {args : Array Value} {below : List Frame} {meth : Method} {c : Code} {H : Heap} {locs : List Loc} {cells slots : Nat} {Q : State → Prop} {cc : ByteArray} {pc : Nat} {ls : Array Slot} {rest : List Value}
theorem ff_imul01L {x y : Int32} (hx : p.tables.exec = Jvm.exec) (hb : c.code = cc) (hd : decode cc pc = .ok (.imul, 1)) (h1 : 0 ≤ x.toInt) (h2 : x.toInt ≤ 1) (k : ∀ z : Int32, (x.toInt = 0 ∧ z.toInt = 0) ∨ (x.toInt = 1 ∧ z.toInt = y.toInt) → W p l e R s m args below meth c H locs cells slots Q (F0 m (pc + 1) ls (.int z :: rest))) : W p l e R s m args below meth c H locs cells slots Q (F0 m pc ls (.int y :: .int x :: rest)) := by
  have b := zn_i32 y
  have e : x.toInt = 0 ∨ x.toInt = 1 := by omega
  have e0 : x.toInt * y.toInt = 0 ∨ x.toInt * y.toInt = y.toInt := by
    rcases e with g | g <;> rw [g] <;> omega
  refine ff_imul hx hb hd (by omega) (by omega) (fun z ez => k z ?_)
  rcases e with g | g
  · exact Or.inl ⟨g, by rw [ez, g]; omega⟩
  · exact Or.inr ⟨g, by rw [ez, g]; omega⟩
theorem ff_imul01R {x y : Int32} (hx : p.tables.exec = Jvm.exec) (hb : c.code = cc) (hd : decode cc pc = .ok (.imul, 1)) (h1 : 0 ≤ y.toInt) (h2 : y.toInt ≤ 1) (k : ∀ z : Int32, (y.toInt = 0 ∧ z.toInt = 0) ∨ (y.toInt = 1 ∧ z.toInt = x.toInt) → W p l e R s m args below meth c H locs cells slots Q (F0 m (pc + 1) ls (.int z :: rest))) : W p l e R s m args below meth c H locs cells slots Q (F0 m pc ls (.int y :: .int x :: rest)) := by
  have b := zn_i32 x
  have e : y.toInt = 0 ∨ y.toInt = 1 := by omega
  have e0 : x.toInt * y.toInt = 0 ∨ x.toInt * y.toInt = x.toInt := by
    rcases e with g | g <;> rw [g] <;> omega
  refine ff_imul hx hb hd (by omega) (by omega) (fun z ez => k z ?_)
  rcases e with g | g
  · exact Or.inl ⟨g, by rw [ez, g]; omega⟩
  · exact Or.inr ⟨g, by rw [ez, g]; omega⟩
/-- divided by a number that is positive -/
theorem ff_idivV {x y : Int32} (hx : p.tables.exec = Jvm.exec) (hb : c.code = cc) (hd : decode cc pc = .ok (.idiv, 1)) (hp : 0 ≤ x.toInt) (h0 : 0 < y.toInt) (k : ∀ z : Int32, z.toInt = x.toInt / y.toInt ∧ 0 ≤ z.toInt ∧ z.toInt ≤ x.toInt → W p l e R s m args below meth c H locs cells slots Q (F0 m (pc + 1) ls (.int z :: rest))) : W p l e R s m args below meth c H locs cells slots Q (F0 m pc ls (.int y :: .int x :: rest)) := by
  refine ff_idiv (n := y.toInt) hx hb hd rfl h0 (fun z ez => k z ?_)
  have e1 : z.toInt = x.toInt / y.toInt := by
    rcases ez with g | g
    · exact g.2
    · omega
  refine ⟨e1, ?_, ?_⟩
  · rw [e1]; exact Int.ediv_nonneg hp (by omega)
  · rw [e1]; exact Int.ediv_le_self _ hp
end FF01
def kX12_easter : zc_C := ([(26, 0, 0), (0, (-2147483648), 2147483647)], [], [], [(11, 0)], [], [(some (1, (-9223372036854775808), 9223372036854775807), [], [])])
def tX12_easter : List (Nat × Instr × Nat) := [(0, .aload_n 0, 1), (1, .iload_n 1, 1), (2, .i2l, 1), (3, .lconst 0, 1), (4, .ldc2_w 78, 3), (7, .invokestatic 130, 3), (10, .ifCond .eq 7, 3), (13, .iconst 0, 1), (14, .goto 4, 3), (17, .iconst 1, 1), (18, .putfield 85, 3), (21, .aload_n 0, 1), (22, .getfield 85, 3), (25, .ifCond .le 5, 3), (28, .lconst 0, 1), (29, .lreturn, 1), (30, .iload_n 1, 1), (31, .bipush 19, 2), (33, .irem, 1), (34, .istore_n 2, 1), (35, .iload_n 1, 1), (36, .bipush 100, 2), (38, .idiv, 1), (39, .istore_n 3, 1), (40, .iload_n 3, 1), (41, .iload_n 3, 1), (42, .iconst 4, 1), (43, .idiv, 1), (44, .isub, 1), (45, .bipush 8, 2), (47, .iload_n 3, 1), (48, .imul, 1), (49, .bipush 13, 2), (51, .iadd, 1), (52, .bipush 25, 2), (54, .idiv, 1), (55, .isub, 1), (56, .bipush 19, 2), (58, .iload_n 2, 1), (59, .imul, 1), (60, .iadd, 1), (61, .bipush 15, 2), (63, .iadd, 1), (64, .bipush 30, 2), (66, .irem, 1), (67, .istore 4, 2), (69, .iload 4, 2), (71, .iload 4, 2), (73, .bipush 28, 2), (75, .idiv, 1), (76, .iconst 1, 1), (77, .bipush 29, 2), (79, .iload 4, 2), (81, .iconst 1, 1), (82, .iadd, 1), (83, .idiv, 1), (84, .bipush 21, 2), (86, .iload_n 2, 1), (87, .isub, 1), (88, .bipush 11, 2), (90, .idiv, 1), (91, .imul, 1), (92, .isub, 1), (93, .imul, 1), (94, .isub, 1), (95, .istore 5, 2), (97, .iload_n 1, 1), (98, .iload_n 1, 1), (99, .iconst 4, 1), (100, .idiv, 1), (101, .iadd, 1), (102, .iload 5, 2), (104, .iadd, 1), (105, .iconst 2, 1), (106, .iadd, 1), (107, .iload_n 3, 1), (108, .isub, 1), (109, .iload_n 3, 1), (110, .iconst 4, 1), (111, .idiv, 1), (112, .iadd, 1), (113, .bipush 7, 2), (115, .irem, 1), (116, .istore 6, 2), (118, .iload 5, 2), (120, .iload 6, 2), (122, .isub, 1), (123, .istore 7, 2), (125, .iconst 3, 1), (126, .iload 7, 2), (128, .bipush 40, 2), (130, .iadd, 1), (131, .bipush 44, 2), (133, .idiv, 1), (134, .iadd, 1), (135, .istore 8, 2), (137, .iload_n 1, 1), (138, .i2l, 1), (139, .iload 8, 2), (141, .iload 7, 2), (143, .bipush 28, 2), (145, .iadd, 1), (146, .bipush 31, 2), (148, .iload 8, 2), (150, .iconst 4, 1), (151, .idiv, 1), (152, .imul, 1), (153, .isub, 1), (154, .invokestatic 70, 3), (157, .lreturn, 1)]
set_option maxRecDepth 100000 in
theorem eX12_easter : ∀ x ∈ tX12_easter, decode cX12_easter x.1 = .ok x.2 := by decide +kernel
set_option maxRecDepth 100000 in
set_option maxHeartbeats 4000000 in
theorem mX12_easter (l : Launch) (D : va_G) (cA : Nat → ClassId) (ro : Nat → Option Nat) (sz : Nat) (H0 : Heap) : zy_M l D cA RTg ro sz H0 (zKn D cA ro sz H0) yX12_easter (gW yX12_easter cX12_easter 9 (some .long)) { frames := 2, cells := 0, slots := 0, locals := 56 } kX12_easter := by
  refine zy_ofW (cc := cX12_easter) (maxL := 9) (ret := (some .long)) (by decide +kernel) rfl ?_
  intro p e s m args below meth c s1 B hml hv
  obtain ⟨vs, rfl, hh, hp, hKn⟩ := hv
  obtain ⟨va, vs1, rfl, t0, q1⟩ := zt_cons hp.1
  obtain ⟨vb, vs2, rfl, ⟨y, rfl, -, -⟩, q2⟩ := zt_cons q1
  cases zt_nil q2
  obtain ⟨a, rfl, ha⟩ : ∃ a : Nat, va = .ref a ∧ ro a = some 11 := by
    rcases t0 with ⟨g, -⟩ | g
    · exact absurd g (by decide)
    · exact g
  have hx := B.exec
  have hb := B.bytes
  have hr := B.returns
  have hlk := B.notSynchronized
  have hts0 := atoms_spec (ws := gW yX12_easter cX12_easter 9 (some .long)) B.pre
  have h2 : ∀ w ∈ gT, w.before ([.ref a, .int y] : List Value).toArray s = true := fun w hw => hts0 w (List.mem_cons_of_mem _ hw)
  have hown : s.vm.findClass RX12 = some m.cls := findClass_of_methodNamed B.named
  have hl := lv_entry [.ref a, .int y] (n := 9) (Nat.le_of_ble_eq_true rfl)
  rw [lg_entry_eq]
  generalize (lg_sl [.ref a, .int y] ++ List.replicate (9 - (lg_sl [.ref a, .int y]).length) Slot.unset).toArray = ls at hl ⊢
  have b_y := zn_i32 y
  have hD := zD_all h2 hKn.1
  have hcl := fun (idx k : Nat) (t : zt_T) (h : (idx, 11, k) ∈ gfX12) (hk : fsX12[k]? = some t) => zf_clause (ro := ro) (ms := [(11, 0)]) h2 hown hKn.1 gfX12_ok (by decide +kernel) idx 11 k 11 0 fsX12 t h rfl hk
  have kp0 : zc_kept D RTg ro [(11, 0)] s.heap s.heap := zc_kept.refl
  refine lv_aload_n hx hb (eX12_easter (0, .aload_n 0, 1) (List.mem_of_getElem? (i := 0) rfl)) rfl (lv_at hl 0 rfl) ?_
  refine lv_iload_n hx hb (eX12_easter (1, .iload_n 1, 1) (List.mem_of_getElem? (i := 1) rfl)) rfl (lv_at hl 1 rfl) ?_
  refine ff_i2l hx hb (eX12_easter (2, .i2l, 1) (List.mem_of_getElem? (i := 2) rfl)) (fun v1 e1 => ?_)
  refine ff_lconst hx hb (eX12_easter (3, .lconst 0, 1) (List.mem_of_getElem? (i := 3) rfl)) rfl (fun v2 e2 => ?_)
  refine ff_ldc2 (n := 999999) hx hb hown h2 (clX12_ok 78 999999 (List.mem_of_getElem? (i := 1) rfl)) (eX12_easter (4, .ldc2_w 78, 3) (List.mem_of_getElem? (i := 4) rfl)) (fun v3 e3 => ?_)
  refine zu_S (vs := [.long v1, .long v2, .long v3]) (rest := [.ref a]) hx hb hml hown hts0 zu_BT (hX12_isIn l v1 v2 v3) ⟨rfl, rfl⟩ ⟨by decide, by decide⟩ ⟨by decide, by decide⟩ (tb_7 47 rfl rfl) (tb_1 12 rfl rfl) (tb_7 45 rfl rfl) (tb_7 46 rfl rfl) (show yX12_isIn.cls ≠ "java/lang/invoke/MethodHandle" ∧ yX12_isIn.cls ≠ "java/lang/invoke/VarHandle" ∧ (parseMethodDescriptor yX12_isIn.desc).map (fun d => d.parameters.length) = some 3 by decide +kernel) rfl (fun _ _ _ => trivial) hl.1 (Nat.le_of_ble_eq_true rfl) (eX12_easter (7, .invokestatic 130, 3) (List.mem_of_getElem? (i := 5) rfl)) (fun w4 f4 => ?_)
  obtain ⟨v4, rfl, e4⟩ := f4
  refine ff_if_eq hx hb (eX12_easter (10, .ifCond .eq 7, 3) (List.mem_of_getElem? (i := 6) rfl)) (tgt := 17) rfl (fun c5 => ?_) (fun c5 => ?_)
  · skip
    refine ff_iconst hx hb (eX12_easter (17, .iconst 1, 1) (List.mem_of_getElem? (i := 9) rfl)) (by decide) (by decide) (fun v6 e6 => ?_)
    refine tz_put (r := 11) (k := 0) (t := (0, 0, 2)) hx hb hD hh ha rfl rfl ((hcl 85 0 (0, 0, 2) (by decide) rfl).2 List.mem_cons_self) (tz_i (by omega) (by omega)) (eX12_easter (18, .putfield 85, 3) (List.mem_of_getElem? (i := 10) rfl)) (fun H7 lo7 hh7 hf7 hk7 _ hq7 => ?_)
    have kp7 := kp0.trans (hk7.mono (fun x hx => by cases List.mem_singleton.mp hx; decide))
    refine lv_aload_n hx hb (eX12_easter (21, .aload_n 0, 1) (List.mem_of_getElem? (i := 11) rfl)) rfl (lv_at hl 0 rfl) ?_
    refine tz_get (r := 11) (k := 0) (t := (0, 0, 2)) hx hb hh7 ha rfl rfl (hcl 85 0 (0, 0, 2) (by decide) rfl).1 hf7 (eX12_easter (22, .getfield 85, 3) (List.mem_of_getElem? (i := 12) rfl)) ?_
    refine ff_if_le hx hb (eX12_easter (25, .ifCond .le 5, 3) (List.mem_of_getElem? (i := 13) rfl)) (tgt := 30) rfl (fun c8 => (by exfalso; omega)) (fun c8 => ?_)
    refine ff_lconst hx hb (eX12_easter (28, .lconst 0, 1) (List.mem_of_getElem? (i := 14) rfl)) rfl (fun v9 e9 => ?_)
    exact W.lret hx hb hr (fun t ht hW => ⟨_, _, rfl, rfl, by rw [ht]; exact hh7.l0, by rw [ht]; exact kp7, _, List.mem_cons_self, tz_l (ro := ro) (zn_i64 _).1 (zn_i64 _).2, trivial, fun f hf => (by cases hf)⟩) hh7.2.2.1 (eX12_easter (29, .lreturn, 1) (List.mem_of_getElem? (i := 15) rfl))
  · skip
    refine ff_iconst hx hb (eX12_easter (13, .iconst 0, 1) (List.mem_of_getElem? (i := 7) rfl)) (by decide) (by decide) (fun v10 e10 => ?_)
    refine lv_goto hx hb (eX12_easter (14, .goto 4, 3) (List.mem_of_getElem? (i := 8) rfl)) (tgt := 18) rfl ?_
    refine tz_put (r := 11) (k := 0) (t := (0, 0, 2)) hx hb hD hh ha rfl rfl ((hcl 85 0 (0, 0, 2) (by decide) rfl).2 List.mem_cons_self) (tz_i (by omega) (by omega)) (eX12_easter (18, .putfield 85, 3) (List.mem_of_getElem? (i := 10) rfl)) (fun H11 lo11 hh11 hf11 hk11 _ hq11 => ?_)
    have kp11 := kp0.trans (hk11.mono (fun x hx => by cases List.mem_singleton.mp hx; decide))
    refine lv_aload_n hx hb (eX12_easter (21, .aload_n 0, 1) (List.mem_of_getElem? (i := 11) rfl)) rfl (lv_at hl 0 rfl) ?_
    refine tz_get (r := 11) (k := 0) (t := (0, 0, 2)) hx hb hh11 ha rfl rfl (hcl 85 0 (0, 0, 2) (by decide) rfl).1 hf11 (eX12_easter (22, .getfield 85, 3) (List.mem_of_getElem? (i := 12) rfl)) ?_
    refine ff_if_le hx hb (eX12_easter (25, .ifCond .le 5, 3) (List.mem_of_getElem? (i := 13) rfl)) (tgt := 30) rfl (fun c12 => ?_) (fun c12 => (by exfalso; omega))
    have hy1 : 0 ≤ y.toInt := by omega
    have hy2 : y.toInt ≤ 999999 := by omega
    refine lv_iload_n hx hb (eX12_easter (30, .iload_n 1, 1) (List.mem_of_getElem? (i := 16) rfl)) rfl (lv_at hl 1 rfl) ?_
    refine ff_bipush hx hb (eX12_easter (31, .bipush 19, 2) (List.mem_of_getElem? (i := 17) rfl)) (by decide) (by decide) (fun v13 e13 => ?_)
    refine ff_iremP hx hb (eX12_easter (33, .irem, 1) (List.mem_of_getElem? (i := 18) rfl)) (by omega) (e13) (by decide) (fun v14 e14 => ?_)
    have hG : 0 ≤ v14.toInt ∧ v14.toInt ≤ 18 := by omega
    refine lv_istore_n hx hb (eX12_easter (34, .istore_n 2, 1) (List.mem_of_getElem? (i := 19) rfl)) rfl hl (by decide) rfl (fun ls15 hl15 => ?_)
    refine lv_iload_n hx hb (eX12_easter (35, .iload_n 1, 1) (List.mem_of_getElem? (i := 20) rfl)) rfl (lv_at hl15 2 rfl) ?_
    refine ff_bipush hx hb (eX12_easter (36, .bipush 100, 2) (List.mem_of_getElem? (i := 21) rfl)) (by decide) (by decide) (fun v16 e16 => ?_)
    refine ff_idivP hx hb (eX12_easter (38, .idiv, 1) (List.mem_of_getElem? (i := 22) rfl)) (by omega) (e16) (by decide) (fun v17 e17 => ?_)
    have hC : 0 ≤ v17.toInt ∧ v17.toInt ≤ 9999 := by omega
    clear e13 e14 e16 e17
    refine lv_istore_n hx hb (eX12_easter (39, .istore_n 3, 1) (List.mem_of_getElem? (i := 23) rfl)) rfl hl15 (by decide) rfl (fun ls18 hl18 => ?_)
    refine lv_iload_n hx hb (eX12_easter (40, .iload_n 3, 1) (List.mem_of_getElem? (i := 24) rfl)) rfl (lv_at hl18 0 rfl) ?_
    refine lv_iload_n hx hb (eX12_easter (41, .iload_n 3, 1) (List.mem_of_getElem? (i := 25) rfl)) rfl (lv_at hl18 0 rfl) ?_
    refine ff_iconst hx hb (eX12_easter (42, .iconst 4, 1) (List.mem_of_getElem? (i := 26) rfl)) (by decide) (by decide) (fun v19 e19 => ?_)
    refine ff_idivP hx hb (eX12_easter (43, .idiv, 1) (List.mem_of_getElem? (i := 27) rfl)) (by omega) (e19) (by decide) (fun v20 e20 => ?_)
    refine ff_isub hx hb (eX12_easter (44, .isub, 1) (List.mem_of_getElem? (i := 28) rfl)) (by omega) (by omega) (fun v21 e21 => ?_)
    refine ff_bipush hx hb (eX12_easter (45, .bipush 8, 2) (List.mem_of_getElem? (i := 29) rfl)) (by decide) (by decide) (fun v22 e22 => ?_)
    refine lv_iload_n hx hb (eX12_easter (47, .iload_n 3, 1) (List.mem_of_getElem? (i := 30) rfl)) rfl (lv_at hl18 0 rfl) ?_
    refine ff_imulL hx hb (eX12_easter (48, .imul, 1) (List.mem_of_getElem? (i := 31) rfl)) (e22) (by omega) (by omega) (fun v23 e23 => ?_)
    refine ff_bipush hx hb (eX12_easter (49, .bipush 13, 2) (List.mem_of_getElem? (i := 32) rfl)) (by decide) (by decide) (fun v24 e24 => ?_)
    refine ff_iadd hx hb (eX12_easter (51, .iadd, 1) (List.mem_of_getElem? (i := 33) rfl)) (by omega) (by omega) (fun v25 e25 => ?_)
    refine ff_bipush hx hb (eX12_easter (52, .bipush 25, 2) (List.mem_of_getElem? (i := 34) rfl)) (by decide) (by decide) (fun v26 e26 => ?_)
    refine ff_idivP hx hb (eX12_easter (54, .idiv, 1) (List.mem_of_getElem? (i := 35) rfl)) (by omega) (e26) (by decide) (fun v27 e27 => ?_)
    refine ff_isub hx hb (eX12_easter (55, .isub, 1) (List.mem_of_getElem? (i := 36) rfl)) (by omega) (by omega) (fun v28 e28 => ?_)
    refine ff_bipush hx hb (eX12_easter (56, .bipush 19, 2) (List.mem_of_getElem? (i := 37) rfl)) (by decide) (by decide) (fun v29 e29 => ?_)
    refine lv_iload_n hx hb (eX12_easter (58, .iload_n 2, 1) (List.mem_of_getElem? (i := 38) rfl)) rfl (lv_at hl18 1 rfl) ?_
    refine ff_imulL hx hb (eX12_easter (59, .imul, 1) (List.mem_of_getElem? (i := 39) rfl)) (e29) (by omega) (by omega) (fun v30 e30 => ?_)
    refine ff_iadd hx hb (eX12_easter (60, .iadd, 1) (List.mem_of_getElem? (i := 40) rfl)) (by omega) (by omega) (fun v31 e31 => ?_)
    refine ff_bipush hx hb (eX12_easter (61, .bipush 15, 2) (List.mem_of_getElem? (i := 41) rfl)) (by decide) (by decide) (fun v32 e32 => ?_)
    refine ff_iadd hx hb (eX12_easter (63, .iadd, 1) (List.mem_of_getElem? (i := 42) rfl)) (by omega) (by omega) (fun v33 e33 => ?_)
    refine ff_bipush hx hb (eX12_easter (64, .bipush 30, 2) (List.mem_of_getElem? (i := 43) rfl)) (by decide) (by decide) (fun v34 e34 => ?_)
    refine ff_iremP hx hb (eX12_easter (66, .irem, 1) (List.mem_of_getElem? (i := 44) rfl)) (by omega) (e34) (by decide) (fun v35 e35 => ?_)
    have hHb : 0 ≤ v35.toInt ∧ v35.toInt ≤ 29 := by omega
    clear e19 e20 e21 e22 e23 e24 e25 e26 e27 e28 e29 e30 e31 e32 e33 e34 e35
    refine lv_istore hx hb (eX12_easter (67, .istore 4, 2) (List.mem_of_getElem? (i := 45) rfl)) hl18 (by decide) rfl (fun ls36 hl36 => ?_)
    refine lv_iload hx hb (eX12_easter (69, .iload 4, 2) (List.mem_of_getElem? (i := 46) rfl)) (lv_at hl36 0 rfl) ?_
    refine lv_iload hx hb (eX12_easter (71, .iload 4, 2) (List.mem_of_getElem? (i := 47) rfl)) (lv_at hl36 0 rfl) ?_
    refine ff_bipush hx hb (eX12_easter (73, .bipush 28, 2) (List.mem_of_getElem? (i := 48) rfl)) (by decide) (by decide) (fun v37 e37 => ?_)
    refine ff_idivP hx hb (eX12_easter (75, .idiv, 1) (List.mem_of_getElem? (i := 49) rfl)) (by omega) (e37) (by decide) (fun v38 e38 => ?_)
    refine ff_iconst hx hb (eX12_easter (76, .iconst 1, 1) (List.mem_of_getElem? (i := 50) rfl)) (by decide) (by decide) (fun v39 e39 => ?_)
    refine ff_bipush hx hb (eX12_easter (77, .bipush 29, 2) (List.mem_of_getElem? (i := 51) rfl)) (by decide) (by decide) (fun v40 e40 => ?_)
    refine lv_iload hx hb (eX12_easter (79, .iload 4, 2) (List.mem_of_getElem? (i := 52) rfl)) (lv_at hl36 0 rfl) ?_
    refine ff_iconst hx hb (eX12_easter (81, .iconst 1, 1) (List.mem_of_getElem? (i := 53) rfl)) (by decide) (by decide) (fun v41 e41 => ?_)
    refine ff_iadd hx hb (eX12_easter (82, .iadd, 1) (List.mem_of_getElem? (i := 54) rfl)) (by omega) (by omega) (fun v42 e42 => ?_)
    refine ff_idivV hx hb (eX12_easter (83, .idiv, 1) (List.mem_of_getElem? (i := 55) rfl)) (by omega) (by omega) (fun v43 e43 => ?_)
    replace e43 := e43.2
    refine ff_bipush hx hb (eX12_easter (84, .bipush 21, 2) (List.mem_of_getElem? (i := 56) rfl)) (by decide) (by decide) (fun v44 e44 => ?_)
    refine lv_iload_n hx hb (eX12_easter (86, .iload_n 2, 1) (List.mem_of_getElem? (i := 57) rfl)) rfl (lv_at hl36 2 rfl) ?_
    refine ff_isub hx hb (eX12_easter (87, .isub, 1) (List.mem_of_getElem? (i := 58) rfl)) (by omega) (by omega) (fun v45 e45 => ?_)
    refine ff_bipush hx hb (eX12_easter (88, .bipush 11, 2) (List.mem_of_getElem? (i := 59) rfl)) (by decide) (by decide) (fun v46 e46 => ?_)
    refine ff_idivP hx hb (eX12_easter (90, .idiv, 1) (List.mem_of_getElem? (i := 60) rfl)) (by omega) (e46) (by decide) (fun v47 e47 => ?_)
    refine ff_imul01R hx hb (eX12_easter (91, .imul, 1) (List.mem_of_getElem? (i := 61) rfl)) (by omega) (by omega) (fun v48 e48 => ?_)
    refine ff_isub hx hb (eX12_easter (92, .isub, 1) (List.mem_of_getElem? (i := 62) rfl)) (by omega) (by omega) (fun v49 e49 => ?_)
    refine ff_imul01L hx hb (eX12_easter (93, .imul, 1) (List.mem_of_getElem? (i := 63) rfl)) (by omega) (by omega) (fun v50 e50 => ?_)
    refine ff_isub hx hb (eX12_easter (94, .isub, 1) (List.mem_of_getElem? (i := 64) rfl)) (by omega) (by omega) (fun v51 e51 => ?_)
    have bi : -40 ≤ v51.toInt ∧ v51.toInt ≤ 80 := by omega
    clear e37 e38 e39 e40 e41 e42 e43 e44 e45 e46 e47 e48 e49 e50 e51
    refine lv_istore hx hb (eX12_easter (95, .istore 5, 2) (List.mem_of_getElem? (i := 65) rfl)) hl36 (by decide) rfl (fun ls52 hl52 => ?_)
    refine lv_iload_n hx hb (eX12_easter (97, .iload_n 1, 1) (List.mem_of_getElem? (i := 66) rfl)) rfl (lv_at hl52 5 rfl) ?_
    refine lv_iload_n hx hb (eX12_easter (98, .iload_n 1, 1) (List.mem_of_getElem? (i := 67) rfl)) rfl (lv_at hl52 5 rfl) ?_
    refine ff_iconst hx hb (eX12_easter (99, .iconst 4, 1) (List.mem_of_getElem? (i := 68) rfl)) (by decide) (by decide) (fun v53 e53 => ?_)
    refine ff_idivP hx hb (eX12_easter (100, .idiv, 1) (List.mem_of_getElem? (i := 69) rfl)) (by omega) (e53) (by decide) (fun v54 e54 => ?_)
    refine ff_iadd hx hb (eX12_easter (101, .iadd, 1) (List.mem_of_getElem? (i := 70) rfl)) (by omega) (by omega) (fun v55 e55 => ?_)
    refine lv_iload hx hb (eX12_easter (102, .iload 5, 2) (List.mem_of_getElem? (i := 71) rfl)) (lv_at hl52 0 rfl) ?_
    refine ff_iadd hx hb (eX12_easter (104, .iadd, 1) (List.mem_of_getElem? (i := 72) rfl)) (by omega) (by omega) (fun v56 e56 => ?_)
    refine ff_iconst hx hb (eX12_easter (105, .iconst 2, 1) (List.mem_of_getElem? (i := 73) rfl)) (by decide) (by decide) (fun v57 e57 => ?_)
    refine ff_iadd hx hb (eX12_easter (106, .iadd, 1) (List.mem_of_getElem? (i := 74) rfl)) (by omega) (by omega) (fun v58 e58 => ?_)
    refine lv_iload_n hx hb (eX12_easter (107, .iload_n 3, 1) (List.mem_of_getElem? (i := 75) rfl)) rfl (lv_at hl52 2 rfl) ?_
    refine ff_isub hx hb (eX12_easter (108, .isub, 1) (List.mem_of_getElem? (i := 76) rfl)) (by omega) (by omega) (fun v59 e59 => ?_)
    refine lv_iload_n hx hb (eX12_easter (109, .iload_n 3, 1) (List.mem_of_getElem? (i := 77) rfl)) rfl (lv_at hl52 2 rfl) ?_
    refine ff_iconst hx hb (eX12_easter (110, .iconst 4, 1) (List.mem_of_getElem? (i := 78) rfl)) (by decide) (by decide) (fun v60 e60 => ?_)
    refine ff_idivP hx hb (eX12_easter (111, .idiv, 1) (List.mem_of_getElem? (i := 79) rfl)) (by omega) (e60) (by decide) (fun v61 e61 => ?_)
    refine ff_iadd hx hb (eX12_easter (112, .iadd, 1) (List.mem_of_getElem? (i := 80) rfl)) (by omega) (by omega) (fun v62 e62 => ?_)
    refine ff_bipush hx hb (eX12_easter (113, .bipush 7, 2) (List.mem_of_getElem? (i := 81) rfl)) (by decide) (by decide) (fun v63 e63 => ?_)
    refine ff_irem hx hb (eX12_easter (115, .irem, 1) (List.mem_of_getElem? (i := 82) rfl)) (e63) (by decide) (fun v64 e64 => ?_)
    have bj : -6 ≤ v64.toInt ∧ v64.toInt ≤ 6 := by omega
    clear e53 e54 e55 e56 e57 e58 e59 e60 e61 e62 e63 e64
    refine lv_istore hx hb (eX12_easter (116, .istore 6, 2) (List.mem_of_getElem? (i := 83) rfl)) hl52 (by decide) rfl (fun ls65 hl65 => ?_)
    refine lv_iload hx hb (eX12_easter (118, .iload 5, 2) (List.mem_of_getElem? (i := 84) rfl)) (lv_at hl65 1 rfl) ?_
    refine lv_iload hx hb (eX12_easter (120, .iload 6, 2) (List.mem_of_getElem? (i := 85) rfl)) (lv_at hl65 0 rfl) ?_
    refine ff_isub hx hb (eX12_easter (122, .isub, 1) (List.mem_of_getElem? (i := 86) rfl)) (by omega) (by omega) (fun v66 e66 => ?_)
    refine lv_istore hx hb (eX12_easter (123, .istore 7, 2) (List.mem_of_getElem? (i := 87) rfl)) hl65 (by decide) rfl (fun ls67 hl67 => ?_)
    refine ff_iconst hx hb (eX12_easter (125, .iconst 3, 1) (List.mem_of_getElem? (i := 88) rfl)) (by decide) (by decide) (fun v68 e68 => ?_)
    refine lv_iload hx hb (eX12_easter (126, .iload 7, 2) (List.mem_of_getElem? (i := 89) rfl)) (lv_at hl67 0 rfl) ?_
    refine ff_bipush hx hb (eX12_easter (128, .bipush 40, 2) (List.mem_of_getElem? (i := 90) rfl)) (by decide) (by decide) (fun v69 e69 => ?_)
    refine ff_iadd hx hb (eX12_easter (130, .iadd, 1) (List.mem_of_getElem? (i := 91) rfl)) (by omega) (by omega) (fun v70 e70 => ?_)
    refine ff_bipush hx hb (eX12_easter (131, .bipush 44, 2) (List.mem_of_getElem? (i := 92) rfl)) (by decide) (by decide) (fun v71 e71 => ?_)
    refine ff_idiv hx hb (eX12_easter (133, .idiv, 1) (List.mem_of_getElem? (i := 93) rfl)) (e71) (by decide) (fun v72 e72 => ?_)
    refine ff_iadd hx hb (eX12_easter (134, .iadd, 1) (List.mem_of_getElem? (i := 94) rfl)) (by omega) (by omega) (fun v73 e73 => ?_)
    refine lv_istore hx hb (eX12_easter (135, .istore 8, 2) (List.mem_of_getElem? (i := 95) rfl)) hl67 (by decide) rfl (fun ls74 hl74 => ?_)
    refine lv_iload_n hx hb (eX12_easter (137, .iload_n 1, 1) (List.mem_of_getElem? (i := 96) rfl)) rfl (lv_at hl74 8 rfl) ?_
    refine ff_i2l hx hb (eX12_easter (138, .i2l, 1) (List.mem_of_getElem? (i := 97) rfl)) (fun v75 e75 => ?_)
    refine lv_iload hx hb (eX12_easter (139, .iload 8, 2) (List.mem_of_getElem? (i := 98) rfl)) (lv_at hl74 0 rfl) ?_
    refine lv_iload hx hb (eX12_easter (141, .iload 7, 2) (List.mem_of_getElem? (i := 99) rfl)) (lv_at hl74 1 rfl) ?_
    refine ff_bipush hx hb (eX12_easter (143, .bipush 28, 2) (List.mem_of_getElem? (i := 100) rfl)) (by decide) (by decide) (fun v76 e76 => ?_)
    refine ff_iadd hx hb (eX12_easter (145, .iadd, 1) (List.mem_of_getElem? (i := 101) rfl)) (by omega) (by omega) (fun v77 e77 => ?_)
    refine ff_bipush hx hb (eX12_easter (146, .bipush 31, 2) (List.mem_of_getElem? (i := 102) rfl)) (by decide) (by decide) (fun v78 e78 => ?_)
    refine lv_iload hx hb (eX12_easter (148, .iload 8, 2) (List.mem_of_getElem? (i := 103) rfl)) (lv_at hl74 0 rfl) ?_
    refine ff_iconst hx hb (eX12_easter (150, .iconst 4, 1) (List.mem_of_getElem? (i := 104) rfl)) (by decide) (by decide) (fun v79 e79 => ?_)
    refine ff_idivP hx hb (eX12_easter (151, .idiv, 1) (List.mem_of_getElem? (i := 105) rfl)) (by omega) (e79) (by decide) (fun v80 e80 => ?_)
    refine ff_imulL hx hb (eX12_easter (152, .imul, 1) (List.mem_of_getElem? (i := 106) rfl)) (e78) (by omega) (by omega) (fun v81 e81 => ?_)
    refine ff_isub hx hb (eX12_easter (153, .isub, 1) (List.mem_of_getElem? (i := 107) rfl)) (by omega) (by omega) (fun v82 e82 => ?_)
    refine zr_S (idx := 70) hx hb hml hown hts0 hKn zKb (mX12_dayOf l D cA ro sz H0) ⟨rfl, rfl⟩ ⟨by decide, by decide⟩ ⟨Nat.zero_le _, Nat.zero_le _⟩ (tb_6 135 rfl rfl) (tb_1 12 rfl rfl) (tb_6 133 rfl rfl) (tb_6 134 rfl rfl) (by decide +kernel) rfl 154 70 (.invokestatic 70) (Or.inl ⟨rfl, rfl⟩) (eX12_easter (154, .invokestatic 70, 3) (List.mem_of_getElem? (i := 108) rfl)) _ _ _ [] [.long v75, .int v73, .int v82] hl74.1 (Nat.le_of_ble_eq_true rfl) hh11 ⟨⟨tz_l (zn_i64 _).1 (zn_i64 _).2, tz_i (zn_i32 _).1 (zn_i32 _).2, tz_i (zn_i32 _).1 (zn_i32 _).2, trivial⟩, fun e he => (by cases he), fun f hf => (by cases hf)⟩ (fun H83 lo83 x83 hh83 hk83 hal83 => ?_)
    have kp83 := kp11.trans (hk83.mono (fun _ h => by cases h))
    obtain ⟨w83, rfl, v83, rfl, -, -⟩ := zc_one (t := (1, (-9223372036854775808), 9223372036854775807)) (L := []) hal83
    refine W.eq (g2 := F0 m 157 ls74 [.long v83]) rfl ?_
    exact W.lret hx hb hr (fun t ht hW => ⟨_, _, rfl, rfl, by rw [ht]; exact hh83.l0, by rw [ht]; exact kp83, _, List.mem_cons_self, tz_l (ro := ro) (zn_i64 _).1 (zn_i64 _).2, trivial, fun f hf => (by cases hf)⟩) hh83.2.2.1 (eX12_easter (157, .lreturn, 1) (List.mem_of_getElem? (i := 109) rfl))
def kX12_change : zc_C := ([(26, 0, 0), (0, (-2147483648), 2147483647), (1, (-9223372036854775808), 9223372036854775807), (0, (-2147483648), 2147483647)], [], [], [(11, 0), (23, 0), (24, 0), (25, 0)], [], [(some (0, (-2147483648), 2147483647), [], [])])
def tX12_change : List (Nat × Instr × Nat) := [(0, .aload_n 0, 1), (1, .iload_n 1, 1), (2, .invokevirtual 221, 3), (5, .ifCond .eq 20, 3), (8, .iload 4, 2), (10, .i2l, 1), (11, .invokestatic 218, 3), (14, .ifCond .eq 11, 3), (17, .aload_n 0, 1), (18, .lload_n 2, 1), (19, .invokevirtual 207, 3), (22, .ifCond .ne 7, 3), (25, .iconst 1, 1), (26, .goto 4, 3), (29, .iconst 0, 1), (30, .istore 5, 2), (32, .iload 5, 2), (34, .ifCond .ne 35, 3), (37, .aload_n 0, 1), (38, .getfield 19, 3), (41, .iload_n 1, 1), (42, .iaload, 1), (43, .ifCond .le 30, 3), (46, .lload_n 2, 1), (47, .aload_n 0, 1), (48, .getfield 22, 3), (51, .bipush 60, 2), (53, .iload_n 1, 1), (54, .imul, 1), (55, .aload_n 0, 1), (56, .getfield 19, 3), (59, .iload_n 1, 1), (60, .iaload, 1), (61, .iadd, 1), (62, .iconst 1, 1), (63, .isub, 1), (64, .laload, 1), (65, .lcmp, 1), (66, .ifCond .gt 7, 3), (69, .iconst 1, 1), (70, .goto 4, 3), (73, .iconst 0, 1), (74, .istore 5, 2), (76, .aload_n 0, 1), (77, .iload 5, 2), (79, .ifCond .eq 7, 3), (82, .iconst 1, 1), (83, .goto 19, 3), (86, .aload_n 0, 1), (87, .getfield 19, 3), (90, .iload_n 1, 1), (91, .iaload, 1), (92, .bipush 60, 2), (94, .if_icmp .ne 7, 3), (97, .iconst 2, 1), (98, .goto 4, 3), (101, .iconst 0, 1), (102, .putfield 85, 3), (105, .aload_n 0, 1), (106, .getfield 85, 3), (109, .ifCond .le 5, 3), (112, .iconst 0, 1), (113, .ireturn, 1), (114, .aload_n 0, 1), (115, .getfield 22, 3), (118, .bipush 60, 2), (120, .iload_n 1, 1), (121, .imul, 1), (122, .aload_n 0, 1), (123, .getfield 19, 3), (126, .iload_n 1, 1), (127, .iaload, 1), (128, .iadd, 1), (129, .lload_n 2, 1), (130, .lastore, 1), (131, .aload_n 0, 1), (132, .getfield 25, 3), (135, .bipush 60, 2), (137, .iload_n 1, 1), (138, .imul, 1), (139, .aload_n 0, 1), (140, .getfield 19, 3), (143, .iload_n 1, 1), (144, .iaload, 1), (145, .iadd, 1), (146, .iload 4, 2), (148, .iastore, 1), (149, .aload_n 0, 1), (150, .getfield 19, 3), (153, .iload_n 1, 1), (154, .dup2, 1), (155, .iaload, 1), (156, .iconst 1, 1), (157, .iadd, 1), (158, .iastore, 1), (159, .aload_n 0, 1), (160, .getfield 19, 3), (163, .iload_n 1, 1), (164, .iaload, 1), (165, .ireturn, 1)]
set_option maxRecDepth 100000 in
theorem eX12_change : ∀ x ∈ tX12_change, decode cX12_change x.1 = .ok x.2 := by decide +kernel
set_option maxRecDepth 100000 in
set_option maxHeartbeats 4000000 in
theorem mX12_change (l : Launch) (D : va_G) (cA : Nat → ClassId) (ro : Nat → Option Nat) (sz : Nat) (H0 : Heap) : zy_M l D cA RTg ro sz H0 (zKn D cA ro sz H0) yX12_change (gW yX12_change cX12_change 6 (some .int)) { frames := 3, cells := 0, slots := 0, locals := 69 } kX12_change := by
  refine zy_ofW (cc := cX12_change) (maxL := 6) (ret := (some .int)) (by decide +kernel) rfl ?_
  intro p e s m args below meth c s1 B hml hv
  obtain ⟨vs, rfl, hh, hp, hKn⟩ := hv
  obtain ⟨va, vs1, rfl, t0, q1⟩ := zt_cons hp.1
  obtain ⟨vb, vs2, rfl, ⟨zn, rfl, -, -⟩, q2⟩ := zt_cons q1
  obtain ⟨vc, vs3, rfl, ⟨tt, rfl, -, -⟩, q3⟩ := zt_cons q2
  obtain ⟨vd, vs4, rfl, ⟨oo, rfl, -, -⟩, q4⟩ := zt_cons q3
  cases zt_nil q4
  obtain ⟨a, rfl, ha⟩ : ∃ a : Nat, va = .ref a ∧ ro a = some 11 := by
    rcases t0 with ⟨g, -⟩ | g
    · exact absurd g (by decide)
    · exact g
  have hx := B.exec
  have hb := B.bytes
  have hr := B.returns
  have hlk := B.notSynchronized
  have hts0 := atoms_spec (ws := gW yX12_change cX12_change 6 (some .int)) B.pre
  have h2 : ∀ w ∈ gT, w.before ([.ref a, .int zn, .long tt, .int oo] : List Value).toArray s = true := fun w hw => hts0 w (List.mem_cons_of_mem _ hw)
  have hown : s.vm.findClass RX12 = some m.cls := findClass_of_methodNamed B.named
  have hl := lv_entry [.ref a, .int zn, .long tt, .int oo] (n := 6) (Nat.le_of_ble_eq_true rfl)
  rw [lg_entry_eq]
  generalize (lg_sl [.ref a, .int zn, .long tt, .int oo] ++ List.replicate (6 - (lg_sl [.ref a, .int zn, .long tt, .int oo]).length) Slot.unset).toArray = ls at hl ⊢
  have b_y := zn_i32 zn
  have b_t := zn_i64 tt
  have b_o := zn_i32 oo
  have hA0 : ArrOfT s (cA 0) .int := zAr hKn.1 0 (by decide)
  have hA1 : ArrOfT s (cA 1) .long := zAr hKn.1 1 (by decide)
  have hD := zD_all h2 hKn.1
  have hcl := fun (idx k : Nat) (t : zt_T) (h : (idx, 11, k) ∈ gfX12) (hk : fsX12[k]? = some t) => zf_clause (ro := ro) (ms := [(11, 0)]) h2 hown hKn.1 gfX12_ok (by decide +kernel) idx 11 k 11 0 fsX12 t h rfl hk
  have kp0 : zc_kept D RTg ro [(11, 0), (23, 0), (24, 0), (25, 0)] s.heap s.heap := zc_kept.refl
  refine lv_aload_n hx hb (eX12_change (0, .aload_n 0, 1) (List.mem_of_getElem? (i := 0) rfl)) rfl (lv_at hl 0 rfl) ?_
  refine lv_iload_n hx hb (eX12_change (1, .iload_n 1, 1) (List.mem_of_getElem? (i := 1) rfl)) rfl (lv_at hl 1 rfl) ?_
  refine zr_V (idx := 221) (r := 11) (ci := 11) (n0 := 0) (fs := fsX12) (lo := 0) (hi0 := 0) (ts := [(0, (-2147483648), 2147483647)]) hx hb hml hown hts0 hKn zKb (mX12_isZone l D cA ro sz H0) ⟨rfl, rfl⟩ ⟨by decide, by decide⟩ ⟨Nat.zero_le _, Nat.zero_le _⟩ (tb_7 162 rfl rfl) (tb_1 12 rfl rfl) (tb_7 159 rfl rfl) (tb_7 161 rfl rfl) (tb_0 15 rfl rfl) (by decide +kernel) rfl rfl (zCX12 hKn.1) rfl 2 221 (.invokevirtual 221) (Or.inr (Or.inl ⟨rfl, rfl⟩)) (eX12_change (2, .invokevirtual 221, 3) (List.mem_of_getElem? (i := 2) rfl)) _ _ _ [] [.ref a, .int zn] hl.1 (Nat.le_of_ble_eq_true rfl) hh ⟨⟨Or.inr ⟨_, rfl, ha⟩, tz_i (zn_i32 _).1 (zn_i32 _).2, trivial⟩, fun e he => (by cases he), fun f hf => (by cases hf)⟩ (fun H1 lo1 x1 hh1 hk1 hal1 => ?_)
  have kp1 := kp0.trans (hk1.mono (fun _ h => by cases h))
  obtain ⟨w1, rfl, al1⟩ := zc_two (t1 := (0, 1, 1)) (t2 := (0, 0, 0)) hal1
  obtain ⟨v1, rfl, e1⟩ : ∃ v : Int32, w1 = .int v ∧ ((v.toInt = 1 ∧ 0 ≤ zn.toInt ∧ zn.toInt ≤ 7) ∨ v.toInt = 0) := by
    rcases al1 with ⟨⟨v, rfl, g1, g2⟩, g3⟩ | ⟨v, rfl, g1, g2⟩
    · refine ⟨v, rfl, Or.inl ⟨by dsimp only at g1 g2; omega, ?_, ?_⟩⟩
      · have g4 := g3 _ List.mem_cons_self
        simp [zl_at, zl_ev, zc_env, zi_of, kX12_isZone] at g4
        omega
      · have g4 := g3 _ (List.mem_cons_of_mem _ List.mem_cons_self)
        simp [zl_at, zl_ev, zc_env, zi_of, kX12_isZone] at g4
        omega
    · exact ⟨v, rfl, Or.inr (by dsimp only at g1 g2; omega)⟩
  refine W.eq (g2 := F0 m 5 ls [.int v1]) rfl ?_
  refine ff_if_eq hx hb (eX12_change (5, .ifCond .eq 20, 3) (List.mem_of_getElem? (i := 3) rfl)) (tgt := 25) rfl (fun c2 => ?_) (fun c2 => ?_)
  · skip
    refine ff_iconst hx hb (eX12_change (25, .iconst 1, 1) (List.mem_of_getElem? (i := 12) rfl)) (by decide) (by decide) (fun v3 e3 => ?_)
    refine lv_goto hx hb (eX12_change (26, .goto 4, 3) (List.mem_of_getElem? (i := 13) rfl)) (tgt := 30) rfl ?_
    refine lv_istore hx hb (eX12_change (30, .istore 5, 2) (List.mem_of_getElem? (i := 15) rfl)) hl (by decide) rfl (fun ls4 hl4 => ?_)
    refine lv_iload hx hb (eX12_change (32, .iload 5, 2) (List.mem_of_getElem? (i := 16) rfl)) (lv_at hl4 0 rfl) ?_
    refine ff_if_ne hx hb (eX12_change (34, .ifCond .ne 35, 3) (List.mem_of_getElem? (i := 17) rfl)) (tgt := 69) rfl (fun c5 => ?_) (fun c5 => (by exfalso; omega))
    refine ff_iconst hx hb (eX12_change (69, .iconst 1, 1) (List.mem_of_getElem? (i := 39) rfl)) (by decide) (by decide) (fun v6 e6 => ?_)
    refine lv_goto hx hb (eX12_change (70, .goto 4, 3) (List.mem_of_getElem? (i := 40) rfl)) (tgt := 74) rfl ?_
    refine lv_istore hx hb (eX12_change (74, .istore 5, 2) (List.mem_of_getElem? (i := 42) rfl)) hl4 (by decide) rfl (fun ls7 hl7 => ?_)
    refine lv_aload_n hx hb (eX12_change (76, .aload_n 0, 1) (List.mem_of_getElem? (i := 43) rfl)) rfl (lv_at hl7 1 rfl) ?_
    refine lv_iload hx hb (eX12_change (77, .iload 5, 2) (List.mem_of_getElem? (i := 44) rfl)) (lv_at hl7 0 rfl) ?_
    refine ff_if_eq hx hb (eX12_change (79, .ifCond .eq 7, 3) (List.mem_of_getElem? (i := 45) rfl)) (tgt := 86) rfl (fun c8 => (by exfalso; omega)) (fun c8 => ?_)
    refine ff_iconst hx hb (eX12_change (82, .iconst 1, 1) (List.mem_of_getElem? (i := 46) rfl)) (by decide) (by decide) (fun v9 e9 => ?_)
    refine lv_goto hx hb (eX12_change (83, .goto 19, 3) (List.mem_of_getElem? (i := 47) rfl)) (tgt := 102) rfl ?_
    refine tz_put (r := 11) (k := 0) (t := (0, 0, 2)) hx hb hD hh1 ha rfl rfl ((hcl 85 0 (0, 0, 2) (by decide) rfl).2 List.mem_cons_self) (tz_i (by omega) (by omega)) (eX12_change (102, .putfield 85, 3) (List.mem_of_getElem? (i := 57) rfl)) (fun H10 lo10 hh10 hf10 hk10 _ hq10 => ?_)
    have kp10 := kp1.trans (hk10.mono (fun x hx => by cases List.mem_singleton.mp hx; decide))
    refine lv_aload_n hx hb (eX12_change (105, .aload_n 0, 1) (List.mem_of_getElem? (i := 58) rfl)) rfl (lv_at hl7 1 rfl) ?_
    refine tz_get (r := 11) (k := 0) (t := (0, 0, 2)) hx hb hh10 ha rfl rfl (hcl 85 0 (0, 0, 2) (by decide) rfl).1 hf10 (eX12_change (106, .getfield 85, 3) (List.mem_of_getElem? (i := 59) rfl)) ?_
    refine ff_if_le hx hb (eX12_change (109, .ifCond .le 5, 3) (List.mem_of_getElem? (i := 60) rfl)) (tgt := 114) rfl (fun c11 => (by exfalso; omega)) (fun c11 => ?_)
    refine ff_iconst hx hb (eX12_change (112, .iconst 0, 1) (List.mem_of_getElem? (i := 61) rfl)) (by decide) (by decide) (fun v12 e12 => ?_)
    exact W.zret hx hb hr rfl (fun t ht hW => ⟨_, _, rfl, rfl, by rw [ht]; exact hh10.l0, by rw [ht]; exact kp10, _, List.mem_cons_self, tz_i (ro := ro) (zn_i32 _).1 (zn_i32 _).2, trivial, fun f hf => (by cases hf)⟩) hh10.2.2.1 (eX12_change (113, .ireturn, 1) (List.mem_of_getElem? (i := 62) rfl))
  · skip
    refine lv_iload hx hb (eX12_change (8, .iload 4, 2) (List.mem_of_getElem? (i := 4) rfl)) (lv_at hl 3 rfl) ?_
    refine ff_i2l hx hb (eX12_change (10, .i2l, 1) (List.mem_of_getElem? (i := 5) rfl)) (fun v13 e13 => ?_)
    refine zr_S (idx := 218) hx hb hml hown hts0 hKn zKb (mX12_isOffset l D cA ro sz H0) ⟨rfl, rfl⟩ ⟨by decide, by decide⟩ ⟨Nat.zero_le _, Nat.zero_le _⟩ (tb_7 153 rfl rfl) (tb_1 12 rfl rfl) (tb_7 151 rfl rfl) (tb_7 152 rfl rfl) (by decide +kernel) rfl 11 218 (.invokestatic 218) (Or.inl ⟨rfl, rfl⟩) (eX12_change (11, .invokestatic 218, 3) (List.mem_of_getElem? (i := 6) rfl)) _ _ _ [] [.long v13] hl.1 (Nat.le_of_ble_eq_true rfl) hh1 ⟨⟨tz_l (zn_i64 _).1 (zn_i64 _).2, trivial⟩, fun e he => (by cases he), fun f hf => (by cases hf)⟩ (fun H14 lo14 x14 hh14 hk14 hal14 => ?_)
    have kp14 := kp1.trans (hk14.mono (fun _ h => by cases h))
    obtain ⟨w14, rfl, al14⟩ := zc_two (t1 := (0, 1, 1)) (t2 := (0, 0, 0)) hal14
    obtain ⟨v14, rfl, e14⟩ : ∃ v : Int32, w14 = .int v ∧ ((v.toInt = 1 ∧ (-1439) ≤ v13.toInt ∧ v13.toInt ≤ 1439) ∨ v.toInt = 0) := by
      rcases al14 with ⟨⟨v, rfl, g1, g2⟩, g3⟩ | ⟨v, rfl, g1, g2⟩
      · refine ⟨v, rfl, Or.inl ⟨by dsimp only at g1 g2; omega, ?_, ?_⟩⟩
        · have g4 := g3 _ List.mem_cons_self
          simp [zl_at, zl_ev, zc_env, zi_of, kX12_isOffset] at g4
          omega
        · have g4 := g3 _ (List.mem_cons_of_mem _ List.mem_cons_self)
          simp [zl_at, zl_ev, zc_env, zi_of, kX12_isOffset] at g4
          omega
      · exact ⟨v, rfl, Or.inr (by dsimp only at g1 g2; omega)⟩
    refine W.eq (g2 := F0 m 14 ls [.int v14]) rfl ?_
    refine ff_if_eq hx hb (eX12_change (14, .ifCond .eq 11, 3) (List.mem_of_getElem? (i := 7) rfl)) (tgt := 25) rfl (fun c15 => ?_) (fun c15 => ?_)
    · skip
      refine ff_iconst hx hb (eX12_change (25, .iconst 1, 1) (List.mem_of_getElem? (i := 12) rfl)) (by decide) (by decide) (fun v16 e16 => ?_)
      refine lv_goto hx hb (eX12_change (26, .goto 4, 3) (List.mem_of_getElem? (i := 13) rfl)) (tgt := 30) rfl ?_
      refine lv_istore hx hb (eX12_change (30, .istore 5, 2) (List.mem_of_getElem? (i := 15) rfl)) hl (by decide) rfl (fun ls17 hl17 => ?_)
      refine lv_iload hx hb (eX12_change (32, .iload 5, 2) (List.mem_of_getElem? (i := 16) rfl)) (lv_at hl17 0 rfl) ?_
      refine ff_if_ne hx hb (eX12_change (34, .ifCond .ne 35, 3) (List.mem_of_getElem? (i := 17) rfl)) (tgt := 69) rfl (fun c18 => ?_) (fun c18 => (by exfalso; omega))
      refine ff_iconst hx hb (eX12_change (69, .iconst 1, 1) (List.mem_of_getElem? (i := 39) rfl)) (by decide) (by decide) (fun v19 e19 => ?_)
      refine lv_goto hx hb (eX12_change (70, .goto 4, 3) (List.mem_of_getElem? (i := 40) rfl)) (tgt := 74) rfl ?_
      refine lv_istore hx hb (eX12_change (74, .istore 5, 2) (List.mem_of_getElem? (i := 42) rfl)) hl17 (by decide) rfl (fun ls20 hl20 => ?_)
      refine lv_aload_n hx hb (eX12_change (76, .aload_n 0, 1) (List.mem_of_getElem? (i := 43) rfl)) rfl (lv_at hl20 1 rfl) ?_
      refine lv_iload hx hb (eX12_change (77, .iload 5, 2) (List.mem_of_getElem? (i := 44) rfl)) (lv_at hl20 0 rfl) ?_
      refine ff_if_eq hx hb (eX12_change (79, .ifCond .eq 7, 3) (List.mem_of_getElem? (i := 45) rfl)) (tgt := 86) rfl (fun c21 => (by exfalso; omega)) (fun c21 => ?_)
      refine ff_iconst hx hb (eX12_change (82, .iconst 1, 1) (List.mem_of_getElem? (i := 46) rfl)) (by decide) (by decide) (fun v22 e22 => ?_)
      refine lv_goto hx hb (eX12_change (83, .goto 19, 3) (List.mem_of_getElem? (i := 47) rfl)) (tgt := 102) rfl ?_
      refine tz_put (r := 11) (k := 0) (t := (0, 0, 2)) hx hb hD hh14 ha rfl rfl ((hcl 85 0 (0, 0, 2) (by decide) rfl).2 List.mem_cons_self) (tz_i (by omega) (by omega)) (eX12_change (102, .putfield 85, 3) (List.mem_of_getElem? (i := 57) rfl)) (fun H23 lo23 hh23 hf23 hk23 _ hq23 => ?_)
      have kp23 := kp14.trans (hk23.mono (fun x hx => by cases List.mem_singleton.mp hx; decide))
      refine lv_aload_n hx hb (eX12_change (105, .aload_n 0, 1) (List.mem_of_getElem? (i := 58) rfl)) rfl (lv_at hl20 1 rfl) ?_
      refine tz_get (r := 11) (k := 0) (t := (0, 0, 2)) hx hb hh23 ha rfl rfl (hcl 85 0 (0, 0, 2) (by decide) rfl).1 hf23 (eX12_change (106, .getfield 85, 3) (List.mem_of_getElem? (i := 59) rfl)) ?_
      refine ff_if_le hx hb (eX12_change (109, .ifCond .le 5, 3) (List.mem_of_getElem? (i := 60) rfl)) (tgt := 114) rfl (fun c24 => (by exfalso; omega)) (fun c24 => ?_)
      refine ff_iconst hx hb (eX12_change (112, .iconst 0, 1) (List.mem_of_getElem? (i := 61) rfl)) (by decide) (by decide) (fun v25 e25 => ?_)
      exact W.zret hx hb hr rfl (fun t ht hW => ⟨_, _, rfl, rfl, by rw [ht]; exact hh23.l0, by rw [ht]; exact kp23, _, List.mem_cons_self, tz_i (ro := ro) (zn_i32 _).1 (zn_i32 _).2, trivial, fun f hf => (by cases hf)⟩) hh23.2.2.1 (eX12_change (113, .ireturn, 1) (List.mem_of_getElem? (i := 62) rfl))
    · skip
      refine lv_aload_n hx hb (eX12_change (17, .aload_n 0, 1) (List.mem_of_getElem? (i := 8) rfl)) rfl (lv_at hl 0 rfl) ?_
      refine lv_lload_n hx hb (eX12_change (18, .lload_n 2, 1) (List.mem_of_getElem? (i := 9) rfl)) rfl (lv_at hl 2 rfl) ?_
      refine zr_V (idx := 207) (r := 11) (ci := 11) (n0 := 0) (fs := fsX12) (lo := 0) (hi0 := 0) (ts := [(1, (-9223372036854775808), 9223372036854775807)]) hx hb hml hown hts0 hKn zKb (mX12_isInstant l D cA ro sz H0) ⟨rfl, rfl⟩ ⟨by decide, by decide⟩ ⟨Nat.zero_le _, Nat.zero_le _⟩ (tb_7 141 rfl rfl) (tb_1 12 rfl rfl) (tb_7 138 rfl rfl) (tb_7 140 rfl rfl) (tb_0 13 rfl rfl) (by decide +kernel) rfl rfl (zCX12 hKn.1) rfl 19 207 (.invokevirtual 207) (Or.inr (Or.inl ⟨rfl, rfl⟩)) (eX12_change (19, .invokevirtual 207, 3) (List.mem_of_getElem? (i := 10) rfl)) _ _ _ [] [.ref a, .long tt] hl.1 (Nat.le_of_ble_eq_true rfl) hh14 ⟨⟨Or.inr ⟨_, rfl, ha⟩, tz_l (zn_i64 _).1 (zn_i64 _).2, trivial⟩, fun e he => (by cases he), fun f hf => (by cases hf)⟩ (fun H26 lo26 x26 hh26 hk26 hal26 => ?_)
      have kp26 := kp14.trans (hk26.mono (fun _ h => by cases h))
      obtain ⟨w26, rfl, al26⟩ := zc_two (t1 := (0, 1, 1)) (t2 := (0, 0, 0)) hal26
      obtain ⟨v26, rfl, e26⟩ : ∃ v : Int32, w26 = .int v ∧ ((v.toInt = 1 ∧ (-40000000000000) ≤ tt.toInt ∧ tt.toInt ≤ 40000000000000) ∨ v.toInt = 0) := by
        rcases al26 with ⟨⟨v, rfl, g1, g2⟩, g3⟩ | ⟨v, rfl, g1, g2⟩
        · refine ⟨v, rfl, Or.inl ⟨by dsimp only at g1 g2; omega, ?_, ?_⟩⟩
          · have g4 := g3 _ List.mem_cons_self
            simp [zl_at, zl_ev, zc_env, zi_of, kX12_isInstant] at g4
            omega
          · have g4 := g3 _ (List.mem_cons_of_mem _ List.mem_cons_self)
            simp [zl_at, zl_ev, zc_env, zi_of, kX12_isInstant] at g4
            omega
        · exact ⟨v, rfl, Or.inr (by dsimp only at g1 g2; omega)⟩
      refine W.eq (g2 := F0 m 22 ls [.int v26]) rfl ?_
      refine ff_if_ne hx hb (eX12_change (22, .ifCond .ne 7, 3) (List.mem_of_getElem? (i := 11) rfl)) (tgt := 29) rfl (fun c27 => ?_) (fun c27 => ?_)
      · skip
        refine ff_iconst hx hb (eX12_change (29, .iconst 0, 1) (List.mem_of_getElem? (i := 14) rfl)) (by decide) (by decide) (fun v28 e28 => ?_)
        refine lv_istore hx hb (eX12_change (30, .istore 5, 2) (List.mem_of_getElem? (i := 15) rfl)) hl (by decide) rfl (fun ls29 hl29 => ?_)
        refine lv_iload hx hb (eX12_change (32, .iload 5, 2) (List.mem_of_getElem? (i := 16) rfl)) (lv_at hl29 0 rfl) ?_
        refine ff_if_ne hx hb (eX12_change (34, .ifCond .ne 35, 3) (List.mem_of_getElem? (i := 17) rfl)) (tgt := 69) rfl (fun c30 => (by exfalso; omega)) (fun c30 => ?_)
        obtain ⟨ac, f5_0, r5⟩ := tz_ref (k := 5) (rr := 23) hh26 ha (show RTg[11]? = some (0, 11, 0, fsX12) from rfl) rfl
        obtain ⟨-, z5, c5_0, y5⟩ := zh_arr hh26 r5 (show RTg[23]? = some (1, 0, 8, [(0, 0, 60)]) from rfl)
        have d5a : ac ≠ a := fun g => by rw [g, ha] at r5; cases r5
        obtain ⟨at0, f6_0, r6⟩ := tz_ref (k := 6) (rr := 24) hh26 ha (show RTg[11]? = some (0, 11, 0, fsX12) from rfl) rfl
        obtain ⟨-, z6, c6_0, y6⟩ := zh_arr hh26 r6 (show RTg[24]? = some (1, 1, 480, [(1, (-100000000000000), 100000000000000)]) from rfl)
        have d6a : at0 ≠ a := fun g => by rw [g, ha] at r6; cases r6
        obtain ⟨ao, f7_0, r7⟩ := tz_ref (k := 7) (rr := 25) hh26 ha (show RTg[11]? = some (0, 11, 0, fsX12) from rfl) rfl
        obtain ⟨-, z7, c7_0, y7⟩ := zh_arr hh26 r7 (show RTg[25]? = some (1, 0, 480, [(0, (-1439), 1439)]) from rfl)
        have d7a : ao ≠ a := fun g => by rw [g, ha] at r7; cases r7
        have d56 : ac ≠ at0 := fun g => by rw [g, r6] at r5; cases r5
        have d57 : ac ≠ ao := fun g => by rw [g, r7] at r5; cases r5
        have d65 : at0 ≠ ac := fun g => by rw [g, r5] at r6; cases r6
        have d67 : at0 ≠ ao := fun g => by rw [g, r7] at r6; cases r6
        have d75 : ao ≠ ac := fun g => by rw [g, r5] at r7; cases r7
        have d76 : ao ≠ at0 := fun g => by rw [g, r6] at r7; cases r7
        obtain ⟨n, hzn, n1, n2⟩ := y5 zn.toNatClampNeg (by show zn.toInt.toNat < 8; omega)
        dsimp only at n1 n2
        refine lv_aload_n hx hb (eX12_change (37, .aload_n 0, 1) (List.mem_of_getElem? (i := 18) rfl)) rfl (lv_at hl29 1 rfl) ?_
        refine tz_get (r := 11) (k := 5) (t := (50, 0, 0)) hx hb hh26 ha rfl rfl (hcl 19 5 (50, 0, 0) (by decide) rfl).1 f5_0 (eX12_change (38, .getfield 19, 3) (List.mem_of_getElem? (i := 19) rfl)) ?_
        refine lv_iload_n hx hb (eX12_change (41, .iload_n 1, 1) (List.mem_of_getElem? (i := 20) rfl)) rfl (lv_at hl29 2 rfl) ?_
        refine tz_iald hx hb hA0 c5_0 (by omega) (by omega) (eX12_change (42, .iaload, 1) (List.mem_of_getElem? (i := 21) rfl)) ?_
        rw [hzn]
        refine ff_if_le hx hb (eX12_change (43, .ifCond .le 30, 3) (List.mem_of_getElem? (i := 22) rfl)) (tgt := 73) rfl (fun c31 => ?_) (fun c31 => ?_)
        · skip
          refine ff_iconst hx hb (eX12_change (73, .iconst 0, 1) (List.mem_of_getElem? (i := 41) rfl)) (by decide) (by decide) (fun v32 e32 => ?_)
          refine lv_istore hx hb (eX12_change (74, .istore 5, 2) (List.mem_of_getElem? (i := 42) rfl)) hl29 (by decide) rfl (fun ls33 hl33 => ?_)
          refine lv_aload_n hx hb (eX12_change (76, .aload_n 0, 1) (List.mem_of_getElem? (i := 43) rfl)) rfl (lv_at hl33 1 rfl) ?_
          refine lv_iload hx hb (eX12_change (77, .iload 5, 2) (List.mem_of_getElem? (i := 44) rfl)) (lv_at hl33 0 rfl) ?_
          refine ff_if_eq hx hb (eX12_change (79, .ifCond .eq 7, 3) (List.mem_of_getElem? (i := 45) rfl)) (tgt := 86) rfl (fun c34 => ?_) (fun c34 => (by exfalso; omega))
          refine lv_aload_n hx hb (eX12_change (86, .aload_n 0, 1) (List.mem_of_getElem? (i := 48) rfl)) rfl (lv_at hl33 1 rfl) ?_
          refine tz_get (r := 11) (k := 5) (t := (50, 0, 0)) hx hb hh26 ha rfl rfl (hcl 19 5 (50, 0, 0) (by decide) rfl).1 f5_0 (eX12_change (87, .getfield 19, 3) (List.mem_of_getElem? (i := 49) rfl)) ?_
          refine lv_iload_n hx hb (eX12_change (90, .iload_n 1, 1) (List.mem_of_getElem? (i := 50) rfl)) rfl (lv_at hl33 2 rfl) ?_
          refine tz_iald hx hb hA0 c5_0 (by omega) (by omega) (eX12_change (91, .iaload, 1) (List.mem_of_getElem? (i := 51) rfl)) ?_
          rw [hzn]
          refine ff_bipush hx hb (eX12_change (92, .bipush 60, 2) (List.mem_of_getElem? (i := 52) rfl)) (by decide) (by decide) (fun v35 e35 => ?_)
          refine ff_icmp_ne hx hb (eX12_change (94, .if_icmp .ne 7, 3) (List.mem_of_getElem? (i := 53) rfl)) (tgt := 101) rfl (fun c36 => ?_) (fun c36 => ?_)
          · skip
            refine ff_iconst hx hb (eX12_change (101, .iconst 0, 1) (List.mem_of_getElem? (i := 56) rfl)) (by decide) (by decide) (fun v37 e37 => ?_)
            refine tz_put (r := 11) (k := 0) (t := (0, 0, 2)) hx hb hD hh26 ha rfl rfl ((hcl 85 0 (0, 0, 2) (by decide) rfl).2 List.mem_cons_self) (tz_i (by omega) (by omega)) (eX12_change (102, .putfield 85, 3) (List.mem_of_getElem? (i := 57) rfl)) (fun H38 lo38 hh38 hf38 hk38 _ hq38 => ?_)
            have kp38 := kp26.trans (hk38.mono (fun x hx => by cases List.mem_singleton.mp hx; decide))
            have f5_38 := (hk38.1 a 11 5 11 0 fsX12 ha rfl (by decide) (by decide)).trans f5_0
            have c5_38 := (hq38 _ d5a).trans c5_0
            have f6_38 := (hk38.1 a 11 6 11 0 fsX12 ha rfl (by decide) (by decide)).trans f6_0
            have c6_38 := (hq38 _ d6a).trans c6_0
            have f7_38 := (hk38.1 a 11 7 11 0 fsX12 ha rfl (by decide) (by decide)).trans f7_0
            have c7_38 := (hq38 _ d7a).trans c7_0
            refine lv_aload_n hx hb (eX12_change (105, .aload_n 0, 1) (List.mem_of_getElem? (i := 58) rfl)) rfl (lv_at hl33 1 rfl) ?_
            refine tz_get (r := 11) (k := 0) (t := (0, 0, 2)) hx hb hh38 ha rfl rfl (hcl 85 0 (0, 0, 2) (by decide) rfl).1 hf38 (eX12_change (106, .getfield 85, 3) (List.mem_of_getElem? (i := 59) rfl)) ?_
            refine ff_if_le hx hb (eX12_change (109, .ifCond .le 5, 3) (List.mem_of_getElem? (i := 60) rfl)) (tgt := 114) rfl (fun c39 => ?_) (fun c39 => (by exfalso; omega))
            refine lv_aload_n hx hb (eX12_change (114, .aload_n 0, 1) (List.mem_of_getElem? (i := 63) rfl)) rfl (lv_at hl33 1 rfl) ?_
            refine tz_get (r := 11) (k := 6) (t := (52, 0, 0)) hx hb hh38 ha rfl rfl (hcl 22 6 (52, 0, 0) (by decide) rfl).1 f6_38 (eX12_change (115, .getfield 22, 3) (List.mem_of_getElem? (i := 64) rfl)) ?_
            refine ff_bipush hx hb (eX12_change (118, .bipush 60, 2) (List.mem_of_getElem? (i := 65) rfl)) (by decide) (by decide) (fun v40 e40 => ?_)
            refine lv_iload_n hx hb (eX12_change (120, .iload_n 1, 1) (List.mem_of_getElem? (i := 66) rfl)) rfl (lv_at hl33 2 rfl) ?_
            refine ff_imulL hx hb (eX12_change (121, .imul, 1) (List.mem_of_getElem? (i := 67) rfl)) (e40) (by omega) (by omega) (fun v41 e41 => ?_)
            refine lv_aload_n hx hb (eX12_change (122, .aload_n 0, 1) (List.mem_of_getElem? (i := 68) rfl)) rfl (lv_at hl33 1 rfl) ?_
            refine tz_get (r := 11) (k := 5) (t := (50, 0, 0)) hx hb hh38 ha rfl rfl (hcl 19 5 (50, 0, 0) (by decide) rfl).1 f5_38 (eX12_change (123, .getfield 19, 3) (List.mem_of_getElem? (i := 69) rfl)) ?_
            refine lv_iload_n hx hb (eX12_change (126, .iload_n 1, 1) (List.mem_of_getElem? (i := 70) rfl)) rfl (lv_at hl33 2 rfl) ?_
            refine tz_iald hx hb hA0 c5_38 (by omega) (by omega) (eX12_change (127, .iaload, 1) (List.mem_of_getElem? (i := 71) rfl)) ?_
            rw [hzn]
            refine ff_iadd hx hb (eX12_change (128, .iadd, 1) (List.mem_of_getElem? (i := 72) rfl)) (by omega) (by omega) (fun v42 e42 => ?_)
            refine lv_lload_n hx hb (eX12_change (129, .lload_n 2, 1) (List.mem_of_getElem? (i := 73) rfl)) rfl (lv_at hl33 3 rfl) ?_
            refine tz_last hx hb hA1 hh38 r6 (show RTg[24]? = some (1, 1, 480, [(1, (-100000000000000), 100000000000000)]) from rfl) c6_38 y6 (by omega) (by omega) (tz_l (by omega) (by omega)) (eX12_change (130, .lastore, 1) (List.mem_of_getElem? (i := 74) rfl)) (fun H43 lo43 hh43 hc43 hk43 hq43 _ => ?_)
            have kp43 := kp38.trans (hk43.mono (fun x hx => by cases List.mem_singleton.mp hx; decide))
            have f5_43 := (hk43.1 a 11 5 11 0 fsX12 ha rfl (by decide) (by decide)).trans f5_38
            have c5_43 := (hq43 _ d56).trans c5_38
            have f6_43 := (hk43.1 a 11 6 11 0 fsX12 ha rfl (by decide) (by decide)).trans f6_38
            have f7_43 := (hk43.1 a 11 7 11 0 fsX12 ha rfl (by decide) (by decide)).trans f7_38
            have c7_43 := (hq43 _ d76).trans c7_38
            refine lv_aload_n hx hb (eX12_change (131, .aload_n 0, 1) (List.mem_of_getElem? (i := 75) rfl)) rfl (lv_at hl33 1 rfl) ?_
            refine tz_get (r := 11) (k := 7) (t := (54, 0, 0)) hx hb hh43 ha rfl rfl (hcl 25 7 (54, 0, 0) (by decide) rfl).1 f7_43 (eX12_change (132, .getfield 25, 3) (List.mem_of_getElem? (i := 76) rfl)) ?_
            refine ff_bipush hx hb (eX12_change (135, .bipush 60, 2) (List.mem_of_getElem? (i := 77) rfl)) (by decide) (by decide) (fun v44 e44 => ?_)
            refine lv_iload_n hx hb (eX12_change (137, .iload_n 1, 1) (List.mem_of_getElem? (i := 78) rfl)) rfl (lv_at hl33 2 rfl) ?_
            refine ff_imulL hx hb (eX12_change (138, .imul, 1) (List.mem_of_getElem? (i := 79) rfl)) (e44) (by omega) (by omega) (fun v45 e45 => ?_)
            refine lv_aload_n hx hb (eX12_change (139, .aload_n 0, 1) (List.mem_of_getElem? (i := 80) rfl)) rfl (lv_at hl33 1 rfl) ?_
            refine tz_get (r := 11) (k := 5) (t := (50, 0, 0)) hx hb hh43 ha rfl rfl (hcl 19 5 (50, 0, 0) (by decide) rfl).1 f5_43 (eX12_change (140, .getfield 19, 3) (List.mem_of_getElem? (i := 81) rfl)) ?_
            refine lv_iload_n hx hb (eX12_change (143, .iload_n 1, 1) (List.mem_of_getElem? (i := 82) rfl)) rfl (lv_at hl33 2 rfl) ?_
            refine tz_iald hx hb hA0 c5_43 (by omega) (by omega) (eX12_change (144, .iaload, 1) (List.mem_of_getElem? (i := 83) rfl)) ?_
            rw [hzn]
            refine ff_iadd hx hb (eX12_change (145, .iadd, 1) (List.mem_of_getElem? (i := 84) rfl)) (by omega) (by omega) (fun v46 e46 => ?_)
            refine lv_iload hx hb (eX12_change (146, .iload 4, 2) (List.mem_of_getElem? (i := 85) rfl)) (lv_at hl33 4 rfl) ?_
            refine tz_iast hx hb hA0 hh43 r7 (show RTg[25]? = some (1, 0, 480, [(0, (-1439), 1439)]) from rfl) c7_43 y7 (by omega) (by omega) (tz_i (by omega) (by omega)) (eX12_change (148, .iastore, 1) (List.mem_of_getElem? (i := 86) rfl)) (fun H47 lo47 hh47 hc47 hk47 hq47 _ => ?_)
            have kp47 := kp43.trans (hk47.mono (fun x hx => by cases List.mem_singleton.mp hx; decide))
            have f5_47 := (hk47.1 a 11 5 11 0 fsX12 ha rfl (by decide) (by decide)).trans f5_43
            have c5_47 := (hq47 _ d57).trans c5_43
            have f6_47 := (hk47.1 a 11 6 11 0 fsX12 ha rfl (by decide) (by decide)).trans f6_43
            have c6_47 := (hq47 _ d67).trans hc43
            have f7_47 := (hk47.1 a 11 7 11 0 fsX12 ha rfl (by decide) (by decide)).trans f7_43
            refine lv_aload_n hx hb (eX12_change (149, .aload_n 0, 1) (List.mem_of_getElem? (i := 87) rfl)) rfl (lv_at hl33 1 rfl) ?_
            refine tz_get (r := 11) (k := 5) (t := (50, 0, 0)) hx hb hh47 ha rfl rfl (hcl 19 5 (50, 0, 0) (by decide) rfl).1 f5_47 (eX12_change (150, .getfield 19, 3) (List.mem_of_getElem? (i := 88) rfl)) ?_
            refine lv_iload_n hx hb (eX12_change (153, .iload_n 1, 1) (List.mem_of_getElem? (i := 89) rfl)) rfl (lv_at hl33 2 rfl) ?_
            refine lv_dup2_11 hx hb (eX12_change (154, .dup2, 1) (List.mem_of_getElem? (i := 90) rfl)) rfl rfl ?_
            refine tz_iald hx hb hA0 c5_47 (by omega) (by omega) (eX12_change (155, .iaload, 1) (List.mem_of_getElem? (i := 91) rfl)) ?_
            rw [hzn]
            refine ff_iconst hx hb (eX12_change (156, .iconst 1, 1) (List.mem_of_getElem? (i := 92) rfl)) (by decide) (by decide) (fun v48 e48 => ?_)
            refine ff_iadd hx hb (eX12_change (157, .iadd, 1) (List.mem_of_getElem? (i := 93) rfl)) (by omega) (by omega) (fun v49 e49 => ?_)
            refine tz_iast hx hb hA0 hh47 r5 (show RTg[23]? = some (1, 0, 8, [(0, 0, 60)]) from rfl) c5_47 y5 (by omega) (by omega) (tz_i (by omega) (by omega)) (eX12_change (158, .iastore, 1) (List.mem_of_getElem? (i := 94) rfl)) (fun H50 lo50 hh50 hc50 hk50 hq50 _ => ?_)
            have kp50 := kp47.trans (hk50.mono (fun x hx => by cases List.mem_singleton.mp hx; decide))
            have f5_50 := (hk50.1 a 11 5 11 0 fsX12 ha rfl (by decide) (by decide)).trans f5_47
            have f6_50 := (hk50.1 a 11 6 11 0 fsX12 ha rfl (by decide) (by decide)).trans f6_47
            have c6_50 := (hq50 _ d65).trans c6_47
            have f7_50 := (hk50.1 a 11 7 11 0 fsX12 ha rfl (by decide) (by decide)).trans f7_47
            have c7_50 := (hq50 _ d75).trans hc47
            have hzm : updV z5 zn.toNatClampNeg (.int v49) zn.toNatClampNeg = .int v49 := by simp [updV]
            refine lv_aload_n hx hb (eX12_change (159, .aload_n 0, 1) (List.mem_of_getElem? (i := 95) rfl)) rfl (lv_at hl33 1 rfl) ?_
            refine tz_get (r := 11) (k := 5) (t := (50, 0, 0)) hx hb hh50 ha rfl rfl (hcl 19 5 (50, 0, 0) (by decide) rfl).1 f5_50 (eX12_change (160, .getfield 19, 3) (List.mem_of_getElem? (i := 96) rfl)) ?_
            refine lv_iload_n hx hb (eX12_change (163, .iload_n 1, 1) (List.mem_of_getElem? (i := 97) rfl)) rfl (lv_at hl33 2 rfl) ?_
            refine tz_iald hx hb hA0 hc50 (by omega) (by omega) (eX12_change (164, .iaload, 1) (List.mem_of_getElem? (i := 98) rfl)) ?_
            rw [hzm]
            exact W.zret hx hb hr rfl (fun t ht hW => ⟨_, _, rfl, rfl, by rw [ht]; exact hh50.l0, by rw [ht]; exact kp50, _, List.mem_cons_self, tz_i (ro := ro) (zn_i32 _).1 (zn_i32 _).2, trivial, fun f hf => (by cases hf)⟩) hh50.2.2.1 (eX12_change (165, .ireturn, 1) (List.mem_of_getElem? (i := 99) rfl))
          · skip
            refine ff_iconst hx hb (eX12_change (97, .iconst 2, 1) (List.mem_of_getElem? (i := 54) rfl)) (by decide) (by decide) (fun v51 e51 => ?_)
            refine lv_goto hx hb (eX12_change (98, .goto 4, 3) (List.mem_of_getElem? (i := 55) rfl)) (tgt := 102) rfl ?_
            refine tz_put (r := 11) (k := 0) (t := (0, 0, 2)) hx hb hD hh26 ha rfl rfl ((hcl 85 0 (0, 0, 2) (by decide) rfl).2 List.mem_cons_self) (tz_i (by omega) (by omega)) (eX12_change (102, .putfield 85, 3) (List.mem_of_getElem? (i := 57) rfl)) (fun H52 lo52 hh52 hf52 hk52 _ hq52 => ?_)
            have kp52 := kp26.trans (hk52.mono (fun x hx => by cases List.mem_singleton.mp hx; decide))
            have f5_52 := (hk52.1 a 11 5 11 0 fsX12 ha rfl (by decide) (by decide)).trans f5_0
            have c5_52 := (hq52 _ d5a).trans c5_0
            have f6_52 := (hk52.1 a 11 6 11 0 fsX12 ha rfl (by decide) (by decide)).trans f6_0
            have c6_52 := (hq52 _ d6a).trans c6_0
            have f7_52 := (hk52.1 a 11 7 11 0 fsX12 ha rfl (by decide) (by decide)).trans f7_0
            have c7_52 := (hq52 _ d7a).trans c7_0
            refine lv_aload_n hx hb (eX12_change (105, .aload_n 0, 1) (List.mem_of_getElem? (i := 58) rfl)) rfl (lv_at hl33 1 rfl) ?_
            refine tz_get (r := 11) (k := 0) (t := (0, 0, 2)) hx hb hh52 ha rfl rfl (hcl 85 0 (0, 0, 2) (by decide) rfl).1 hf52 (eX12_change (106, .getfield 85, 3) (List.mem_of_getElem? (i := 59) rfl)) ?_
            refine ff_if_le hx hb (eX12_change (109, .ifCond .le 5, 3) (List.mem_of_getElem? (i := 60) rfl)) (tgt := 114) rfl (fun c53 => (by exfalso; omega)) (fun c53 => ?_)
            refine ff_iconst hx hb (eX12_change (112, .iconst 0, 1) (List.mem_of_getElem? (i := 61) rfl)) (by decide) (by decide) (fun v54 e54 => ?_)
            exact W.zret hx hb hr rfl (fun t ht hW => ⟨_, _, rfl, rfl, by rw [ht]; exact hh52.l0, by rw [ht]; exact kp52, _, List.mem_cons_self, tz_i (ro := ro) (zn_i32 _).1 (zn_i32 _).2, trivial, fun f hf => (by cases hf)⟩) hh52.2.2.1 (eX12_change (113, .ireturn, 1) (List.mem_of_getElem? (i := 62) rfl))
        · skip
          refine lv_lload_n hx hb (eX12_change (46, .lload_n 2, 1) (List.mem_of_getElem? (i := 23) rfl)) rfl (lv_at hl29 3 rfl) ?_
          refine lv_aload_n hx hb (eX12_change (47, .aload_n 0, 1) (List.mem_of_getElem? (i := 24) rfl)) rfl (lv_at hl29 1 rfl) ?_
          refine tz_get (r := 11) (k := 6) (t := (52, 0, 0)) hx hb hh26 ha rfl rfl (hcl 22 6 (52, 0, 0) (by decide) rfl).1 f6_0 (eX12_change (48, .getfield 22, 3) (List.mem_of_getElem? (i := 25) rfl)) ?_
          refine ff_bipush hx hb (eX12_change (51, .bipush 60, 2) (List.mem_of_getElem? (i := 26) rfl)) (by decide) (by decide) (fun v55 e55 => ?_)
          refine lv_iload_n hx hb (eX12_change (53, .iload_n 1, 1) (List.mem_of_getElem? (i := 27) rfl)) rfl (lv_at hl29 2 rfl) ?_
          refine ff_imulL hx hb (eX12_change (54, .imul, 1) (List.mem_of_getElem? (i := 28) rfl)) (e55) (by omega) (by omega) (fun v56 e56 => ?_)
          refine lv_aload_n hx hb (eX12_change (55, .aload_n 0, 1) (List.mem_of_getElem? (i := 29) rfl)) rfl (lv_at hl29 1 rfl) ?_
          refine tz_get (r := 11) (k := 5) (t := (50, 0, 0)) hx hb hh26 ha rfl rfl (hcl 19 5 (50, 0, 0) (by decide) rfl).1 f5_0 (eX12_change (56, .getfield 19, 3) (List.mem_of_getElem? (i := 30) rfl)) ?_
          refine lv_iload_n hx hb (eX12_change (59, .iload_n 1, 1) (List.mem_of_getElem? (i := 31) rfl)) rfl (lv_at hl29 2 rfl) ?_
          refine tz_iald hx hb hA0 c5_0 (by omega) (by omega) (eX12_change (60, .iaload, 1) (List.mem_of_getElem? (i := 32) rfl)) ?_
          rw [hzn]
          refine ff_iadd hx hb (eX12_change (61, .iadd, 1) (List.mem_of_getElem? (i := 33) rfl)) (by omega) (by omega) (fun v57 e57 => ?_)
          refine ff_iconst hx hb (eX12_change (62, .iconst 1, 1) (List.mem_of_getElem? (i := 34) rfl)) (by decide) (by decide) (fun v58 e58 => ?_)
          refine ff_isub hx hb (eX12_change (63, .isub, 1) (List.mem_of_getElem? (i := 35) rfl)) (by omega) (by omega) (fun v59 e59 => ?_)
          refine tz_lald hx hb hA1 c6_0 (by omega) (by omega) (eX12_change (64, .laload, 1) (List.mem_of_getElem? (i := 36) rfl)) ?_
          obtain ⟨v60, hv60, -, -⟩ := y6 v59.toNatClampNeg (by show v59.toInt.toNat < 480; omega)
          rw [hv60]
          refine ff_lcmp hx hb (eX12_change (65, .lcmp, 1) (List.mem_of_getElem? (i := 37) rfl)) (fun v61 e61 => ?_)
          refine ff_if_gt hx hb (eX12_change (66, .ifCond .gt 7, 3) (List.mem_of_getElem? (i := 38) rfl)) (tgt := 73) rfl (fun c62 => ?_) (fun c62 => ?_)
          · skip
            refine ff_iconst hx hb (eX12_change (73, .iconst 0, 1) (List.mem_of_getElem? (i := 41) rfl)) (by decide) (by decide) (fun v63 e63 => ?_)
            refine lv_istore hx hb (eX12_change (74, .istore 5, 2) (List.mem_of_getElem? (i := 42) rfl)) hl29 (by decide) rfl (fun ls64 hl64 => ?_)
            refine lv_aload_n hx hb (eX12_change (76, .aload_n 0, 1) (List.mem_of_getElem? (i := 43) rfl)) rfl (lv_at hl64 1 rfl) ?_
            refine lv_iload hx hb (eX12_change (77, .iload 5, 2) (List.mem_of_getElem? (i := 44) rfl)) (lv_at hl64 0 rfl) ?_
            refine ff_if_eq hx hb (eX12_change (79, .ifCond .eq 7, 3) (List.mem_of_getElem? (i := 45) rfl)) (tgt := 86) rfl (fun c65 => ?_) (fun c65 => (by exfalso; omega))
            refine lv_aload_n hx hb (eX12_change (86, .aload_n 0, 1) (List.mem_of_getElem? (i := 48) rfl)) rfl (lv_at hl64 1 rfl) ?_
            refine tz_get (r := 11) (k := 5) (t := (50, 0, 0)) hx hb hh26 ha rfl rfl (hcl 19 5 (50, 0, 0) (by decide) rfl).1 f5_0 (eX12_change (87, .getfield 19, 3) (List.mem_of_getElem? (i := 49) rfl)) ?_
            refine lv_iload_n hx hb (eX12_change (90, .iload_n 1, 1) (List.mem_of_getElem? (i := 50) rfl)) rfl (lv_at hl64 2 rfl) ?_
            refine tz_iald hx hb hA0 c5_0 (by omega) (by omega) (eX12_change (91, .iaload, 1) (List.mem_of_getElem? (i := 51) rfl)) ?_
            rw [hzn]
            refine ff_bipush hx hb (eX12_change (92, .bipush 60, 2) (List.mem_of_getElem? (i := 52) rfl)) (by decide) (by decide) (fun v66 e66 => ?_)
            refine ff_icmp_ne hx hb (eX12_change (94, .if_icmp .ne 7, 3) (List.mem_of_getElem? (i := 53) rfl)) (tgt := 101) rfl (fun c67 => ?_) (fun c67 => ?_)
            · skip
              refine ff_iconst hx hb (eX12_change (101, .iconst 0, 1) (List.mem_of_getElem? (i := 56) rfl)) (by decide) (by decide) (fun v68 e68 => ?_)
              refine tz_put (r := 11) (k := 0) (t := (0, 0, 2)) hx hb hD hh26 ha rfl rfl ((hcl 85 0 (0, 0, 2) (by decide) rfl).2 List.mem_cons_self) (tz_i (by omega) (by omega)) (eX12_change (102, .putfield 85, 3) (List.mem_of_getElem? (i := 57) rfl)) (fun H69 lo69 hh69 hf69 hk69 _ hq69 => ?_)
              have kp69 := kp26.trans (hk69.mono (fun x hx => by cases List.mem_singleton.mp hx; decide))
              have f5_69 := (hk69.1 a 11 5 11 0 fsX12 ha rfl (by decide) (by decide)).trans f5_0
              have c5_69 := (hq69 _ d5a).trans c5_0
              have f6_69 := (hk69.1 a 11 6 11 0 fsX12 ha rfl (by decide) (by decide)).trans f6_0
              have c6_69 := (hq69 _ d6a).trans c6_0
              have f7_69 := (hk69.1 a 11 7 11 0 fsX12 ha rfl (by decide) (by decide)).trans f7_0
              have c7_69 := (hq69 _ d7a).trans c7_0
              refine lv_aload_n hx hb (eX12_change (105, .aload_n 0, 1) (List.mem_of_getElem? (i := 58) rfl)) rfl (lv_at hl64 1 rfl) ?_
              refine tz_get (r := 11) (k := 0) (t := (0, 0, 2)) hx hb hh69 ha rfl rfl (hcl 85 0 (0, 0, 2) (by decide) rfl).1 hf69 (eX12_change (106, .getfield 85, 3) (List.mem_of_getElem? (i := 59) rfl)) ?_
              refine ff_if_le hx hb (eX12_change (109, .ifCond .le 5, 3) (List.mem_of_getElem? (i := 60) rfl)) (tgt := 114) rfl (fun c70 => ?_) (fun c70 => (by exfalso; omega))
              refine lv_aload_n hx hb (eX12_change (114, .aload_n 0, 1) (List.mem_of_getElem? (i := 63) rfl)) rfl (lv_at hl64 1 rfl) ?_
              refine tz_get (r := 11) (k := 6) (t := (52, 0, 0)) hx hb hh69 ha rfl rfl (hcl 22 6 (52, 0, 0) (by decide) rfl).1 f6_69 (eX12_change (115, .getfield 22, 3) (List.mem_of_getElem? (i := 64) rfl)) ?_
              refine ff_bipush hx hb (eX12_change (118, .bipush 60, 2) (List.mem_of_getElem? (i := 65) rfl)) (by decide) (by decide) (fun v71 e71 => ?_)
              refine lv_iload_n hx hb (eX12_change (120, .iload_n 1, 1) (List.mem_of_getElem? (i := 66) rfl)) rfl (lv_at hl64 2 rfl) ?_
              refine ff_imulL hx hb (eX12_change (121, .imul, 1) (List.mem_of_getElem? (i := 67) rfl)) (e71) (by omega) (by omega) (fun v72 e72 => ?_)
              refine lv_aload_n hx hb (eX12_change (122, .aload_n 0, 1) (List.mem_of_getElem? (i := 68) rfl)) rfl (lv_at hl64 1 rfl) ?_
              refine tz_get (r := 11) (k := 5) (t := (50, 0, 0)) hx hb hh69 ha rfl rfl (hcl 19 5 (50, 0, 0) (by decide) rfl).1 f5_69 (eX12_change (123, .getfield 19, 3) (List.mem_of_getElem? (i := 69) rfl)) ?_
              refine lv_iload_n hx hb (eX12_change (126, .iload_n 1, 1) (List.mem_of_getElem? (i := 70) rfl)) rfl (lv_at hl64 2 rfl) ?_
              refine tz_iald hx hb hA0 c5_69 (by omega) (by omega) (eX12_change (127, .iaload, 1) (List.mem_of_getElem? (i := 71) rfl)) ?_
              rw [hzn]
              refine ff_iadd hx hb (eX12_change (128, .iadd, 1) (List.mem_of_getElem? (i := 72) rfl)) (by omega) (by omega) (fun v73 e73 => ?_)
              refine lv_lload_n hx hb (eX12_change (129, .lload_n 2, 1) (List.mem_of_getElem? (i := 73) rfl)) rfl (lv_at hl64 3 rfl) ?_
              refine tz_last hx hb hA1 hh69 r6 (show RTg[24]? = some (1, 1, 480, [(1, (-100000000000000), 100000000000000)]) from rfl) c6_69 y6 (by omega) (by omega) (tz_l (by omega) (by omega)) (eX12_change (130, .lastore, 1) (List.mem_of_getElem? (i := 74) rfl)) (fun H74 lo74 hh74 hc74 hk74 hq74 _ => ?_)
              have kp74 := kp69.trans (hk74.mono (fun x hx => by cases List.mem_singleton.mp hx; decide))
              have f5_74 := (hk74.1 a 11 5 11 0 fsX12 ha rfl (by decide) (by decide)).trans f5_69
              have c5_74 := (hq74 _ d56).trans c5_69
              have f6_74 := (hk74.1 a 11 6 11 0 fsX12 ha rfl (by decide) (by decide)).trans f6_69
              have f7_74 := (hk74.1 a 11 7 11 0 fsX12 ha rfl (by decide) (by decide)).trans f7_69
              have c7_74 := (hq74 _ d76).trans c7_69
              refine lv_aload_n hx hb (eX12_change (131, .aload_n 0, 1) (List.mem_of_getElem? (i := 75) rfl)) rfl (lv_at hl64 1 rfl) ?_
              refine tz_get (r := 11) (k := 7) (t := (54, 0, 0)) hx hb hh74 ha rfl rfl (hcl 25 7 (54, 0, 0) (by decide) rfl).1 f7_74 (eX12_change (132, .getfield 25, 3) (List.mem_of_getElem? (i := 76) rfl)) ?_
              refine ff_bipush hx hb (eX12_change (135, .bipush 60, 2) (List.mem_of_getElem? (i := 77) rfl)) (by decide) (by decide) (fun v75 e75 => ?_)
              refine lv_iload_n hx hb (eX12_change (137, .iload_n 1, 1) (List.mem_of_getElem? (i := 78) rfl)) rfl (lv_at hl64 2 rfl) ?_
              refine ff_imulL hx hb (eX12_change (138, .imul, 1) (List.mem_of_getElem? (i := 79) rfl)) (e75) (by omega) (by omega) (fun v76 e76 => ?_)
              refine lv_aload_n hx hb (eX12_change (139, .aload_n 0, 1) (List.mem_of_getElem? (i := 80) rfl)) rfl (lv_at hl64 1 rfl) ?_
              refine tz_get (r := 11) (k := 5) (t := (50, 0, 0)) hx hb hh74 ha rfl rfl (hcl 19 5 (50, 0, 0) (by decide) rfl).1 f5_74 (eX12_change (140, .getfield 19, 3) (List.mem_of_getElem? (i := 81) rfl)) ?_
              refine lv_iload_n hx hb (eX12_change (143, .iload_n 1, 1) (List.mem_of_getElem? (i := 82) rfl)) rfl (lv_at hl64 2 rfl) ?_
              refine tz_iald hx hb hA0 c5_74 (by omega) (by omega) (eX12_change (144, .iaload, 1) (List.mem_of_getElem? (i := 83) rfl)) ?_
              rw [hzn]
              refine ff_iadd hx hb (eX12_change (145, .iadd, 1) (List.mem_of_getElem? (i := 84) rfl)) (by omega) (by omega) (fun v77 e77 => ?_)
              refine lv_iload hx hb (eX12_change (146, .iload 4, 2) (List.mem_of_getElem? (i := 85) rfl)) (lv_at hl64 4 rfl) ?_
              refine tz_iast hx hb hA0 hh74 r7 (show RTg[25]? = some (1, 0, 480, [(0, (-1439), 1439)]) from rfl) c7_74 y7 (by omega) (by omega) (tz_i (by omega) (by omega)) (eX12_change (148, .iastore, 1) (List.mem_of_getElem? (i := 86) rfl)) (fun H78 lo78 hh78 hc78 hk78 hq78 _ => ?_)
              have kp78 := kp74.trans (hk78.mono (fun x hx => by cases List.mem_singleton.mp hx; decide))
              have f5_78 := (hk78.1 a 11 5 11 0 fsX12 ha rfl (by decide) (by decide)).trans f5_74
              have c5_78 := (hq78 _ d57).trans c5_74
              have f6_78 := (hk78.1 a 11 6 11 0 fsX12 ha rfl (by decide) (by decide)).trans f6_74
              have c6_78 := (hq78 _ d67).trans hc74
              have f7_78 := (hk78.1 a 11 7 11 0 fsX12 ha rfl (by decide) (by decide)).trans f7_74
              refine lv_aload_n hx hb (eX12_change (149, .aload_n 0, 1) (List.mem_of_getElem? (i := 87) rfl)) rfl (lv_at hl64 1 rfl) ?_
              refine tz_get (r := 11) (k := 5) (t := (50, 0, 0)) hx hb hh78 ha rfl rfl (hcl 19 5 (50, 0, 0) (by decide) rfl).1 f5_78 (eX12_change (150, .getfield 19, 3) (List.mem_of_getElem? (i := 88) rfl)) ?_
              refine lv_iload_n hx hb (eX12_change (153, .iload_n 1, 1) (List.mem_of_getElem? (i := 89) rfl)) rfl (lv_at hl64 2 rfl) ?_
              refine lv_dup2_11 hx hb (eX12_change (154, .dup2, 1) (List.mem_of_getElem? (i := 90) rfl)) rfl rfl ?_
              refine tz_iald hx hb hA0 c5_78 (by omega) (by omega) (eX12_change (155, .iaload, 1) (List.mem_of_getElem? (i := 91) rfl)) ?_
              rw [hzn]
              refine ff_iconst hx hb (eX12_change (156, .iconst 1, 1) (List.mem_of_getElem? (i := 92) rfl)) (by decide) (by decide) (fun v79 e79 => ?_)
              refine ff_iadd hx hb (eX12_change (157, .iadd, 1) (List.mem_of_getElem? (i := 93) rfl)) (by omega) (by omega) (fun v80 e80 => ?_)
              refine tz_iast hx hb hA0 hh78 r5 (show RTg[23]? = some (1, 0, 8, [(0, 0, 60)]) from rfl) c5_78 y5 (by omega) (by omega) (tz_i (by omega) (by omega)) (eX12_change (158, .iastore, 1) (List.mem_of_getElem? (i := 94) rfl)) (fun H81 lo81 hh81 hc81 hk81 hq81 _ => ?_)
              have kp81 := kp78.trans (hk81.mono (fun x hx => by cases List.mem_singleton.mp hx; decide))
              have f5_81 := (hk81.1 a 11 5 11 0 fsX12 ha rfl (by decide) (by decide)).trans f5_78
              have f6_81 := (hk81.1 a 11 6 11 0 fsX12 ha rfl (by decide) (by decide)).trans f6_78
              have c6_81 := (hq81 _ d65).trans c6_78
              have f7_81 := (hk81.1 a 11 7 11 0 fsX12 ha rfl (by decide) (by decide)).trans f7_78
              have c7_81 := (hq81 _ d75).trans hc78
              have hzm : updV z5 zn.toNatClampNeg (.int v80) zn.toNatClampNeg = .int v80 := by simp [updV]
              refine lv_aload_n hx hb (eX12_change (159, .aload_n 0, 1) (List.mem_of_getElem? (i := 95) rfl)) rfl (lv_at hl64 1 rfl) ?_
              refine tz_get (r := 11) (k := 5) (t := (50, 0, 0)) hx hb hh81 ha rfl rfl (hcl 19 5 (50, 0, 0) (by decide) rfl).1 f5_81 (eX12_change (160, .getfield 19, 3) (List.mem_of_getElem? (i := 96) rfl)) ?_
              refine lv_iload_n hx hb (eX12_change (163, .iload_n 1, 1) (List.mem_of_getElem? (i := 97) rfl)) rfl (lv_at hl64 2 rfl) ?_
              refine tz_iald hx hb hA0 hc81 (by omega) (by omega) (eX12_change (164, .iaload, 1) (List.mem_of_getElem? (i := 98) rfl)) ?_
              rw [hzm]
              exact W.zret hx hb hr rfl (fun t ht hW => ⟨_, _, rfl, rfl, by rw [ht]; exact hh81.l0, by rw [ht]; exact kp81, _, List.mem_cons_self, tz_i (ro := ro) (zn_i32 _).1 (zn_i32 _).2, trivial, fun f hf => (by cases hf)⟩) hh81.2.2.1 (eX12_change (165, .ireturn, 1) (List.mem_of_getElem? (i := 99) rfl))
            · skip
              refine ff_iconst hx hb (eX12_change (97, .iconst 2, 1) (List.mem_of_getElem? (i := 54) rfl)) (by decide) (by decide) (fun v82 e82 => ?_)
              refine lv_goto hx hb (eX12_change (98, .goto 4, 3) (List.mem_of_getElem? (i := 55) rfl)) (tgt := 102) rfl ?_
              refine tz_put (r := 11) (k := 0) (t := (0, 0, 2)) hx hb hD hh26 ha rfl rfl ((hcl 85 0 (0, 0, 2) (by decide) rfl).2 List.mem_cons_self) (tz_i (by omega) (by omega)) (eX12_change (102, .putfield 85, 3) (List.mem_of_getElem? (i := 57) rfl)) (fun H83 lo83 hh83 hf83 hk83 _ hq83 => ?_)
              have kp83 := kp26.trans (hk83.mono (fun x hx => by cases List.mem_singleton.mp hx; decide))
              have f5_83 := (hk83.1 a 11 5 11 0 fsX12 ha rfl (by decide) (by decide)).trans f5_0
              have c5_83 := (hq83 _ d5a).trans c5_0
              have f6_83 := (hk83.1 a 11 6 11 0 fsX12 ha rfl (by decide) (by decide)).trans f6_0
              have c6_83 := (hq83 _ d6a).trans c6_0
              have f7_83 := (hk83.1 a 11 7 11 0 fsX12 ha rfl (by decide) (by decide)).trans f7_0
              have c7_83 := (hq83 _ d7a).trans c7_0
              refine lv_aload_n hx hb (eX12_change (105, .aload_n 0, 1) (List.mem_of_getElem? (i := 58) rfl)) rfl (lv_at hl64 1 rfl) ?_
              refine tz_get (r := 11) (k := 0) (t := (0, 0, 2)) hx hb hh83 ha rfl rfl (hcl 85 0 (0, 0, 2) (by decide) rfl).1 hf83 (eX12_change (106, .getfield 85, 3) (List.mem_of_getElem? (i := 59) rfl)) ?_
              refine ff_if_le hx hb (eX12_change (109, .ifCond .le 5, 3) (List.mem_of_getElem? (i := 60) rfl)) (tgt := 114) rfl (fun c84 => (by exfalso; omega)) (fun c84 => ?_)
              refine ff_iconst hx hb (eX12_change (112, .iconst 0, 1) (List.mem_of_getElem? (i := 61) rfl)) (by decide) (by decide) (fun v85 e85 => ?_)
              exact W.zret hx hb hr rfl (fun t ht hW => ⟨_, _, rfl, rfl, by rw [ht]; exact hh83.l0, by rw [ht]; exact kp83, _, List.mem_cons_self, tz_i (ro := ro) (zn_i32 _).1 (zn_i32 _).2, trivial, fun f hf => (by cases hf)⟩) hh83.2.2.1 (eX12_change (113, .ireturn, 1) (List.mem_of_getElem? (i := 62) rfl))
          · skip
            refine ff_iconst hx hb (eX12_change (69, .iconst 1, 1) (List.mem_of_getElem? (i := 39) rfl)) (by decide) (by decide) (fun v86 e86 => ?_)
            refine lv_goto hx hb (eX12_change (70, .goto 4, 3) (List.mem_of_getElem? (i := 40) rfl)) (tgt := 74) rfl ?_
            refine lv_istore hx hb (eX12_change (74, .istore 5, 2) (List.mem_of_getElem? (i := 42) rfl)) hl29 (by decide) rfl (fun ls87 hl87 => ?_)
            refine lv_aload_n hx hb (eX12_change (76, .aload_n 0, 1) (List.mem_of_getElem? (i := 43) rfl)) rfl (lv_at hl87 1 rfl) ?_
            refine lv_iload hx hb (eX12_change (77, .iload 5, 2) (List.mem_of_getElem? (i := 44) rfl)) (lv_at hl87 0 rfl) ?_
            refine ff_if_eq hx hb (eX12_change (79, .ifCond .eq 7, 3) (List.mem_of_getElem? (i := 45) rfl)) (tgt := 86) rfl (fun c88 => (by exfalso; omega)) (fun c88 => ?_)
            refine ff_iconst hx hb (eX12_change (82, .iconst 1, 1) (List.mem_of_getElem? (i := 46) rfl)) (by decide) (by decide) (fun v89 e89 => ?_)
            refine lv_goto hx hb (eX12_change (83, .goto 19, 3) (List.mem_of_getElem? (i := 47) rfl)) (tgt := 102) rfl ?_
            refine tz_put (r := 11) (k := 0) (t := (0, 0, 2)) hx hb hD hh26 ha rfl rfl ((hcl 85 0 (0, 0, 2) (by decide) rfl).2 List.mem_cons_self) (tz_i (by omega) (by omega)) (eX12_change (102, .putfield 85, 3) (List.mem_of_getElem? (i := 57) rfl)) (fun H90 lo90 hh90 hf90 hk90 _ hq90 => ?_)
            have kp90 := kp26.trans (hk90.mono (fun x hx => by cases List.mem_singleton.mp hx; decide))
            have f5_90 := (hk90.1 a 11 5 11 0 fsX12 ha rfl (by decide) (by decide)).trans f5_0
            have c5_90 := (hq90 _ d5a).trans c5_0
            have f6_90 := (hk90.1 a 11 6 11 0 fsX12 ha rfl (by decide) (by decide)).trans f6_0
            have c6_90 := (hq90 _ d6a).trans c6_0
            have f7_90 := (hk90.1 a 11 7 11 0 fsX12 ha rfl (by decide) (by decide)).trans f7_0
            have c7_90 := (hq90 _ d7a).trans c7_0
            refine lv_aload_n hx hb (eX12_change (105, .aload_n 0, 1) (List.mem_of_getElem? (i := 58) rfl)) rfl (lv_at hl87 1 rfl) ?_
            refine tz_get (r := 11) (k := 0) (t := (0, 0, 2)) hx hb hh90 ha rfl rfl (hcl 85 0 (0, 0, 2) (by decide) rfl).1 hf90 (eX12_change (106, .getfield 85, 3) (List.mem_of_getElem? (i := 59) rfl)) ?_
            refine ff_if_le hx hb (eX12_change (109, .ifCond .le 5, 3) (List.mem_of_getElem? (i := 60) rfl)) (tgt := 114) rfl (fun c91 => (by exfalso; omega)) (fun c91 => ?_)
            refine ff_iconst hx hb (eX12_change (112, .iconst 0, 1) (List.mem_of_getElem? (i := 61) rfl)) (by decide) (by decide) (fun v92 e92 => ?_)
            exact W.zret hx hb hr rfl (fun t ht hW => ⟨_, _, rfl, rfl, by rw [ht]; exact hh90.l0, by rw [ht]; exact kp90, _, List.mem_cons_self, tz_i (ro := ro) (zn_i32 _).1 (zn_i32 _).2, trivial, fun f hf => (by cases hf)⟩) hh90.2.2.1 (eX12_change (113, .ireturn, 1) (List.mem_of_getElem? (i := 62) rfl))
      · skip
        refine ff_iconst hx hb (eX12_change (25, .iconst 1, 1) (List.mem_of_getElem? (i := 12) rfl)) (by decide) (by decide) (fun v93 e93 => ?_)
        refine lv_goto hx hb (eX12_change (26, .goto 4, 3) (List.mem_of_getElem? (i := 13) rfl)) (tgt := 30) rfl ?_
        refine lv_istore hx hb (eX12_change (30, .istore 5, 2) (List.mem_of_getElem? (i := 15) rfl)) hl (by decide) rfl (fun ls94 hl94 => ?_)
        refine lv_iload hx hb (eX12_change (32, .iload 5, 2) (List.mem_of_getElem? (i := 16) rfl)) (lv_at hl94 0 rfl) ?_
        refine ff_if_ne hx hb (eX12_change (34, .ifCond .ne 35, 3) (List.mem_of_getElem? (i := 17) rfl)) (tgt := 69) rfl (fun c95 => ?_) (fun c95 => (by exfalso; omega))
        refine ff_iconst hx hb (eX12_change (69, .iconst 1, 1) (List.mem_of_getElem? (i := 39) rfl)) (by decide) (by decide) (fun v96 e96 => ?_)
        refine lv_goto hx hb (eX12_change (70, .goto 4, 3) (List.mem_of_getElem? (i := 40) rfl)) (tgt := 74) rfl ?_
        refine lv_istore hx hb (eX12_change (74, .istore 5, 2) (List.mem_of_getElem? (i := 42) rfl)) hl94 (by decide) rfl (fun ls97 hl97 => ?_)
        refine lv_aload_n hx hb (eX12_change (76, .aload_n 0, 1) (List.mem_of_getElem? (i := 43) rfl)) rfl (lv_at hl97 1 rfl) ?_
        refine lv_iload hx hb (eX12_change (77, .iload 5, 2) (List.mem_of_getElem? (i := 44) rfl)) (lv_at hl97 0 rfl) ?_
        refine ff_if_eq hx hb (eX12_change (79, .ifCond .eq 7, 3) (List.mem_of_getElem? (i := 45) rfl)) (tgt := 86) rfl (fun c98 => (by exfalso; omega)) (fun c98 => ?_)
        refine ff_iconst hx hb (eX12_change (82, .iconst 1, 1) (List.mem_of_getElem? (i := 46) rfl)) (by decide) (by decide) (fun v99 e99 => ?_)
        refine lv_goto hx hb (eX12_change (83, .goto 19, 3) (List.mem_of_getElem? (i := 47) rfl)) (tgt := 102) rfl ?_
        refine tz_put (r := 11) (k := 0) (t := (0, 0, 2)) hx hb hD hh26 ha rfl rfl ((hcl 85 0 (0, 0, 2) (by decide) rfl).2 List.mem_cons_self) (tz_i (by omega) (by omega)) (eX12_change (102, .putfield 85, 3) (List.mem_of_getElem? (i := 57) rfl)) (fun H100 lo100 hh100 hf100 hk100 _ hq100 => ?_)
        have kp100 := kp26.trans (hk100.mono (fun x hx => by cases List.mem_singleton.mp hx; decide))
        refine lv_aload_n hx hb (eX12_change (105, .aload_n 0, 1) (List.mem_of_getElem? (i := 58) rfl)) rfl (lv_at hl97 1 rfl) ?_
        refine tz_get (r := 11) (k := 0) (t := (0, 0, 2)) hx hb hh100 ha rfl rfl (hcl 85 0 (0, 0, 2) (by decide) rfl).1 hf100 (eX12_change (106, .getfield 85, 3) (List.mem_of_getElem? (i := 59) rfl)) ?_
        refine ff_if_le hx hb (eX12_change (109, .ifCond .le 5, 3) (List.mem_of_getElem? (i := 60) rfl)) (tgt := 114) rfl (fun c101 => (by exfalso; omega)) (fun c101 => ?_)
        refine ff_iconst hx hb (eX12_change (112, .iconst 0, 1) (List.mem_of_getElem? (i := 61) rfl)) (by decide) (by decide) (fun v102 e102 => ?_)
        exact W.zret hx hb hr rfl (fun t ht hW => ⟨_, _, rfl, rfl, by rw [ht]; exact hh100.l0, by rw [ht]; exact kp100, _, List.mem_cons_self, tz_i (ro := ro) (zn_i32 _).1 (zn_i32 _).2, trivial, fun f hf => (by cases hf)⟩) hh100.2.2.1 (eX12_change (113, .ireturn, 1) (List.mem_of_getElem? (i := 62) rfl))
