section FFI
variable {p : Program} {l : Launch} {e : Env} {R : Room} {s : State} {m : MethodId} {args : Array Value} {below : List Frame} {meth : Method} {c : Code} {H : Heap} {locs : List Loc} {cells slots : Nat} {Q : State → Prop} {cc : ByteArray} {pc : Nat} {ls : Array Slot} {rest : List Value}
theorem ff_iinc {i nL k : Nat} {n : Int} {x : Int32} {lv : List (Nat × Value)} (hx : p.tables.exec = Jvm.exec) (hb : c.code = cc) (hd : decode cc pc = .ok (.iinc i n, 3)) (h : lv_has ls nL lv) (hk : lv[k]? = some (i, .int x)) (hi : i < nL) (b1 : -128 ≤ n) (b2 : n ≤ 127) (h1 : -2147483648 ≤ x.toInt + n) (h2 : x.toInt + n ≤ 2147483647) (kk : ∀ z : Int32, z.toInt = x.toInt + n → ∀ ls' : Array Slot, lv_has ls' nL ((i, Value.int z) :: lv.filter (fun q => !(q.1 == i) && !(q.1 + 1 == i && q.2.category == 2))) → W p l e R s m args below meth c H locs cells slots Q (F0 m (pc + 3) ls' rest)) : W p l e R s m args below meth c H locs cells slots Q (F0 m pc ls rest) := by
  have e1 : (Int32.ofInt n).toInt = n := zn_ib b1 b2
  refine lv_iinc hx hb hd h hk rfl hi rfl (fun ls' hl' => kk _ ?_ ls' hl')
  rw [zn_add (by omega) (by omega), e1]
end FFI
theorem isY_in {n y : Int} (h : isY n y) (h1 : -365961662 ≤ n) (h2 : n ≤ 364522971) : -999999 ≤ y ∧ y ≤ 999999 := by
  have e1 : ysI (-999999) = -365961662 := by decide
  have e2 : ysI 1000000 = 364522972 := by decide
  obtain ⟨g1, g2⟩ := h
  constructor
  · rcases Int.lt_or_le y (-999999) with g | g
    · have := ys_mono (y := y + 1) (y' := -999999) (by omega)
      omega
    · exact g
  · rcases Int.lt_or_le 999999 y with g | g
    · have := ys_mono (y := 1000000) (y' := y) (by omega)
      omega
    · exact g
theorem mo_at {n y : Int} {M : Int} (h1 : 1 ≤ M) (h2 : M ≤ 12) (hy : isY n y) (hlo : M = 1 ∨ nuI y M 1 ≤ n) (hhi : M = 12 ∨ n < nuI y (M + 1) 1) : nuI y M 1 ≤ n ∧ n < nuI y M 1 + mlI y M := by
  have n1 := nu_cu y M 1
  obtain ⟨g1, g2⟩ := hy
  have e1 : cuI y 1 = 0 := by simp [cuI, bm]
  constructor
  · rcases hlo with q | q
    · subst q; omega
    · exact q
  · rcases hhi with q | q
    · subst q
      have e12 : cuI y 12 = 334 + lpI y := by simp [cuI, bm]
      have l12 : mlI y 12 = 31 := by simp [mlI, bm]
      rw [ys_succ] at g2
      omega
    · rcases Int.lt_or_le M 12 with q2 | q2
      · have n2 := nu_cu y (M + 1) 1
        have := cu_succ (y := y) h1 (show M ≤ 11 by omega)
        omega
      · have q3 : M = 12 := by omega
        subst q3
        have e12 : cuI y 12 = 334 + lpI y := by simp [cuI, bm]
        have l12 : mlI y 12 = 31 := by simp [mlI, bm]
        rw [ys_succ] at g2
        omega
set_option maxRecDepth 100000 in
set_option maxHeartbeats 4000000 in
theorem hX2_monthOf (l : Launch) (cA : Nat → ClassId) (n : Int64) (hn1 : -365961662 ≤ n.toInt) (hn2 : n.toInt ≤ 364522971) : zu_M l yX2_monthOf (gW yX2_monthOf cX2_monthOf 4 (some .int)) { frames := 2, cells := 0, slots := 0, locals := 46 } (fun vs => vs = [.long n]) (zBM cA) (fun _ w => ∃ r : Int32, w = .int r ∧ 1 ≤ r.toInt ∧ r.toInt ≤ 12 ∧ ∃ y : Int, isY n.toInt y ∧ nuI y r.toInt 1 ≤ n.toInt ∧ n.toInt < nuI y r.toInt 1 + mlI y r.toInt) := by
  refine zy_ofW (cc := cX2_monthOf) (maxL := 4) (ret := (some .int)) (by decide +kernel) rfl ?_
  intro p e s m args below meth c s1 B hml hv
  obtain ⟨vs, rfl, rfl, hKp⟩ := hv
  have hx := B.exec
  have hb := B.bytes
  have hr := B.returns
  have hlk := B.notSynchronized
  have hts0 := atoms_spec (ws := gW yX2_monthOf cX2_monthOf 4 (some .int)) B.pre
  have h2 : ∀ w ∈ gT, w.before ([.long n] : List Value).toArray s = true := fun w hw => hts0 w (List.mem_cons_of_mem _ hw)
  have hown : s.vm.findClass RX2 = some m.cls := findClass_of_methodNamed B.named
  have hl := lv_entry [.long n] (n := 4) (Nat.le_of_ble_eq_true rfl)
  rw [lg_entry_eq]
  generalize (lg_sl [.long n] ++ List.replicate (4 - (lg_sl [.long n]).length) Slot.unset).toArray = ls at hl ⊢
  have hBM : ∀ U : State, U.heap = s.heap → s.WarmedH U.vm → zBM cA U := fun U hU hW => zBM_B.2 s U hW hU hKp
  obtain ⟨ab, zb, hz1, hz2, hz3, hz4⟩ := id hKp
  have b_n := zn_i64 n
  refine lv_lload_n hx hb (eX2_monthOf (0, .lload_n 0, 1) (List.mem_of_getElem? (i := 0) rfl)) rfl (lv_at hl 0 rfl) ?_
  refine zu_S (vs := [.long n]) (rest := []) hx hb hml hown hts0 zu_BT (hX2_yearOf l n (by omega) (by omega)) ⟨rfl, rfl⟩ ⟨by decide, by decide⟩ ⟨by decide, by decide⟩ (tb_2 218 rfl rfl) (tb_1 13 rfl rfl) (tb_2 223 rfl rfl) (tb_2 217 rfl rfl) (show yX2_yearOf.cls ≠ "java/lang/invoke/MethodHandle" ∧ yX2_yearOf.cls ≠ "java/lang/invoke/VarHandle" ∧ (parseMethodDescriptor yX2_yearOf.desc).map (fun d => d.parameters.length) = some 1 by decide +kernel) rfl (fun _ _ _ => trivial) hl.1 (Nat.le_of_ble_eq_true rfl) (eX2_monthOf (1, .invokestatic 53, 3) (List.mem_of_getElem? (i := 1) rfl)) (fun w1 f1 => ?_)
  obtain ⟨v1, rfl, hY⟩ := f1
  have hY1 := (isY_in hY.1 hn1 hn2).1
  have hY2 := (isY_in hY.1 hn1 hn2).2
  refine lv_istore_n hx hb (eX2_monthOf (4, .istore_n 2, 1) (List.mem_of_getElem? (i := 2) rfl)) rfl hl (by decide) rfl (fun ls2 hl2 => ?_)
  refine ff_bipush hx hb (eX2_monthOf (5, .bipush 12, 2) (List.mem_of_getElem? (i := 3) rfl)) (by decide) (by decide) (fun v3 e3 => ?_)
  refine lv_istore_n hx hb (eX2_monthOf (7, .istore_n 3, 1) (List.mem_of_getElem? (i := 4) rfl)) rfl hl2 (by decide) rfl (fun ls4 hl4 => ?_)
  refine lv_iload_n hx hb (eX2_monthOf (8, .iload_n 3, 1) (List.mem_of_getElem? (i := 5) rfl)) rfl (lv_at hl4 0 rfl) ?_
  refine ff_iconst hx hb (eX2_monthOf (9, .iconst 1, 1) (List.mem_of_getElem? (i := 6) rfl)) (by decide) (by decide) (fun v5 e5 => ?_)
  refine ff_icmp_le hx hb (eX2_monthOf (10, .if_icmp .le 22, 3) (List.mem_of_getElem? (i := 7) rfl)) (tgt := 32) rfl (fun c6 => (by exfalso; omega)) (fun c6 => ?_)
  refine lv_lload_n hx hb (eX2_monthOf (13, .lload_n 0, 1) (List.mem_of_getElem? (i := 8) rfl)) rfl (lv_at hl4 2 rfl) ?_
  refine lv_iload_n hx hb (eX2_monthOf (14, .iload_n 2, 1) (List.mem_of_getElem? (i := 9) rfl)) rfl (lv_at hl4 1 rfl) ?_
  refine lv_iload_n hx hb (eX2_monthOf (15, .iload_n 3, 1) (List.mem_of_getElem? (i := 10) rfl)) rfl (lv_at hl4 0 rfl) ?_
  refine ff_iconst hx hb (eX2_monthOf (16, .iconst 1, 1) (List.mem_of_getElem? (i := 11) rfl)) (by decide) (by decide) (fun v7 e7 => ?_)
  refine zu_S (vs := [.int v1, .int v3, .int v7]) (rest := [.long n]) hx hb hml hown hts0 zBM_B (hX2_numberOf l cA v1 v3 v7 (by omega) (by omega) (by omega) (by omega) (by omega) (by omega)) ⟨rfl, rfl⟩ ⟨by decide, by decide⟩ ⟨by decide, by decide⟩ (tb_2 190 rfl rfl) (tb_1 13 rfl rfl) (tb_2 224 rfl rfl) (tb_2 189 rfl rfl) (show yX2_numberOf.cls ≠ "java/lang/invoke/MethodHandle" ∧ yX2_numberOf.cls ≠ "java/lang/invoke/VarHandle" ∧ (parseMethodDescriptor yX2_numberOf.desc).map (fun d => d.parameters.length) = some 3 by decide +kernel) rfl hBM hl4.1 (Nat.le_of_ble_eq_true rfl) (eX2_monthOf (17, .invokestatic 57, 3) (List.mem_of_getElem? (i := 12) rfl)) (fun w8 f8 => ?_)
  obtain ⟨v8, rfl, e8⟩ := f8
  have g8 := (show v8.toInt = nuI v1.toInt 12 1 by rw [e8, show v3.toInt = 12 by omega, show v7.toInt = 1 by omega])
  refine ff_lcmp hx hb (eX2_monthOf (20, .lcmp, 1) (List.mem_of_getElem? (i := 13) rfl)) (fun v9 e9 => ?_)
  refine ff_if_lt hx hb (eX2_monthOf (21, .ifCond .lt 5, 3) (List.mem_of_getElem? (i := 14) rfl)) (tgt := 26) rfl (fun c10 => ?_) (fun c10 => ?_)
  · skip
    refine ff_iinc (k := 0) hx hb (eX2_monthOf (26, .iinc 3 (-1), 3) (List.mem_of_getElem? (i := 17) rfl)) hl4 rfl (by decide) (by decide) (by decide) (by omega) (by omega) (fun v11 e11 ls11 hl11 => ?_)
    refine lv_goto hx hb (eX2_monthOf (29, .goto (-21), 3) (List.mem_of_getElem? (i := 18) rfl)) (tgt := 8) rfl ?_
    refine lv_iload_n hx hb (eX2_monthOf (8, .iload_n 3, 1) (List.mem_of_getElem? (i := 5) rfl)) rfl (lv_at hl11 0 rfl) ?_
    refine ff_iconst hx hb (eX2_monthOf (9, .iconst 1, 1) (List.mem_of_getElem? (i := 6) rfl)) (by decide) (by decide) (fun v12 e12 => ?_)
    refine ff_icmp_le hx hb (eX2_monthOf (10, .if_icmp .le 22, 3) (List.mem_of_getElem? (i := 7) rfl)) (tgt := 32) rfl (fun c13 => (by exfalso; omega)) (fun c13 => ?_)
    refine lv_lload_n hx hb (eX2_monthOf (13, .lload_n 0, 1) (List.mem_of_getElem? (i := 8) rfl)) rfl (lv_at hl11 2 rfl) ?_
    refine lv_iload_n hx hb (eX2_monthOf (14, .iload_n 2, 1) (List.mem_of_getElem? (i := 9) rfl)) rfl (lv_at hl11 1 rfl) ?_
    refine lv_iload_n hx hb (eX2_monthOf (15, .iload_n 3, 1) (List.mem_of_getElem? (i := 10) rfl)) rfl (lv_at hl11 0 rfl) ?_
    refine ff_iconst hx hb (eX2_monthOf (16, .iconst 1, 1) (List.mem_of_getElem? (i := 11) rfl)) (by decide) (by decide) (fun v14 e14 => ?_)
    refine zu_S (vs := [.int v1, .int v11, .int v14]) (rest := [.long n]) hx hb hml hown hts0 zBM_B (hX2_numberOf l cA v1 v11 v14 (by omega) (by omega) (by omega) (by omega) (by omega) (by omega)) ⟨rfl, rfl⟩ ⟨by decide, by decide⟩ ⟨by decide, by decide⟩ (tb_2 190 rfl rfl) (tb_1 13 rfl rfl) (tb_2 224 rfl rfl) (tb_2 189 rfl rfl) (show yX2_numberOf.cls ≠ "java/lang/invoke/MethodHandle" ∧ yX2_numberOf.cls ≠ "java/lang/invoke/VarHandle" ∧ (parseMethodDescriptor yX2_numberOf.desc).map (fun d => d.parameters.length) = some 3 by decide +kernel) rfl hBM hl11.1 (Nat.le_of_ble_eq_true rfl) (eX2_monthOf (17, .invokestatic 57, 3) (List.mem_of_getElem? (i := 12) rfl)) (fun w15 f15 => ?_)
    obtain ⟨v15, rfl, e15⟩ := f15
    have g15 := (show v15.toInt = nuI v1.toInt 11 1 by rw [e15, show v11.toInt = 11 by omega, show v14.toInt = 1 by omega])
    refine ff_lcmp hx hb (eX2_monthOf (20, .lcmp, 1) (List.mem_of_getElem? (i := 13) rfl)) (fun v16 e16 => ?_)
    refine ff_if_lt hx hb (eX2_monthOf (21, .ifCond .lt 5, 3) (List.mem_of_getElem? (i := 14) rfl)) (tgt := 26) rfl (fun c17 => ?_) (fun c17 => ?_)
    · skip
      refine ff_iinc (k := 0) hx hb (eX2_monthOf (26, .iinc 3 (-1), 3) (List.mem_of_getElem? (i := 17) rfl)) hl11 rfl (by decide) (by decide) (by decide) (by omega) (by omega) (fun v18 e18 ls18 hl18 => ?_)
      refine lv_goto hx hb (eX2_monthOf (29, .goto (-21), 3) (List.mem_of_getElem? (i := 18) rfl)) (tgt := 8) rfl ?_
      refine lv_iload_n hx hb (eX2_monthOf (8, .iload_n 3, 1) (List.mem_of_getElem? (i := 5) rfl)) rfl (lv_at hl18 0 rfl) ?_
      refine ff_iconst hx hb (eX2_monthOf (9, .iconst 1, 1) (List.mem_of_getElem? (i := 6) rfl)) (by decide) (by decide) (fun v19 e19 => ?_)
      refine ff_icmp_le hx hb (eX2_monthOf (10, .if_icmp .le 22, 3) (List.mem_of_getElem? (i := 7) rfl)) (tgt := 32) rfl (fun c20 => (by exfalso; omega)) (fun c20 => ?_)
      refine lv_lload_n hx hb (eX2_monthOf (13, .lload_n 0, 1) (List.mem_of_getElem? (i := 8) rfl)) rfl (lv_at hl18 2 rfl) ?_
      refine lv_iload_n hx hb (eX2_monthOf (14, .iload_n 2, 1) (List.mem_of_getElem? (i := 9) rfl)) rfl (lv_at hl18 1 rfl) ?_
      refine lv_iload_n hx hb (eX2_monthOf (15, .iload_n 3, 1) (List.mem_of_getElem? (i := 10) rfl)) rfl (lv_at hl18 0 rfl) ?_
      refine ff_iconst hx hb (eX2_monthOf (16, .iconst 1, 1) (List.mem_of_getElem? (i := 11) rfl)) (by decide) (by decide) (fun v21 e21 => ?_)
      refine zu_S (vs := [.int v1, .int v18, .int v21]) (rest := [.long n]) hx hb hml hown hts0 zBM_B (hX2_numberOf l cA v1 v18 v21 (by omega) (by omega) (by omega) (by omega) (by omega) (by omega)) ⟨rfl, rfl⟩ ⟨by decide, by decide⟩ ⟨by decide, by decide⟩ (tb_2 190 rfl rfl) (tb_1 13 rfl rfl) (tb_2 224 rfl rfl) (tb_2 189 rfl rfl) (show yX2_numberOf.cls ≠ "java/lang/invoke/MethodHandle" ∧ yX2_numberOf.cls ≠ "java/lang/invoke/VarHandle" ∧ (parseMethodDescriptor yX2_numberOf.desc).map (fun d => d.parameters.length) = some 3 by decide +kernel) rfl hBM hl18.1 (Nat.le_of_ble_eq_true rfl) (eX2_monthOf (17, .invokestatic 57, 3) (List.mem_of_getElem? (i := 12) rfl)) (fun w22 f22 => ?_)
      obtain ⟨v22, rfl, e22⟩ := f22
      have g22 := (show v22.toInt = nuI v1.toInt 10 1 by rw [e22, show v18.toInt = 10 by omega, show v21.toInt = 1 by omega])
      refine ff_lcmp hx hb (eX2_monthOf (20, .lcmp, 1) (List.mem_of_getElem? (i := 13) rfl)) (fun v23 e23 => ?_)
      refine ff_if_lt hx hb (eX2_monthOf (21, .ifCond .lt 5, 3) (List.mem_of_getElem? (i := 14) rfl)) (tgt := 26) rfl (fun c24 => ?_) (fun c24 => ?_)
      · skip
        refine ff_iinc (k := 0) hx hb (eX2_monthOf (26, .iinc 3 (-1), 3) (List.mem_of_getElem? (i := 17) rfl)) hl18 rfl (by decide) (by decide) (by decide) (by omega) (by omega) (fun v25 e25 ls25 hl25 => ?_)
        refine lv_goto hx hb (eX2_monthOf (29, .goto (-21), 3) (List.mem_of_getElem? (i := 18) rfl)) (tgt := 8) rfl ?_
        refine lv_iload_n hx hb (eX2_monthOf (8, .iload_n 3, 1) (List.mem_of_getElem? (i := 5) rfl)) rfl (lv_at hl25 0 rfl) ?_
        refine ff_iconst hx hb (eX2_monthOf (9, .iconst 1, 1) (List.mem_of_getElem? (i := 6) rfl)) (by decide) (by decide) (fun v26 e26 => ?_)
        refine ff_icmp_le hx hb (eX2_monthOf (10, .if_icmp .le 22, 3) (List.mem_of_getElem? (i := 7) rfl)) (tgt := 32) rfl (fun c27 => (by exfalso; omega)) (fun c27 => ?_)
        refine lv_lload_n hx hb (eX2_monthOf (13, .lload_n 0, 1) (List.mem_of_getElem? (i := 8) rfl)) rfl (lv_at hl25 2 rfl) ?_
        refine lv_iload_n hx hb (eX2_monthOf (14, .iload_n 2, 1) (List.mem_of_getElem? (i := 9) rfl)) rfl (lv_at hl25 1 rfl) ?_
        refine lv_iload_n hx hb (eX2_monthOf (15, .iload_n 3, 1) (List.mem_of_getElem? (i := 10) rfl)) rfl (lv_at hl25 0 rfl) ?_
        refine ff_iconst hx hb (eX2_monthOf (16, .iconst 1, 1) (List.mem_of_getElem? (i := 11) rfl)) (by decide) (by decide) (fun v28 e28 => ?_)
        refine zu_S (vs := [.int v1, .int v25, .int v28]) (rest := [.long n]) hx hb hml hown hts0 zBM_B (hX2_numberOf l cA v1 v25 v28 (by omega) (by omega) (by omega) (by omega) (by omega) (by omega)) ⟨rfl, rfl⟩ ⟨by decide, by decide⟩ ⟨by decide, by decide⟩ (tb_2 190 rfl rfl) (tb_1 13 rfl rfl) (tb_2 224 rfl rfl) (tb_2 189 rfl rfl) (show yX2_numberOf.cls ≠ "java/lang/invoke/MethodHandle" ∧ yX2_numberOf.cls ≠ "java/lang/invoke/VarHandle" ∧ (parseMethodDescriptor yX2_numberOf.desc).map (fun d => d.parameters.length) = some 3 by decide +kernel) rfl hBM hl25.1 (Nat.le_of_ble_eq_true rfl) (eX2_monthOf (17, .invokestatic 57, 3) (List.mem_of_getElem? (i := 12) rfl)) (fun w29 f29 => ?_)
        obtain ⟨v29, rfl, e29⟩ := f29
        have g29 := (show v29.toInt = nuI v1.toInt 9 1 by rw [e29, show v25.toInt = 9 by omega, show v28.toInt = 1 by omega])
        refine ff_lcmp hx hb (eX2_monthOf (20, .lcmp, 1) (List.mem_of_getElem? (i := 13) rfl)) (fun v30 e30 => ?_)
        refine ff_if_lt hx hb (eX2_monthOf (21, .ifCond .lt 5, 3) (List.mem_of_getElem? (i := 14) rfl)) (tgt := 26) rfl (fun c31 => ?_) (fun c31 => ?_)
        · skip
          refine ff_iinc (k := 0) hx hb (eX2_monthOf (26, .iinc 3 (-1), 3) (List.mem_of_getElem? (i := 17) rfl)) hl25 rfl (by decide) (by decide) (by decide) (by omega) (by omega) (fun v32 e32 ls32 hl32 => ?_)
          refine lv_goto hx hb (eX2_monthOf (29, .goto (-21), 3) (List.mem_of_getElem? (i := 18) rfl)) (tgt := 8) rfl ?_
          refine lv_iload_n hx hb (eX2_monthOf (8, .iload_n 3, 1) (List.mem_of_getElem? (i := 5) rfl)) rfl (lv_at hl32 0 rfl) ?_
          refine ff_iconst hx hb (eX2_monthOf (9, .iconst 1, 1) (List.mem_of_getElem? (i := 6) rfl)) (by decide) (by decide) (fun v33 e33 => ?_)
          refine ff_icmp_le hx hb (eX2_monthOf (10, .if_icmp .le 22, 3) (List.mem_of_getElem? (i := 7) rfl)) (tgt := 32) rfl (fun c34 => (by exfalso; omega)) (fun c34 => ?_)
          refine lv_lload_n hx hb (eX2_monthOf (13, .lload_n 0, 1) (List.mem_of_getElem? (i := 8) rfl)) rfl (lv_at hl32 2 rfl) ?_
          refine lv_iload_n hx hb (eX2_monthOf (14, .iload_n 2, 1) (List.mem_of_getElem? (i := 9) rfl)) rfl (lv_at hl32 1 rfl) ?_
          refine lv_iload_n hx hb (eX2_monthOf (15, .iload_n 3, 1) (List.mem_of_getElem? (i := 10) rfl)) rfl (lv_at hl32 0 rfl) ?_
          refine ff_iconst hx hb (eX2_monthOf (16, .iconst 1, 1) (List.mem_of_getElem? (i := 11) rfl)) (by decide) (by decide) (fun v35 e35 => ?_)
          refine zu_S (vs := [.int v1, .int v32, .int v35]) (rest := [.long n]) hx hb hml hown hts0 zBM_B (hX2_numberOf l cA v1 v32 v35 (by omega) (by omega) (by omega) (by omega) (by omega) (by omega)) ⟨rfl, rfl⟩ ⟨by decide, by decide⟩ ⟨by decide, by decide⟩ (tb_2 190 rfl rfl) (tb_1 13 rfl rfl) (tb_2 224 rfl rfl) (tb_2 189 rfl rfl) (show yX2_numberOf.cls ≠ "java/lang/invoke/MethodHandle" ∧ yX2_numberOf.cls ≠ "java/lang/invoke/VarHandle" ∧ (parseMethodDescriptor yX2_numberOf.desc).map (fun d => d.parameters.length) = some 3 by decide +kernel) rfl hBM hl32.1 (Nat.le_of_ble_eq_true rfl) (eX2_monthOf (17, .invokestatic 57, 3) (List.mem_of_getElem? (i := 12) rfl)) (fun w36 f36 => ?_)
          obtain ⟨v36, rfl, e36⟩ := f36
          have g36 := (show v36.toInt = nuI v1.toInt 8 1 by rw [e36, show v32.toInt = 8 by omega, show v35.toInt = 1 by omega])
          refine ff_lcmp hx hb (eX2_monthOf (20, .lcmp, 1) (List.mem_of_getElem? (i := 13) rfl)) (fun v37 e37 => ?_)
          refine ff_if_lt hx hb (eX2_monthOf (21, .ifCond .lt 5, 3) (List.mem_of_getElem? (i := 14) rfl)) (tgt := 26) rfl (fun c38 => ?_) (fun c38 => ?_)
          · skip
            refine ff_iinc (k := 0) hx hb (eX2_monthOf (26, .iinc 3 (-1), 3) (List.mem_of_getElem? (i := 17) rfl)) hl32 rfl (by decide) (by decide) (by decide) (by omega) (by omega) (fun v39 e39 ls39 hl39 => ?_)
            refine lv_goto hx hb (eX2_monthOf (29, .goto (-21), 3) (List.mem_of_getElem? (i := 18) rfl)) (tgt := 8) rfl ?_
            refine lv_iload_n hx hb (eX2_monthOf (8, .iload_n 3, 1) (List.mem_of_getElem? (i := 5) rfl)) rfl (lv_at hl39 0 rfl) ?_
            refine ff_iconst hx hb (eX2_monthOf (9, .iconst 1, 1) (List.mem_of_getElem? (i := 6) rfl)) (by decide) (by decide) (fun v40 e40 => ?_)
            refine ff_icmp_le hx hb (eX2_monthOf (10, .if_icmp .le 22, 3) (List.mem_of_getElem? (i := 7) rfl)) (tgt := 32) rfl (fun c41 => (by exfalso; omega)) (fun c41 => ?_)
            refine lv_lload_n hx hb (eX2_monthOf (13, .lload_n 0, 1) (List.mem_of_getElem? (i := 8) rfl)) rfl (lv_at hl39 2 rfl) ?_
            refine lv_iload_n hx hb (eX2_monthOf (14, .iload_n 2, 1) (List.mem_of_getElem? (i := 9) rfl)) rfl (lv_at hl39 1 rfl) ?_
            refine lv_iload_n hx hb (eX2_monthOf (15, .iload_n 3, 1) (List.mem_of_getElem? (i := 10) rfl)) rfl (lv_at hl39 0 rfl) ?_
            refine ff_iconst hx hb (eX2_monthOf (16, .iconst 1, 1) (List.mem_of_getElem? (i := 11) rfl)) (by decide) (by decide) (fun v42 e42 => ?_)
            refine zu_S (vs := [.int v1, .int v39, .int v42]) (rest := [.long n]) hx hb hml hown hts0 zBM_B (hX2_numberOf l cA v1 v39 v42 (by omega) (by omega) (by omega) (by omega) (by omega) (by omega)) ⟨rfl, rfl⟩ ⟨by decide, by decide⟩ ⟨by decide, by decide⟩ (tb_2 190 rfl rfl) (tb_1 13 rfl rfl) (tb_2 224 rfl rfl) (tb_2 189 rfl rfl) (show yX2_numberOf.cls ≠ "java/lang/invoke/MethodHandle" ∧ yX2_numberOf.cls ≠ "java/lang/invoke/VarHandle" ∧ (parseMethodDescriptor yX2_numberOf.desc).map (fun d => d.parameters.length) = some 3 by decide +kernel) rfl hBM hl39.1 (Nat.le_of_ble_eq_true rfl) (eX2_monthOf (17, .invokestatic 57, 3) (List.mem_of_getElem? (i := 12) rfl)) (fun w43 f43 => ?_)
            obtain ⟨v43, rfl, e43⟩ := f43
            have g43 := (show v43.toInt = nuI v1.toInt 7 1 by rw [e43, show v39.toInt = 7 by omega, show v42.toInt = 1 by omega])
            refine ff_lcmp hx hb (eX2_monthOf (20, .lcmp, 1) (List.mem_of_getElem? (i := 13) rfl)) (fun v44 e44 => ?_)
            refine ff_if_lt hx hb (eX2_monthOf (21, .ifCond .lt 5, 3) (List.mem_of_getElem? (i := 14) rfl)) (tgt := 26) rfl (fun c45 => ?_) (fun c45 => ?_)
            · skip
              refine ff_iinc (k := 0) hx hb (eX2_monthOf (26, .iinc 3 (-1), 3) (List.mem_of_getElem? (i := 17) rfl)) hl39 rfl (by decide) (by decide) (by decide) (by omega) (by omega) (fun v46 e46 ls46 hl46 => ?_)
              refine lv_goto hx hb (eX2_monthOf (29, .goto (-21), 3) (List.mem_of_getElem? (i := 18) rfl)) (tgt := 8) rfl ?_
              refine lv_iload_n hx hb (eX2_monthOf (8, .iload_n 3, 1) (List.mem_of_getElem? (i := 5) rfl)) rfl (lv_at hl46 0 rfl) ?_
              refine ff_iconst hx hb (eX2_monthOf (9, .iconst 1, 1) (List.mem_of_getElem? (i := 6) rfl)) (by decide) (by decide) (fun v47 e47 => ?_)
              refine ff_icmp_le hx hb (eX2_monthOf (10, .if_icmp .le 22, 3) (List.mem_of_getElem? (i := 7) rfl)) (tgt := 32) rfl (fun c48 => (by exfalso; omega)) (fun c48 => ?_)
              refine lv_lload_n hx hb (eX2_monthOf (13, .lload_n 0, 1) (List.mem_of_getElem? (i := 8) rfl)) rfl (lv_at hl46 2 rfl) ?_
              refine lv_iload_n hx hb (eX2_monthOf (14, .iload_n 2, 1) (List.mem_of_getElem? (i := 9) rfl)) rfl (lv_at hl46 1 rfl) ?_
              refine lv_iload_n hx hb (eX2_monthOf (15, .iload_n 3, 1) (List.mem_of_getElem? (i := 10) rfl)) rfl (lv_at hl46 0 rfl) ?_
              refine ff_iconst hx hb (eX2_monthOf (16, .iconst 1, 1) (List.mem_of_getElem? (i := 11) rfl)) (by decide) (by decide) (fun v49 e49 => ?_)
              refine zu_S (vs := [.int v1, .int v46, .int v49]) (rest := [.long n]) hx hb hml hown hts0 zBM_B (hX2_numberOf l cA v1 v46 v49 (by omega) (by omega) (by omega) (by omega) (by omega) (by omega)) ⟨rfl, rfl⟩ ⟨by decide, by decide⟩ ⟨by decide, by decide⟩ (tb_2 190 rfl rfl) (tb_1 13 rfl rfl) (tb_2 224 rfl rfl) (tb_2 189 rfl rfl) (show yX2_numberOf.cls ≠ "java/lang/invoke/MethodHandle" ∧ yX2_numberOf.cls ≠ "java/lang/invoke/VarHandle" ∧ (parseMethodDescriptor yX2_numberOf.desc).map (fun d => d.parameters.length) = some 3 by decide +kernel) rfl hBM hl46.1 (Nat.le_of_ble_eq_true rfl) (eX2_monthOf (17, .invokestatic 57, 3) (List.mem_of_getElem? (i := 12) rfl)) (fun w50 f50 => ?_)
              obtain ⟨v50, rfl, e50⟩ := f50
              have g50 := (show v50.toInt = nuI v1.toInt 6 1 by rw [e50, show v46.toInt = 6 by omega, show v49.toInt = 1 by omega])
              refine ff_lcmp hx hb (eX2_monthOf (20, .lcmp, 1) (List.mem_of_getElem? (i := 13) rfl)) (fun v51 e51 => ?_)
              refine ff_if_lt hx hb (eX2_monthOf (21, .ifCond .lt 5, 3) (List.mem_of_getElem? (i := 14) rfl)) (tgt := 26) rfl (fun c52 => ?_) (fun c52 => ?_)
              · skip
                refine ff_iinc (k := 0) hx hb (eX2_monthOf (26, .iinc 3 (-1), 3) (List.mem_of_getElem? (i := 17) rfl)) hl46 rfl (by decide) (by decide) (by decide) (by omega) (by omega) (fun v53 e53 ls53 hl53 => ?_)
                refine lv_goto hx hb (eX2_monthOf (29, .goto (-21), 3) (List.mem_of_getElem? (i := 18) rfl)) (tgt := 8) rfl ?_
                refine lv_iload_n hx hb (eX2_monthOf (8, .iload_n 3, 1) (List.mem_of_getElem? (i := 5) rfl)) rfl (lv_at hl53 0 rfl) ?_
                refine ff_iconst hx hb (eX2_monthOf (9, .iconst 1, 1) (List.mem_of_getElem? (i := 6) rfl)) (by decide) (by decide) (fun v54 e54 => ?_)
                refine ff_icmp_le hx hb (eX2_monthOf (10, .if_icmp .le 22, 3) (List.mem_of_getElem? (i := 7) rfl)) (tgt := 32) rfl (fun c55 => (by exfalso; omega)) (fun c55 => ?_)
                refine lv_lload_n hx hb (eX2_monthOf (13, .lload_n 0, 1) (List.mem_of_getElem? (i := 8) rfl)) rfl (lv_at hl53 2 rfl) ?_
                refine lv_iload_n hx hb (eX2_monthOf (14, .iload_n 2, 1) (List.mem_of_getElem? (i := 9) rfl)) rfl (lv_at hl53 1 rfl) ?_
                refine lv_iload_n hx hb (eX2_monthOf (15, .iload_n 3, 1) (List.mem_of_getElem? (i := 10) rfl)) rfl (lv_at hl53 0 rfl) ?_
                refine ff_iconst hx hb (eX2_monthOf (16, .iconst 1, 1) (List.mem_of_getElem? (i := 11) rfl)) (by decide) (by decide) (fun v56 e56 => ?_)
                refine zu_S (vs := [.int v1, .int v53, .int v56]) (rest := [.long n]) hx hb hml hown hts0 zBM_B (hX2_numberOf l cA v1 v53 v56 (by omega) (by omega) (by omega) (by omega) (by omega) (by omega)) ⟨rfl, rfl⟩ ⟨by decide, by decide⟩ ⟨by decide, by decide⟩ (tb_2 190 rfl rfl) (tb_1 13 rfl rfl) (tb_2 224 rfl rfl) (tb_2 189 rfl rfl) (show yX2_numberOf.cls ≠ "java/lang/invoke/MethodHandle" ∧ yX2_numberOf.cls ≠ "java/lang/invoke/VarHandle" ∧ (parseMethodDescriptor yX2_numberOf.desc).map (fun d => d.parameters.length) = some 3 by decide +kernel) rfl hBM hl53.1 (Nat.le_of_ble_eq_true rfl) (eX2_monthOf (17, .invokestatic 57, 3) (List.mem_of_getElem? (i := 12) rfl)) (fun w57 f57 => ?_)
                obtain ⟨v57, rfl, e57⟩ := f57
                have g57 := (show v57.toInt = nuI v1.toInt 5 1 by rw [e57, show v53.toInt = 5 by omega, show v56.toInt = 1 by omega])
                refine ff_lcmp hx hb (eX2_monthOf (20, .lcmp, 1) (List.mem_of_getElem? (i := 13) rfl)) (fun v58 e58 => ?_)
                refine ff_if_lt hx hb (eX2_monthOf (21, .ifCond .lt 5, 3) (List.mem_of_getElem? (i := 14) rfl)) (tgt := 26) rfl (fun c59 => ?_) (fun c59 => ?_)
                · skip
                  refine ff_iinc (k := 0) hx hb (eX2_monthOf (26, .iinc 3 (-1), 3) (List.mem_of_getElem? (i := 17) rfl)) hl53 rfl (by decide) (by decide) (by decide) (by omega) (by omega) (fun v60 e60 ls60 hl60 => ?_)
                  refine lv_goto hx hb (eX2_monthOf (29, .goto (-21), 3) (List.mem_of_getElem? (i := 18) rfl)) (tgt := 8) rfl ?_
                  refine lv_iload_n hx hb (eX2_monthOf (8, .iload_n 3, 1) (List.mem_of_getElem? (i := 5) rfl)) rfl (lv_at hl60 0 rfl) ?_
                  refine ff_iconst hx hb (eX2_monthOf (9, .iconst 1, 1) (List.mem_of_getElem? (i := 6) rfl)) (by decide) (by decide) (fun v61 e61 => ?_)
                  refine ff_icmp_le hx hb (eX2_monthOf (10, .if_icmp .le 22, 3) (List.mem_of_getElem? (i := 7) rfl)) (tgt := 32) rfl (fun c62 => (by exfalso; omega)) (fun c62 => ?_)
                  refine lv_lload_n hx hb (eX2_monthOf (13, .lload_n 0, 1) (List.mem_of_getElem? (i := 8) rfl)) rfl (lv_at hl60 2 rfl) ?_
                  refine lv_iload_n hx hb (eX2_monthOf (14, .iload_n 2, 1) (List.mem_of_getElem? (i := 9) rfl)) rfl (lv_at hl60 1 rfl) ?_
                  refine lv_iload_n hx hb (eX2_monthOf (15, .iload_n 3, 1) (List.mem_of_getElem? (i := 10) rfl)) rfl (lv_at hl60 0 rfl) ?_
                  refine ff_iconst hx hb (eX2_monthOf (16, .iconst 1, 1) (List.mem_of_getElem? (i := 11) rfl)) (by decide) (by decide) (fun v63 e63 => ?_)
                  refine zu_S (vs := [.int v1, .int v60, .int v63]) (rest := [.long n]) hx hb hml hown hts0 zBM_B (hX2_numberOf l cA v1 v60 v63 (by omega) (by omega) (by omega) (by omega) (by omega) (by omega)) ⟨rfl, rfl⟩ ⟨by decide, by decide⟩ ⟨by decide, by decide⟩ (tb_2 190 rfl rfl) (tb_1 13 rfl rfl) (tb_2 224 rfl rfl) (tb_2 189 rfl rfl) (show yX2_numberOf.cls ≠ "java/lang/invoke/MethodHandle" ∧ yX2_numberOf.cls ≠ "java/lang/invoke/VarHandle" ∧ (parseMethodDescriptor yX2_numberOf.desc).map (fun d => d.parameters.length) = some 3 by decide +kernel) rfl hBM hl60.1 (Nat.le_of_ble_eq_true rfl) (eX2_monthOf (17, .invokestatic 57, 3) (List.mem_of_getElem? (i := 12) rfl)) (fun w64 f64 => ?_)
                  obtain ⟨v64, rfl, e64⟩ := f64
                  have g64 := (show v64.toInt = nuI v1.toInt 4 1 by rw [e64, show v60.toInt = 4 by omega, show v63.toInt = 1 by omega])
                  refine ff_lcmp hx hb (eX2_monthOf (20, .lcmp, 1) (List.mem_of_getElem? (i := 13) rfl)) (fun v65 e65 => ?_)
                  refine ff_if_lt hx hb (eX2_monthOf (21, .ifCond .lt 5, 3) (List.mem_of_getElem? (i := 14) rfl)) (tgt := 26) rfl (fun c66 => ?_) (fun c66 => ?_)
                  · skip
                    refine ff_iinc (k := 0) hx hb (eX2_monthOf (26, .iinc 3 (-1), 3) (List.mem_of_getElem? (i := 17) rfl)) hl60 rfl (by decide) (by decide) (by decide) (by omega) (by omega) (fun v67 e67 ls67 hl67 => ?_)
                    refine lv_goto hx hb (eX2_monthOf (29, .goto (-21), 3) (List.mem_of_getElem? (i := 18) rfl)) (tgt := 8) rfl ?_
                    refine lv_iload_n hx hb (eX2_monthOf (8, .iload_n 3, 1) (List.mem_of_getElem? (i := 5) rfl)) rfl (lv_at hl67 0 rfl) ?_
                    refine ff_iconst hx hb (eX2_monthOf (9, .iconst 1, 1) (List.mem_of_getElem? (i := 6) rfl)) (by decide) (by decide) (fun v68 e68 => ?_)
                    refine ff_icmp_le hx hb (eX2_monthOf (10, .if_icmp .le 22, 3) (List.mem_of_getElem? (i := 7) rfl)) (tgt := 32) rfl (fun c69 => (by exfalso; omega)) (fun c69 => ?_)
                    refine lv_lload_n hx hb (eX2_monthOf (13, .lload_n 0, 1) (List.mem_of_getElem? (i := 8) rfl)) rfl (lv_at hl67 2 rfl) ?_
                    refine lv_iload_n hx hb (eX2_monthOf (14, .iload_n 2, 1) (List.mem_of_getElem? (i := 9) rfl)) rfl (lv_at hl67 1 rfl) ?_
                    refine lv_iload_n hx hb (eX2_monthOf (15, .iload_n 3, 1) (List.mem_of_getElem? (i := 10) rfl)) rfl (lv_at hl67 0 rfl) ?_
                    refine ff_iconst hx hb (eX2_monthOf (16, .iconst 1, 1) (List.mem_of_getElem? (i := 11) rfl)) (by decide) (by decide) (fun v70 e70 => ?_)
                    refine zu_S (vs := [.int v1, .int v67, .int v70]) (rest := [.long n]) hx hb hml hown hts0 zBM_B (hX2_numberOf l cA v1 v67 v70 (by omega) (by omega) (by omega) (by omega) (by omega) (by omega)) ⟨rfl, rfl⟩ ⟨by decide, by decide⟩ ⟨by decide, by decide⟩ (tb_2 190 rfl rfl) (tb_1 13 rfl rfl) (tb_2 224 rfl rfl) (tb_2 189 rfl rfl) (show yX2_numberOf.cls ≠ "java/lang/invoke/MethodHandle" ∧ yX2_numberOf.cls ≠ "java/lang/invoke/VarHandle" ∧ (parseMethodDescriptor yX2_numberOf.desc).map (fun d => d.parameters.length) = some 3 by decide +kernel) rfl hBM hl67.1 (Nat.le_of_ble_eq_true rfl) (eX2_monthOf (17, .invokestatic 57, 3) (List.mem_of_getElem? (i := 12) rfl)) (fun w71 f71 => ?_)
                    obtain ⟨v71, rfl, e71⟩ := f71
                    have g71 := (show v71.toInt = nuI v1.toInt 3 1 by rw [e71, show v67.toInt = 3 by omega, show v70.toInt = 1 by omega])
                    refine ff_lcmp hx hb (eX2_monthOf (20, .lcmp, 1) (List.mem_of_getElem? (i := 13) rfl)) (fun v72 e72 => ?_)
                    refine ff_if_lt hx hb (eX2_monthOf (21, .ifCond .lt 5, 3) (List.mem_of_getElem? (i := 14) rfl)) (tgt := 26) rfl (fun c73 => ?_) (fun c73 => ?_)
                    · skip
                      refine ff_iinc (k := 0) hx hb (eX2_monthOf (26, .iinc 3 (-1), 3) (List.mem_of_getElem? (i := 17) rfl)) hl67 rfl (by decide) (by decide) (by decide) (by omega) (by omega) (fun v74 e74 ls74 hl74 => ?_)
                      refine lv_goto hx hb (eX2_monthOf (29, .goto (-21), 3) (List.mem_of_getElem? (i := 18) rfl)) (tgt := 8) rfl ?_
                      refine lv_iload_n hx hb (eX2_monthOf (8, .iload_n 3, 1) (List.mem_of_getElem? (i := 5) rfl)) rfl (lv_at hl74 0 rfl) ?_
                      refine ff_iconst hx hb (eX2_monthOf (9, .iconst 1, 1) (List.mem_of_getElem? (i := 6) rfl)) (by decide) (by decide) (fun v75 e75 => ?_)
                      refine ff_icmp_le hx hb (eX2_monthOf (10, .if_icmp .le 22, 3) (List.mem_of_getElem? (i := 7) rfl)) (tgt := 32) rfl (fun c76 => (by exfalso; omega)) (fun c76 => ?_)
                      refine lv_lload_n hx hb (eX2_monthOf (13, .lload_n 0, 1) (List.mem_of_getElem? (i := 8) rfl)) rfl (lv_at hl74 2 rfl) ?_
                      refine lv_iload_n hx hb (eX2_monthOf (14, .iload_n 2, 1) (List.mem_of_getElem? (i := 9) rfl)) rfl (lv_at hl74 1 rfl) ?_
                      refine lv_iload_n hx hb (eX2_monthOf (15, .iload_n 3, 1) (List.mem_of_getElem? (i := 10) rfl)) rfl (lv_at hl74 0 rfl) ?_
                      refine ff_iconst hx hb (eX2_monthOf (16, .iconst 1, 1) (List.mem_of_getElem? (i := 11) rfl)) (by decide) (by decide) (fun v77 e77 => ?_)
                      refine zu_S (vs := [.int v1, .int v74, .int v77]) (rest := [.long n]) hx hb hml hown hts0 zBM_B (hX2_numberOf l cA v1 v74 v77 (by omega) (by omega) (by omega) (by omega) (by omega) (by omega)) ⟨rfl, rfl⟩ ⟨by decide, by decide⟩ ⟨by decide, by decide⟩ (tb_2 190 rfl rfl) (tb_1 13 rfl rfl) (tb_2 224 rfl rfl) (tb_2 189 rfl rfl) (show yX2_numberOf.cls ≠ "java/lang/invoke/MethodHandle" ∧ yX2_numberOf.cls ≠ "java/lang/invoke/VarHandle" ∧ (parseMethodDescriptor yX2_numberOf.desc).map (fun d => d.parameters.length) = some 3 by decide +kernel) rfl hBM hl74.1 (Nat.le_of_ble_eq_true rfl) (eX2_monthOf (17, .invokestatic 57, 3) (List.mem_of_getElem? (i := 12) rfl)) (fun w78 f78 => ?_)
                      obtain ⟨v78, rfl, e78⟩ := f78
                      have g78 := (show v78.toInt = nuI v1.toInt 2 1 by rw [e78, show v74.toInt = 2 by omega, show v77.toInt = 1 by omega])
                      refine ff_lcmp hx hb (eX2_monthOf (20, .lcmp, 1) (List.mem_of_getElem? (i := 13) rfl)) (fun v79 e79 => ?_)
                      refine ff_if_lt hx hb (eX2_monthOf (21, .ifCond .lt 5, 3) (List.mem_of_getElem? (i := 14) rfl)) (tgt := 26) rfl (fun c80 => ?_) (fun c80 => ?_)
                      · skip
                        refine ff_iinc (k := 0) hx hb (eX2_monthOf (26, .iinc 3 (-1), 3) (List.mem_of_getElem? (i := 17) rfl)) hl74 rfl (by decide) (by decide) (by decide) (by omega) (by omega) (fun v81 e81 ls81 hl81 => ?_)
                        refine lv_goto hx hb (eX2_monthOf (29, .goto (-21), 3) (List.mem_of_getElem? (i := 18) rfl)) (tgt := 8) rfl ?_
                        refine lv_iload_n hx hb (eX2_monthOf (8, .iload_n 3, 1) (List.mem_of_getElem? (i := 5) rfl)) rfl (lv_at hl81 0 rfl) ?_
                        refine ff_iconst hx hb (eX2_monthOf (9, .iconst 1, 1) (List.mem_of_getElem? (i := 6) rfl)) (by decide) (by decide) (fun v82 e82 => ?_)
                        refine ff_icmp_le hx hb (eX2_monthOf (10, .if_icmp .le 22, 3) (List.mem_of_getElem? (i := 7) rfl)) (tgt := 32) rfl (fun c83 => ?_) (fun c83 => (by exfalso; omega))
                        refine ff_iconst hx hb (eX2_monthOf (32, .iconst 1, 1) (List.mem_of_getElem? (i := 19) rfl)) (by decide) (by decide) (fun v84 e84 => ?_)
                        exact zu_iret (y := yX2_monthOf) (ws := []) (rm := {}) hx hb hr hlk rfl ⟨_, rfl, by (refine ⟨by omega, by omega, v1.toInt, hY.1, ?_⟩; rw [show v84.toInt = 1 by omega]; exact mo_at (by omega) (by omega) hY.1 (by omega) (by show (1 : Int) = 12 ∨ n.toInt < nuI v1.toInt 2 1; omega))⟩ (eX2_monthOf (33, .ireturn, 1) (List.mem_of_getElem? (i := 20) rfl))
                      · skip
                        refine lv_iload_n hx hb (eX2_monthOf (24, .iload_n 3, 1) (List.mem_of_getElem? (i := 15) rfl)) rfl (lv_at hl74 0 rfl) ?_
                        exact zu_iret (y := yX2_monthOf) (ws := []) (rm := {}) hx hb hr hlk rfl ⟨_, rfl, by (refine ⟨by omega, by omega, v1.toInt, hY.1, ?_⟩; rw [show v74.toInt = 2 by omega]; exact mo_at (by omega) (by omega) hY.1 (by omega) (by show (2 : Int) = 12 ∨ n.toInt < nuI v1.toInt 3 1; omega))⟩ (eX2_monthOf (25, .ireturn, 1) (List.mem_of_getElem? (i := 16) rfl))
                    · skip
                      refine lv_iload_n hx hb (eX2_monthOf (24, .iload_n 3, 1) (List.mem_of_getElem? (i := 15) rfl)) rfl (lv_at hl67 0 rfl) ?_
                      exact zu_iret (y := yX2_monthOf) (ws := []) (rm := {}) hx hb hr hlk rfl ⟨_, rfl, by (refine ⟨by omega, by omega, v1.toInt, hY.1, ?_⟩; rw [show v67.toInt = 3 by omega]; exact mo_at (by omega) (by omega) hY.1 (by omega) (by show (3 : Int) = 12 ∨ n.toInt < nuI v1.toInt 4 1; omega))⟩ (eX2_monthOf (25, .ireturn, 1) (List.mem_of_getElem? (i := 16) rfl))
                  · skip
                    refine lv_iload_n hx hb (eX2_monthOf (24, .iload_n 3, 1) (List.mem_of_getElem? (i := 15) rfl)) rfl (lv_at hl60 0 rfl) ?_
                    exact zu_iret (y := yX2_monthOf) (ws := []) (rm := {}) hx hb hr hlk rfl ⟨_, rfl, by (refine ⟨by omega, by omega, v1.toInt, hY.1, ?_⟩; rw [show v60.toInt = 4 by omega]; exact mo_at (by omega) (by omega) hY.1 (by omega) (by show (4 : Int) = 12 ∨ n.toInt < nuI v1.toInt 5 1; omega))⟩ (eX2_monthOf (25, .ireturn, 1) (List.mem_of_getElem? (i := 16) rfl))
                · skip
                  refine lv_iload_n hx hb (eX2_monthOf (24, .iload_n 3, 1) (List.mem_of_getElem? (i := 15) rfl)) rfl (lv_at hl53 0 rfl) ?_
                  exact zu_iret (y := yX2_monthOf) (ws := []) (rm := {}) hx hb hr hlk rfl ⟨_, rfl, by (refine ⟨by omega, by omega, v1.toInt, hY.1, ?_⟩; rw [show v53.toInt = 5 by omega]; exact mo_at (by omega) (by omega) hY.1 (by omega) (by show (5 : Int) = 12 ∨ n.toInt < nuI v1.toInt 6 1; omega))⟩ (eX2_monthOf (25, .ireturn, 1) (List.mem_of_getElem? (i := 16) rfl))
              · skip
                refine lv_iload_n hx hb (eX2_monthOf (24, .iload_n 3, 1) (List.mem_of_getElem? (i := 15) rfl)) rfl (lv_at hl46 0 rfl) ?_
                exact zu_iret (y := yX2_monthOf) (ws := []) (rm := {}) hx hb hr hlk rfl ⟨_, rfl, by (refine ⟨by omega, by omega, v1.toInt, hY.1, ?_⟩; rw [show v46.toInt = 6 by omega]; exact mo_at (by omega) (by omega) hY.1 (by omega) (by show (6 : Int) = 12 ∨ n.toInt < nuI v1.toInt 7 1; omega))⟩ (eX2_monthOf (25, .ireturn, 1) (List.mem_of_getElem? (i := 16) rfl))
            · skip
              refine lv_iload_n hx hb (eX2_monthOf (24, .iload_n 3, 1) (List.mem_of_getElem? (i := 15) rfl)) rfl (lv_at hl39 0 rfl) ?_
              exact zu_iret (y := yX2_monthOf) (ws := []) (rm := {}) hx hb hr hlk rfl ⟨_, rfl, by (refine ⟨by omega, by omega, v1.toInt, hY.1, ?_⟩; rw [show v39.toInt = 7 by omega]; exact mo_at (by omega) (by omega) hY.1 (by omega) (by show (7 : Int) = 12 ∨ n.toInt < nuI v1.toInt 8 1; omega))⟩ (eX2_monthOf (25, .ireturn, 1) (List.mem_of_getElem? (i := 16) rfl))
          · skip
            refine lv_iload_n hx hb (eX2_monthOf (24, .iload_n 3, 1) (List.mem_of_getElem? (i := 15) rfl)) rfl (lv_at hl32 0 rfl) ?_
            exact zu_iret (y := yX2_monthOf) (ws := []) (rm := {}) hx hb hr hlk rfl ⟨_, rfl, by (refine ⟨by omega, by omega, v1.toInt, hY.1, ?_⟩; rw [show v32.toInt = 8 by omega]; exact mo_at (by omega) (by omega) hY.1 (by omega) (by show (8 : Int) = 12 ∨ n.toInt < nuI v1.toInt 9 1; omega))⟩ (eX2_monthOf (25, .ireturn, 1) (List.mem_of_getElem? (i := 16) rfl))
        · skip
          refine lv_iload_n hx hb (eX2_monthOf (24, .iload_n 3, 1) (List.mem_of_getElem? (i := 15) rfl)) rfl (lv_at hl25 0 rfl) ?_
          exact zu_iret (y := yX2_monthOf) (ws := []) (rm := {}) hx hb hr hlk rfl ⟨_, rfl, by (refine ⟨by omega, by omega, v1.toInt, hY.1, ?_⟩; rw [show v25.toInt = 9 by omega]; exact mo_at (by omega) (by omega) hY.1 (by omega) (by show (9 : Int) = 12 ∨ n.toInt < nuI v1.toInt 10 1; omega))⟩ (eX2_monthOf (25, .ireturn, 1) (List.mem_of_getElem? (i := 16) rfl))
      · skip
        refine lv_iload_n hx hb (eX2_monthOf (24, .iload_n 3, 1) (List.mem_of_getElem? (i := 15) rfl)) rfl (lv_at hl18 0 rfl) ?_
        exact zu_iret (y := yX2_monthOf) (ws := []) (rm := {}) hx hb hr hlk rfl ⟨_, rfl, by (refine ⟨by omega, by omega, v1.toInt, hY.1, ?_⟩; rw [show v18.toInt = 10 by omega]; exact mo_at (by omega) (by omega) hY.1 (by omega) (by show (10 : Int) = 12 ∨ n.toInt < nuI v1.toInt 11 1; omega))⟩ (eX2_monthOf (25, .ireturn, 1) (List.mem_of_getElem? (i := 16) rfl))
    · skip
      refine lv_iload_n hx hb (eX2_monthOf (24, .iload_n 3, 1) (List.mem_of_getElem? (i := 15) rfl)) rfl (lv_at hl11 0 rfl) ?_
      exact zu_iret (y := yX2_monthOf) (ws := []) (rm := {}) hx hb hr hlk rfl ⟨_, rfl, by (refine ⟨by omega, by omega, v1.toInt, hY.1, ?_⟩; rw [show v11.toInt = 11 by omega]; exact mo_at (by omega) (by omega) hY.1 (by omega) (by show (11 : Int) = 12 ∨ n.toInt < nuI v1.toInt 12 1; omega))⟩ (eX2_monthOf (25, .ireturn, 1) (List.mem_of_getElem? (i := 16) rfl))
  · skip
    refine lv_iload_n hx hb (eX2_monthOf (24, .iload_n 3, 1) (List.mem_of_getElem? (i := 15) rfl)) rfl (lv_at hl4 0 rfl) ?_
    exact zu_iret (y := yX2_monthOf) (ws := []) (rm := {}) hx hb hr hlk rfl ⟨_, rfl, by (refine ⟨by omega, by omega, v1.toInt, hY.1, ?_⟩; rw [show v3.toInt = 12 by omega]; exact mo_at (by omega) (by omega) hY.1 (by omega) (by show (12 : Int) = 12 ∨ n.toInt < nuI v1.toInt 13 1; omega))⟩ (eX2_monthOf (25, .ireturn, 1) (List.mem_of_getElem? (i := 16) rfl))
