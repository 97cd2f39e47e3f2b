theorem zw_ob {D : va_G} {cA : Nat → ClassId} {ro : Nat → Option Nat} {sz : Nat} {H0 H : Heap} {locs : List Loc} {s : State} {x : Nat} (hh : zh_ok D cA RTg ro sz H0 H locs) (hK : zK0 D cA s) (hx : ro x = some 10) : ∃ cell : Cell, H[x]? = some cell ∧ cell.vm = .none ∧ s.vm.findClass RX11 = some cell.cls := by
  obtain ⟨-, cell, c1, c2, c3, -⟩ := zh_obj hh hx (show RTg[10]? = some (0, 10, 0, fsX11) from rfl)
  exact ⟨cell, c1, c3, by rw [c2]; exact zCX11 hK⟩
def tL_day : List (Nat × Instr × Nat) := [(0, .aload 4, 2), (2, .iconst 0, 1), (3, .aload_n 0, 1), (4, .iload_n 1, 1), (5, .iload_n 2, 1), (6, .iload_n 3, 1), (7, .invokevirtual 7, 3), (10, .lastore, 1), (11, .goto 7, 3), (14, .astore 5, 2), (16, .iconst 1, 1), (17, .ireturn, 1), (18, .iconst 0, 1), (19, .ireturn, 1)]
set_option maxRecDepth 100000 in
theorem eL_day : ∀ x ∈ tL_day, decode cL_day x.1 = .ok x.2 := by decide +kernel
set_option maxRecDepth 100000 in
set_option maxHeartbeats 4000000 in
theorem wL_day (l : Launch) (hst : l.stackTraces = false) (D : va_G) (cA : Nat → ClassId) (ro : Nat → Option Nat) (sz : Nat) (H0 : Heap) (x : Nat) (p1 : Int32) (p2 : Int32) (p3 : Int32) (o : Nat) (hx10 : ro x = some 10) (ho : ro o = some 42) : Met l yL_day (Cond.codeWith yL_day cL_day 6 (some .int) [(0, 11, 14, 13)] :: gT) { frames := 7, cells := 1, slots := 6, locals := 105 } (zw_Pc D cA ro sz H0 [.ref x, .int p1, .int p2, .int p3, .ref o]) (zw_Qk D cA ro sz H0 [(42, 0)]) 1 6 (zy_fr sz) := by
  refine zw_ofW (cc := cL_day) (maxL := 6) (ret := some .int) (by decide +kernel) rfl ?_
  intro p e s m args below meth c s1 B hml hv
  obtain ⟨rfl, hh, hKa⟩ := hv
  have hx := B.exec
  have hb := B.bytes
  have hr := B.returns
  have hlk := B.notSynchronized
  have hts0 := atoms_spec (ws := Cond.codeWith yL_day cL_day 6 (some .int) [(0, 11, 14, 13)] :: gT) B.pre
  have h2 : ∀ w ∈ gT, w.before ([.ref x, .int p1, .int p2, .int p3, .ref o] : List Value).toArray s = true := fun w hw => hts0 w (List.mem_cons_of_mem _ hw)
  have hown : s.vm.findClass RL = some m.cls := findClass_of_methodNamed B.named
  have hl := lv_entry [.ref x, .int p1, .int p2, .int p3, .ref o] (n := 6) (Nat.le_of_ble_eq_true rfl)
  rw [lg_entry_eq]
  generalize (lg_sl [.ref x, .int p1, .int p2, .int p3, .ref o] ++ List.replicate (6 - (lg_sl [.ref x, .int p1, .int p2, .int p3, .ref o]).length) Slot.unset).toArray = ls at hl ⊢
  refine lv_aload hx hb (eL_day (0, .aload 4, 2) (List.mem_of_getElem? (i := 0) rfl)) (lv_at hl 4 rfl) ?_
  refine ff_iconst hx hb (eL_day (2, .iconst 0, 1) (List.mem_of_getElem? (i := 1) rfl)) (by decide) (by decide) (fun v1 e1 => ?_)
  refine lv_aload_n hx hb (eL_day (3, .aload_n 0, 1) (List.mem_of_getElem? (i := 2) rfl)) rfl (lv_at hl 0 rfl) ?_
  refine lv_iload_n hx hb (eL_day (4, .iload_n 1, 1) (List.mem_of_getElem? (i := 3) rfl)) rfl (lv_at hl 1 rfl) ?_
  refine lv_iload_n hx hb (eL_day (5, .iload_n 2, 1) (List.mem_of_getElem? (i := 4) rfl)) rfl (lv_at hl 2 rfl) ?_
  refine lv_iload_n hx hb (eL_day (6, .iload_n 3, 1) (List.mem_of_getElem? (i := 5) rfl)) rfl (lv_at hl 3 rfl) ?_
  refine zx_rowG (As := [.int p1, .int p2, .int p3]) (st := [.int v1, .ref o]) (b := x) (C := RX11) hx hb hml hown hts0 (mX11_day l hst D cA ro sz H0) ⟨rfl, rfl⟩ ⟨by decide, by decide⟩ ⟨by decide, by decide⟩ (tb_2 107 rfl rfl) (tb_1 1 rfl rfl) (tb_2 104 rfl rfl) (tb_2 105 rfl rfl) (tb_2 106 rfl rfl) rfl (show yX11_day.cls ≠ "java/lang/invoke/MethodHandle" ∧ yX11_day.cls ≠ "java/lang/invoke/VarHandle" ∧ (parseMethodDescriptor yX11_day.desc).map (fun d => d.parameters.length) = some 3 by decide +kernel) zx_blind (zw_ob hh hKa.1.1.1 hx10) (fun U hU hW => ⟨_, rfl, by rw [hU]; exact hh, ⟨⟨Or.inr ⟨x, rfl, hx10⟩, ⟨p1, rfl, (zn_i32 p1).1, (zn_i32 p1).2⟩, ⟨p2, rfl, (zn_i32 p2).1, (zn_i32 p2).2⟩, ⟨p3, rfl, (zn_i32 p3).1, (zn_i32 p3).2⟩, trivial⟩, fun e he => (by cases he), fun f hf => (by cases hf)⟩, hKa.1.warm hW⟩) (fun q hq => by cases hq) hl.1 (Nat.le_of_ble_eq_true rfl) (eL_day (7, .invokevirtual 7, 3) (List.mem_of_getElem? (i := 6) rfl)) (fun v s0 t lo1 g0 g1 g2 => ?_) (fun q s0 t lo1 E ce g0 g1 g3 g4 g5 g2 => ?_)
  · obtain ⟨vs9, x9, q1, q2, q3, q4, q5⟩ := g1
    cases q2
    obtain ⟨w9, rfl, y9, rfl, -, -⟩ := zc_one (t := (1, (-9223372036854775808), 9223372036854775807)) (L := []) q5
    have hh1 : zh_ok D cA RTg ro sz H0 t.heap lo1 := ⟨q3.1, q3.2.1, g2, q3.2.2.2⟩
    refine W.eq (g2 := F0 m 10 ls [.long y9, .int v1, .ref o]) rfl ?_
    have kp1 : zc_kept D RTg ro [(42, 0)] s.heap t.heap := by rw [g0] at q4; exact q4.mono (by decide)
    refine zw_out hx hb hh1 hKa.1.1.1 ho (by omega) (eL_day (10, .lastore, 1) (List.mem_of_getElem? (i := 7) rfl)) (fun H2 lo2 hh2 hq2 _ _ => ?_)
    have kp2 := kp1.trans (zk_setA (ms := [(42, 0)]) (by decide) ho rfl hq2)
    refine lv_goto hx hb (eL_day (11, .goto 7, 3) (List.mem_of_getElem? (i := 8) rfl)) (tgt := 18) rfl ?_
    refine ff_iconst hx hb (eL_day (18, .iconst 0, 1) (List.mem_of_getElem? (i := 12) rfl)) (by decide) (by decide) (fun v3 e3 => ?_)
    exact W.zret hx hb hr rfl (fun t ht hW => ⟨_, ro, rfl, fun _ _ h => h, by rw [ht]; exact hh2.l0, by rw [ht]; exact kp2⟩) hh2.2.2.1 (eL_day (19, .ireturn, 1) (List.mem_of_getElem? (i := 13) rfl))
  · have hh1 : zh_ok D cA RTg ro sz H0 t.heap lo1 := ⟨g1.2.1.1, g1.2.1.2.1, g2, g1.2.1.2.2.2⟩
    have kp1 : zc_kept D RTg ro [(42, 0)] s.heap t.heap := by have g9 := g1.2.2; rw [g0] at g9; exact g9.mono (by decide)
    have hE := g1.1
    refine (List.mem_cons.mp hE).elim (fun g => ?_) (fun hE => ?_)
    · subst g
      refine vx_catch (own := RL) (name := "java/lang/IllegalArgumentException") hown [] ⟨0, 11, 14, 13⟩ [] (vx_table (x := yL_day) B (h2 _ (tb_2 102 rfl rfl))) (fun z hz => by cases hz) rfl (by decide) (h2 _ (tb_2 103 rfl rfl)) (va_Nw.use rfl (hKa.1.2.2.2.2.1 (eI, eI) (List.mem_of_getElem? (i := 0) rfl))) g3 g4 g5 ?_
      refine lv_astore hx hb (eL_day (14, .astore 5, 2) (List.mem_of_getElem? (i := 9) rfl)) hl (by decide) rfl (fun ls4 hl4 => ?_)
      refine ff_iconst hx hb (eL_day (16, .iconst 1, 1) (List.mem_of_getElem? (i := 10) rfl)) (by decide) (by decide) (fun v5 e5 => ?_)
      exact W.zret hx hb hr rfl (fun t ht hW => ⟨_, ro, rfl, fun _ _ h => h, by rw [ht]; exact hh1.l0, by rw [ht]; exact kp1⟩) hh1.2.2.1 (eL_day (17, .ireturn, 1) (List.mem_of_getElem? (i := 11) rfl))
    cases hE
def tL_date : List (Nat × Instr × Nat) := [(0, .aload 4, 2), (2, .iconst 0, 1), (3, .aload_n 0, 1), (4, .lload_n 1, 1), (5, .iload_n 3, 1), (6, .invokevirtual 15, 3), (9, .i2l, 1), (10, .lastore, 1), (11, .goto 7, 3), (14, .astore 5, 2), (16, .iconst 1, 1), (17, .ireturn, 1), (18, .iconst 0, 1), (19, .ireturn, 1)]
set_option maxRecDepth 100000 in
theorem eL_date : ∀ x ∈ tL_date, decode cL_date x.1 = .ok x.2 := by decide +kernel
set_option maxRecDepth 100000 in
set_option maxHeartbeats 4000000 in
theorem wL_date (l : Launch) (hst : l.stackTraces = false) (D : va_G) (cA : Nat → ClassId) (ro : Nat → Option Nat) (sz : Nat) (H0 : Heap) (x : Nat) (p1 : Int64) (p2 : Int32) (o : Nat) (hx10 : ro x = some 10) (ho : ro o = some 42) : Met l yL_date (Cond.codeWith yL_date cL_date 6 (some .int) [(0, 11, 14, 13)] :: gT) { frames := 7, cells := 1, slots := 6, locals := 114 } (zw_Pc D cA ro sz H0 [.ref x, .long p1, .int p2, .ref o]) (zw_Qk D cA ro sz H0 [(42, 0)]) 1 6 (zy_fr sz) := by
  refine zw_ofW (cc := cL_date) (maxL := 6) (ret := some .int) (by decide +kernel) rfl ?_
  intro p e s m args below meth c s1 B hml hv
  obtain ⟨rfl, hh, hKa⟩ := hv
  have hx := B.exec
  have hb := B.bytes
  have hr := B.returns
  have hlk := B.notSynchronized
  have hts0 := atoms_spec (ws := Cond.codeWith yL_date cL_date 6 (some .int) [(0, 11, 14, 13)] :: gT) B.pre
  have h2 : ∀ w ∈ gT, w.before ([.ref x, .long p1, .int p2, .ref o] : List Value).toArray s = true := fun w hw => hts0 w (List.mem_cons_of_mem _ hw)
  have hown : s.vm.findClass RL = some m.cls := findClass_of_methodNamed B.named
  have hl := lv_entry [.ref x, .long p1, .int p2, .ref o] (n := 6) (Nat.le_of_ble_eq_true rfl)
  rw [lg_entry_eq]
  generalize (lg_sl [.ref x, .long p1, .int p2, .ref o] ++ List.replicate (6 - (lg_sl [.ref x, .long p1, .int p2, .ref o]).length) Slot.unset).toArray = ls at hl ⊢
  refine lv_aload hx hb (eL_date (0, .aload 4, 2) (List.mem_of_getElem? (i := 0) rfl)) (lv_at hl 3 rfl) ?_
  refine ff_iconst hx hb (eL_date (2, .iconst 0, 1) (List.mem_of_getElem? (i := 1) rfl)) (by decide) (by decide) (fun v1 e1 => ?_)
  refine lv_aload_n hx hb (eL_date (3, .aload_n 0, 1) (List.mem_of_getElem? (i := 2) rfl)) rfl (lv_at hl 0 rfl) ?_
  refine lv_lload_n hx hb (eL_date (4, .lload_n 1, 1) (List.mem_of_getElem? (i := 3) rfl)) rfl (lv_at hl 1 rfl) ?_
  refine lv_iload_n hx hb (eL_date (5, .iload_n 3, 1) (List.mem_of_getElem? (i := 4) rfl)) rfl (lv_at hl 2 rfl) ?_
  refine zx_rowG (As := [.long p1, .int p2]) (st := [.int v1, .ref o]) (b := x) (C := RX11) hx hb hml hown hts0 (mX11_date l hst D cA ro sz H0) ⟨rfl, rfl⟩ ⟨by decide, by decide⟩ ⟨by decide, by decide⟩ (tb_2 209 rfl rfl) (tb_1 1 rfl rfl) (tb_2 206 rfl rfl) (tb_2 207 rfl rfl) (tb_2 208 rfl rfl) rfl (show yX11_date.cls ≠ "java/lang/invoke/MethodHandle" ∧ yX11_date.cls ≠ "java/lang/invoke/VarHandle" ∧ (parseMethodDescriptor yX11_date.desc).map (fun d => d.parameters.length) = some 2 by decide +kernel) zx_blind (zw_ob hh hKa.1.1.1 hx10) (fun U hU hW => ⟨_, rfl, by rw [hU]; exact hh, ⟨⟨Or.inr ⟨x, rfl, hx10⟩, ⟨p1, rfl, (zn_i64 p1).1, (zn_i64 p1).2⟩, ⟨p2, rfl, (zn_i32 p2).1, (zn_i32 p2).2⟩, trivial⟩, fun e he => (by cases he), fun f hf => (by cases hf)⟩, hKa.1.warm hW⟩) (fun q hq => by cases hq) hl.1 (Nat.le_of_ble_eq_true rfl) (eL_date (6, .invokevirtual 15, 3) (List.mem_of_getElem? (i := 5) rfl)) (fun v s0 t lo1 g0 g1 g2 => ?_) (fun q s0 t lo1 E ce g0 g1 g3 g4 g5 g2 => ?_)
  · obtain ⟨vs9, x9, q1, q2, q3, q4, q5⟩ := g1
    cases q2
    obtain ⟨w9, rfl, y9, rfl, -, -⟩ := zc_one (t := (0, (-2147483648), 2147483647)) (L := []) q5
    have hh1 : zh_ok D cA RTg ro sz H0 t.heap lo1 := ⟨q3.1, q3.2.1, g2, q3.2.2.2⟩
    refine W.eq (g2 := F0 m 9 ls [.int y9, .int v1, .ref o]) rfl ?_
    have kp1 : zc_kept D RTg ro [(42, 0)] s.heap t.heap := by rw [g0] at q4; exact q4.mono (by decide)
    refine ff_i2l hx hb (eL_date (9, .i2l, 1) (List.mem_of_getElem? (i := 6) rfl)) (fun v2 e2 => ?_)
    refine zw_out hx hb hh1 hKa.1.1.1 ho (by omega) (eL_date (10, .lastore, 1) (List.mem_of_getElem? (i := 7) rfl)) (fun H3 lo3 hh3 hq3 _ _ => ?_)
    have kp3 := kp1.trans (zk_setA (ms := [(42, 0)]) (by decide) ho rfl hq3)
    refine lv_goto hx hb (eL_date (11, .goto 7, 3) (List.mem_of_getElem? (i := 8) rfl)) (tgt := 18) rfl ?_
    refine ff_iconst hx hb (eL_date (18, .iconst 0, 1) (List.mem_of_getElem? (i := 12) rfl)) (by decide) (by decide) (fun v4 e4 => ?_)
    exact W.zret hx hb hr rfl (fun t ht hW => ⟨_, ro, rfl, fun _ _ h => h, by rw [ht]; exact hh3.l0, by rw [ht]; exact kp3⟩) hh3.2.2.1 (eL_date (19, .ireturn, 1) (List.mem_of_getElem? (i := 13) rfl))
  · have hh1 : zh_ok D cA RTg ro sz H0 t.heap lo1 := ⟨g1.2.1.1, g1.2.1.2.1, g2, g1.2.1.2.2.2⟩
    have kp1 : zc_kept D RTg ro [(42, 0)] s.heap t.heap := by have g9 := g1.2.2; rw [g0] at g9; exact g9.mono (by decide)
    have hE := g1.1
    refine (List.mem_cons.mp hE).elim (fun g => ?_) (fun hE => ?_)
    · subst g
      refine vx_catch (own := RL) (name := "java/lang/IllegalArgumentException") hown [] ⟨0, 11, 14, 13⟩ [] (vx_table (x := yL_date) B (h2 _ (tb_2 205 rfl rfl))) (fun z hz => by cases hz) rfl (by decide) (h2 _ (tb_2 103 rfl rfl)) (va_Nw.use rfl (hKa.1.2.2.2.2.1 (eI, eI) (List.mem_of_getElem? (i := 0) rfl))) g3 g4 g5 ?_
      refine lv_astore hx hb (eL_date (14, .astore 5, 2) (List.mem_of_getElem? (i := 9) rfl)) hl (by decide) rfl (fun ls5 hl5 => ?_)
      refine ff_iconst hx hb (eL_date (16, .iconst 1, 1) (List.mem_of_getElem? (i := 10) rfl)) (by decide) (by decide) (fun v6 e6 => ?_)
      exact W.zret hx hb hr rfl (fun t ht hW => ⟨_, ro, rfl, fun _ _ h => h, by rw [ht]; exact hh1.l0, by rw [ht]; exact kp1⟩) hh1.2.2.1 (eL_date (17, .ireturn, 1) (List.mem_of_getElem? (i := 11) rfl))
    cases hE
def tL_weekDay : List (Nat × Instr × Nat) := [(0, .aload 4, 2), (2, .iconst 0, 1), (3, .aload_n 0, 1), (4, .iload_n 1, 1), (5, .iload_n 2, 1), (6, .iload_n 3, 1), (7, .invokevirtual 19, 3), (10, .lastore, 1), (11, .goto 7, 3), (14, .astore 5, 2), (16, .iconst 1, 1), (17, .ireturn, 1), (18, .iconst 0, 1), (19, .ireturn, 1)]
set_option maxRecDepth 100000 in
theorem eL_weekDay : ∀ x ∈ tL_weekDay, decode cL_weekDay x.1 = .ok x.2 := by decide +kernel
set_option maxRecDepth 100000 in
set_option maxHeartbeats 4000000 in
theorem wL_weekDay (l : Launch) (hst : l.stackTraces = false) (D : va_G) (cA : Nat → ClassId) (ro : Nat → Option Nat) (sz : Nat) (H0 : Heap) (x : Nat) (p1 : Int32) (p2 : Int32) (p3 : Int32) (o : Nat) (hx10 : ro x = some 10) (ho : ro o = some 42) : Met l yL_weekDay (Cond.codeWith yL_weekDay cL_weekDay 6 (some .int) [(0, 11, 14, 13)] :: gT) { frames := 7, cells := 1, slots := 6, locals := 107 } (zw_Pc D cA ro sz H0 [.ref x, .int p1, .int p2, .int p3, .ref o]) (zw_Qk D cA ro sz H0 [(42, 0)]) 1 6 (zy_fr sz) := by
  refine zw_ofW (cc := cL_weekDay) (maxL := 6) (ret := some .int) (by decide +kernel) rfl ?_
  intro p e s m args below meth c s1 B hml hv
  obtain ⟨rfl, hh, hKa⟩ := hv
  have hx := B.exec
  have hb := B.bytes
  have hr := B.returns
  have hlk := B.notSynchronized
  have hts0 := atoms_spec (ws := Cond.codeWith yL_weekDay cL_weekDay 6 (some .int) [(0, 11, 14, 13)] :: gT) B.pre
  have h2 : ∀ w ∈ gT, w.before ([.ref x, .int p1, .int p2, .int p3, .ref o] : List Value).toArray s = true := fun w hw => hts0 w (List.mem_cons_of_mem _ hw)
  have hown : s.vm.findClass RL = some m.cls := findClass_of_methodNamed B.named
  have hl := lv_entry [.ref x, .int p1, .int p2, .int p3, .ref o] (n := 6) (Nat.le_of_ble_eq_true rfl)
  rw [lg_entry_eq]
  generalize (lg_sl [.ref x, .int p1, .int p2, .int p3, .ref o] ++ List.replicate (6 - (lg_sl [.ref x, .int p1, .int p2, .int p3, .ref o]).length) Slot.unset).toArray = ls at hl ⊢
  refine lv_aload hx hb (eL_weekDay (0, .aload 4, 2) (List.mem_of_getElem? (i := 0) rfl)) (lv_at hl 4 rfl) ?_
  refine ff_iconst hx hb (eL_weekDay (2, .iconst 0, 1) (List.mem_of_getElem? (i := 1) rfl)) (by decide) (by decide) (fun v1 e1 => ?_)
  refine lv_aload_n hx hb (eL_weekDay (3, .aload_n 0, 1) (List.mem_of_getElem? (i := 2) rfl)) rfl (lv_at hl 0 rfl) ?_
  refine lv_iload_n hx hb (eL_weekDay (4, .iload_n 1, 1) (List.mem_of_getElem? (i := 3) rfl)) rfl (lv_at hl 1 rfl) ?_
  refine lv_iload_n hx hb (eL_weekDay (5, .iload_n 2, 1) (List.mem_of_getElem? (i := 4) rfl)) rfl (lv_at hl 2 rfl) ?_
  refine lv_iload_n hx hb (eL_weekDay (6, .iload_n 3, 1) (List.mem_of_getElem? (i := 5) rfl)) rfl (lv_at hl 3 rfl) ?_
  refine zx_rowG (As := [.int p1, .int p2, .int p3]) (st := [.int v1, .ref o]) (b := x) (C := RX11) hx hb hml hown hts0 (mX11_weekDay l hst D cA ro sz H0) ⟨rfl, rfl⟩ ⟨by decide, by decide⟩ ⟨by decide, by decide⟩ (tb_3 16 rfl rfl) (tb_1 1 rfl rfl) (tb_3 13 rfl rfl) (tb_3 14 rfl rfl) (tb_3 15 rfl rfl) rfl (show yX11_weekDay.cls ≠ "java/lang/invoke/MethodHandle" ∧ yX11_weekDay.cls ≠ "java/lang/invoke/VarHandle" ∧ (parseMethodDescriptor yX11_weekDay.desc).map (fun d => d.parameters.length) = some 3 by decide +kernel) zx_blind (zw_ob hh hKa.1.1.1 hx10) (fun U hU hW => ⟨_, rfl, by rw [hU]; exact hh, ⟨⟨Or.inr ⟨x, rfl, hx10⟩, ⟨p1, rfl, (zn_i32 p1).1, (zn_i32 p1).2⟩, ⟨p2, rfl, (zn_i32 p2).1, (zn_i32 p2).2⟩, ⟨p3, rfl, (zn_i32 p3).1, (zn_i32 p3).2⟩, trivial⟩, fun e he => (by cases he), fun f hf => (by cases hf)⟩, hKa.1.warm hW⟩) (fun q hq => by cases hq) hl.1 (Nat.le_of_ble_eq_true rfl) (eL_weekDay (7, .invokevirtual 19, 3) (List.mem_of_getElem? (i := 6) rfl)) (fun v s0 t lo1 g0 g1 g2 => ?_) (fun q s0 t lo1 E ce g0 g1 g3 g4 g5 g2 => ?_)
  · obtain ⟨vs9, x9, q1, q2, q3, q4, q5⟩ := g1
    cases q2
    obtain ⟨w9, rfl, y9, rfl, -, -⟩ := zc_one (t := (1, (-9223372036854775808), 9223372036854775807)) (L := []) q5
    have hh1 : zh_ok D cA RTg ro sz H0 t.heap lo1 := ⟨q3.1, q3.2.1, g2, q3.2.2.2⟩
    refine W.eq (g2 := F0 m 10 ls [.long y9, .int v1, .ref o]) rfl ?_
    have kp1 : zc_kept D RTg ro [(42, 0)] s.heap t.heap := by rw [g0] at q4; exact q4.mono (by decide)
    refine zw_out hx hb hh1 hKa.1.1.1 ho (by omega) (eL_weekDay (10, .lastore, 1) (List.mem_of_getElem? (i := 7) rfl)) (fun H2 lo2 hh2 hq2 _ _ => ?_)
    have kp2 := kp1.trans (zk_setA (ms := [(42, 0)]) (by decide) ho rfl hq2)
    refine lv_goto hx hb (eL_weekDay (11, .goto 7, 3) (List.mem_of_getElem? (i := 8) rfl)) (tgt := 18) rfl ?_
    refine ff_iconst hx hb (eL_weekDay (18, .iconst 0, 1) (List.mem_of_getElem? (i := 12) rfl)) (by decide) (by decide) (fun v3 e3 => ?_)
    exact W.zret hx hb hr rfl (fun t ht hW => ⟨_, ro, rfl, fun _ _ h => h, by rw [ht]; exact hh2.l0, by rw [ht]; exact kp2⟩) hh2.2.2.1 (eL_weekDay (19, .ireturn, 1) (List.mem_of_getElem? (i := 13) rfl))
  · have hh1 : zh_ok D cA RTg ro sz H0 t.heap lo1 := ⟨g1.2.1.1, g1.2.1.2.1, g2, g1.2.1.2.2.2⟩
    have kp1 : zc_kept D RTg ro [(42, 0)] s.heap t.heap := by have g9 := g1.2.2; rw [g0] at g9; exact g9.mono (by decide)
    have hE := g1.1
    refine (List.mem_cons.mp hE).elim (fun g => ?_) (fun hE => ?_)
    · subst g
      refine vx_catch (own := RL) (name := "java/lang/IllegalArgumentException") hown [] ⟨0, 11, 14, 13⟩ [] (vx_table (x := yL_weekDay) B (h2 _ (tb_3 12 rfl rfl))) (fun z hz => by cases hz) rfl (by decide) (h2 _ (tb_2 103 rfl rfl)) (va_Nw.use rfl (hKa.1.2.2.2.2.1 (eI, eI) (List.mem_of_getElem? (i := 0) rfl))) g3 g4 g5 ?_
      refine lv_astore hx hb (eL_weekDay (14, .astore 5, 2) (List.mem_of_getElem? (i := 9) rfl)) hl (by decide) rfl (fun ls4 hl4 => ?_)
      refine ff_iconst hx hb (eL_weekDay (16, .iconst 1, 1) (List.mem_of_getElem? (i := 10) rfl)) (by decide) (by decide) (fun v5 e5 => ?_)
      exact W.zret hx hb hr rfl (fun t ht hW => ⟨_, ro, rfl, fun _ _ h => h, by rw [ht]; exact hh1.l0, by rw [ht]; exact kp1⟩) hh1.2.2.1 (eL_weekDay (17, .ireturn, 1) (List.mem_of_getElem? (i := 11) rfl))
    cases hE
def tL_months : List (Nat × Instr × Nat) := [(0, .aload 4, 2), (2, .iconst 0, 1), (3, .aload_n 0, 1), (4, .lload_n 1, 1), (5, .iload_n 3, 1), (6, .invokevirtual 22, 3), (9, .lastore, 1), (10, .goto 7, 3), (13, .astore 5, 2), (15, .iconst 1, 1), (16, .ireturn, 1), (17, .iconst 0, 1), (18, .ireturn, 1)]
set_option maxRecDepth 100000 in
theorem eL_months : ∀ x ∈ tL_months, decode cL_months x.1 = .ok x.2 := by decide +kernel
set_option maxRecDepth 100000 in
set_option maxHeartbeats 4000000 in
theorem wL_months (l : Launch) (hst : l.stackTraces = false) (D : va_G) (cA : Nat → ClassId) (ro : Nat → Option Nat) (sz : Nat) (H0 : Heap) (x : Nat) (p1 : Int64) (p2 : Int32) (o : Nat) (hx10 : ro x = some 10) (ho : ro o = some 42) : Met l yL_months (Cond.codeWith yL_months cL_months 6 (some .int) [(0, 10, 13, 13)] :: gT) { frames := 7, cells := 1, slots := 6, locals := 143 } (zw_Pc D cA ro sz H0 [.ref x, .long p1, .int p2, .ref o]) (zw_Qk D cA ro sz H0 [(42, 0)]) 1 6 (zy_fr sz) := by
  refine zw_ofW (cc := cL_months) (maxL := 6) (ret := some .int) (by decide +kernel) rfl ?_
  intro p e s m args below meth c s1 B hml hv
  obtain ⟨rfl, hh, hKa⟩ := hv
  have hx := B.exec
  have hb := B.bytes
  have hr := B.returns
  have hlk := B.notSynchronized
  have hts0 := atoms_spec (ws := Cond.codeWith yL_months cL_months 6 (some .int) [(0, 10, 13, 13)] :: gT) B.pre
  have h2 : ∀ w ∈ gT, w.before ([.ref x, .long p1, .int p2, .ref o] : List Value).toArray s = true := fun w hw => hts0 w (List.mem_cons_of_mem _ hw)
  have hown : s.vm.findClass RL = some m.cls := findClass_of_methodNamed B.named
  have hl := lv_entry [.ref x, .long p1, .int p2, .ref o] (n := 6) (Nat.le_of_ble_eq_true rfl)
  rw [lg_entry_eq]
  generalize (lg_sl [.ref x, .long p1, .int p2, .ref o] ++ List.replicate (6 - (lg_sl [.ref x, .long p1, .int p2, .ref o]).length) Slot.unset).toArray = ls at hl ⊢
  refine lv_aload hx hb (eL_months (0, .aload 4, 2) (List.mem_of_getElem? (i := 0) rfl)) (lv_at hl 3 rfl) ?_
  refine ff_iconst hx hb (eL_months (2, .iconst 0, 1) (List.mem_of_getElem? (i := 1) rfl)) (by decide) (by decide) (fun v1 e1 => ?_)
  refine lv_aload_n hx hb (eL_months (3, .aload_n 0, 1) (List.mem_of_getElem? (i := 2) rfl)) rfl (lv_at hl 0 rfl) ?_
  refine lv_lload_n hx hb (eL_months (4, .lload_n 1, 1) (List.mem_of_getElem? (i := 3) rfl)) rfl (lv_at hl 1 rfl) ?_
  refine lv_iload_n hx hb (eL_months (5, .iload_n 3, 1) (List.mem_of_getElem? (i := 4) rfl)) rfl (lv_at hl 2 rfl) ?_
  refine zx_rowG (As := [.long p1, .int p2]) (st := [.int v1, .ref o]) (b := x) (C := RX11) hx hb hml hown hts0 (mX11_months l hst D cA ro sz H0) ⟨rfl, rfl⟩ ⟨by decide, by decide⟩ ⟨by decide, by decide⟩ (tb_3 27 rfl rfl) (tb_1 1 rfl rfl) (tb_3 24 rfl rfl) (tb_3 25 rfl rfl) (tb_3 26 rfl rfl) rfl (show yX11_months.cls ≠ "java/lang/invoke/MethodHandle" ∧ yX11_months.cls ≠ "java/lang/invoke/VarHandle" ∧ (parseMethodDescriptor yX11_months.desc).map (fun d => d.parameters.length) = some 2 by decide +kernel) zx_blind (zw_ob hh hKa.1.1.1 hx10) (fun U hU hW => ⟨_, rfl, by rw [hU]; exact hh, ⟨⟨Or.inr ⟨x, rfl, hx10⟩, ⟨p1, rfl, (zn_i64 p1).1, (zn_i64 p1).2⟩, ⟨p2, rfl, (zn_i32 p2).1, (zn_i32 p2).2⟩, trivial⟩, fun e he => (by cases he), fun f hf => (by cases hf)⟩, hKa.1.warm hW⟩) (fun q hq => by cases hq) hl.1 (Nat.le_of_ble_eq_true rfl) (eL_months (6, .invokevirtual 22, 3) (List.mem_of_getElem? (i := 5) rfl)) (fun v s0 t lo1 g0 g1 g2 => ?_) (fun q s0 t lo1 E ce g0 g1 g3 g4 g5 g2 => ?_)
  · obtain ⟨vs9, x9, q1, q2, q3, q4, q5⟩ := g1
    cases q2
    obtain ⟨w9, rfl, y9, rfl, -, -⟩ := zc_one (t := (1, (-9223372036854775808), 9223372036854775807)) (L := []) q5
    have hh1 : zh_ok D cA RTg ro sz H0 t.heap lo1 := ⟨q3.1, q3.2.1, g2, q3.2.2.2⟩
    refine W.eq (g2 := F0 m 9 ls [.long y9, .int v1, .ref o]) rfl ?_
    have kp1 : zc_kept D RTg ro [(42, 0)] s.heap t.heap := by rw [g0] at q4; exact q4.mono (by decide)
    refine zw_out hx hb hh1 hKa.1.1.1 ho (by omega) (eL_months (9, .lastore, 1) (List.mem_of_getElem? (i := 6) rfl)) (fun H2 lo2 hh2 hq2 _ _ => ?_)
    have kp2 := kp1.trans (zk_setA (ms := [(42, 0)]) (by decide) ho rfl hq2)
    refine lv_goto hx hb (eL_months (10, .goto 7, 3) (List.mem_of_getElem? (i := 7) rfl)) (tgt := 17) rfl ?_
    refine ff_iconst hx hb (eL_months (17, .iconst 0, 1) (List.mem_of_getElem? (i := 11) rfl)) (by decide) (by decide) (fun v3 e3 => ?_)
    exact W.zret hx hb hr rfl (fun t ht hW => ⟨_, ro, rfl, fun _ _ h => h, by rw [ht]; exact hh2.l0, by rw [ht]; exact kp2⟩) hh2.2.2.1 (eL_months (18, .ireturn, 1) (List.mem_of_getElem? (i := 12) rfl))
  · have hh1 : zh_ok D cA RTg ro sz H0 t.heap lo1 := ⟨g1.2.1.1, g1.2.1.2.1, g2, g1.2.1.2.2.2⟩
    have kp1 : zc_kept D RTg ro [(42, 0)] s.heap t.heap := by have g9 := g1.2.2; rw [g0] at g9; exact g9.mono (by decide)
    have hE := g1.1
    refine (List.mem_cons.mp hE).elim (fun g => ?_) (fun hE => ?_)
    · subst g
      refine vx_catch (own := RL) (name := "java/lang/IllegalArgumentException") hown [] ⟨0, 10, 13, 13⟩ [] (vx_table (x := yL_months) B (h2 _ (tb_3 23 rfl rfl))) (fun z hz => by cases hz) rfl (by decide) (h2 _ (tb_2 103 rfl rfl)) (va_Nw.use rfl (hKa.1.2.2.2.2.1 (eI, eI) (List.mem_of_getElem? (i := 0) rfl))) g3 g4 g5 ?_
      refine lv_astore hx hb (eL_months (13, .astore 5, 2) (List.mem_of_getElem? (i := 8) rfl)) hl (by decide) rfl (fun ls4 hl4 => ?_)
      refine ff_iconst hx hb (eL_months (15, .iconst 1, 1) (List.mem_of_getElem? (i := 9) rfl)) (by decide) (by decide) (fun v5 e5 => ?_)
      exact W.zret hx hb hr rfl (fun t ht hW => ⟨_, ro, rfl, fun _ _ h => h, by rw [ht]; exact hh1.l0, by rw [ht]; exact kp1⟩) hh1.2.2.1 (eL_months (16, .ireturn, 1) (List.mem_of_getElem? (i := 10) rfl))
    cases hE
def tL_easter : List (Nat × Instr × Nat) := [(0, .aload_n 2, 1), (1, .iconst 0, 1), (2, .aload_n 0, 1), (3, .iload_n 1, 1), (4, .invokevirtual 26, 3), (7, .lastore, 1), (8, .goto 6, 3), (11, .astore_n 3, 1), (12, .iconst 1, 1), (13, .ireturn, 1), (14, .iconst 0, 1), (15, .ireturn, 1)]
set_option maxRecDepth 100000 in
theorem eL_easter : ∀ x ∈ tL_easter, decode cL_easter x.1 = .ok x.2 := by decide +kernel
set_option maxRecDepth 100000 in
set_option maxHeartbeats 4000000 in
theorem wL_easter (l : Launch) (hst : l.stackTraces = false) (D : va_G) (cA : Nat → ClassId) (ro : Nat → Option Nat) (sz : Nat) (H0 : Heap) (x : Nat) (p1 : Int32) (o : Nat) (hx10 : ro x = some 10) (ho : ro o = some 42) : Met l yL_easter (Cond.codeWith yL_easter cL_easter 4 (some .int) [(0, 8, 11, 13)] :: gT) { frames := 7, cells := 1, slots := 6, locals := 103 } (zw_Pc D cA ro sz H0 [.ref x, .int p1, .ref o]) (zw_Qk D cA ro sz H0 [(42, 0)]) 1 6 (zy_fr sz) := by
  refine zw_ofW (cc := cL_easter) (maxL := 4) (ret := some .int) (by decide +kernel) rfl ?_
  intro p e s m args below meth c s1 B hml hv
  obtain ⟨rfl, hh, hKa⟩ := hv
  have hx := B.exec
  have hb := B.bytes
  have hr := B.returns
  have hlk := B.notSynchronized
  have hts0 := atoms_spec (ws := Cond.codeWith yL_easter cL_easter 4 (some .int) [(0, 8, 11, 13)] :: gT) B.pre
  have h2 : ∀ w ∈ gT, w.before ([.ref x, .int p1, .ref o] : List Value).toArray s = true := fun w hw => hts0 w (List.mem_cons_of_mem _ hw)
  have hown : s.vm.findClass RL = some m.cls := findClass_of_methodNamed B.named
  have hl := lv_entry [.ref x, .int p1, .ref o] (n := 4) (Nat.le_of_ble_eq_true rfl)
  rw [lg_entry_eq]
  generalize (lg_sl [.ref x, .int p1, .ref o] ++ List.replicate (4 - (lg_sl [.ref x, .int p1, .ref o]).length) Slot.unset).toArray = ls at hl ⊢
  refine lv_aload_n hx hb (eL_easter (0, .aload_n 2, 1) (List.mem_of_getElem? (i := 0) rfl)) rfl (lv_at hl 2 rfl) ?_
  refine ff_iconst hx hb (eL_easter (1, .iconst 0, 1) (List.mem_of_getElem? (i := 1) rfl)) (by decide) (by decide) (fun v1 e1 => ?_)
  refine lv_aload_n hx hb (eL_easter (2, .aload_n 0, 1) (List.mem_of_getElem? (i := 2) rfl)) rfl (lv_at hl 0 rfl) ?_
  refine lv_iload_n hx hb (eL_easter (3, .iload_n 1, 1) (List.mem_of_getElem? (i := 3) rfl)) rfl (lv_at hl 1 rfl) ?_
  refine zx_rowG (As := [.int p1]) (st := [.int v1, .ref o]) (b := x) (C := RX11) hx hb hml hown hts0 (mX11_easter l hst D cA ro sz H0) ⟨rfl, rfl⟩ ⟨by decide, by decide⟩ ⟨by decide, by decide⟩ (tb_3 56 rfl rfl) (tb_1 1 rfl rfl) (tb_3 53 rfl rfl) (tb_3 54 rfl rfl) (tb_3 55 rfl rfl) rfl (show yX11_easter.cls ≠ "java/lang/invoke/MethodHandle" ∧ yX11_easter.cls ≠ "java/lang/invoke/VarHandle" ∧ (parseMethodDescriptor yX11_easter.desc).map (fun d => d.parameters.length) = some 1 by decide +kernel) zx_blind (zw_ob hh hKa.1.1.1 hx10) (fun U hU hW => ⟨_, rfl, by rw [hU]; exact hh, ⟨⟨Or.inr ⟨x, rfl, hx10⟩, ⟨p1, rfl, (zn_i32 p1).1, (zn_i32 p1).2⟩, trivial⟩, fun e he => (by cases he), fun f hf => (by cases hf)⟩, hKa.1.warm hW⟩) (fun q hq => by cases hq) hl.1 (Nat.le_of_ble_eq_true rfl) (eL_easter (4, .invokevirtual 26, 3) (List.mem_of_getElem? (i := 4) rfl)) (fun v s0 t lo1 g0 g1 g2 => ?_) (fun q s0 t lo1 E ce g0 g1 g3 g4 g5 g2 => ?_)
  · obtain ⟨vs9, x9, q1, q2, q3, q4, q5⟩ := g1
    cases q2
    obtain ⟨w9, rfl, y9, rfl, -, -⟩ := zc_one (t := (1, (-9223372036854775808), 9223372036854775807)) (L := []) q5
    have hh1 : zh_ok D cA RTg ro sz H0 t.heap lo1 := ⟨q3.1, q3.2.1, g2, q3.2.2.2⟩
    refine W.eq (g2 := F0 m 7 ls [.long y9, .int v1, .ref o]) rfl ?_
    have kp1 : zc_kept D RTg ro [(42, 0)] s.heap t.heap := by rw [g0] at q4; exact q4.mono (by decide)
    refine zw_out hx hb hh1 hKa.1.1.1 ho (by omega) (eL_easter (7, .lastore, 1) (List.mem_of_getElem? (i := 5) rfl)) (fun H2 lo2 hh2 hq2 _ _ => ?_)
    have kp2 := kp1.trans (zk_setA (ms := [(42, 0)]) (by decide) ho rfl hq2)
    refine lv_goto hx hb (eL_easter (8, .goto 6, 3) (List.mem_of_getElem? (i := 6) rfl)) (tgt := 14) rfl ?_
    refine ff_iconst hx hb (eL_easter (14, .iconst 0, 1) (List.mem_of_getElem? (i := 10) rfl)) (by decide) (by decide) (fun v3 e3 => ?_)
    exact W.zret hx hb hr rfl (fun t ht hW => ⟨_, ro, rfl, fun _ _ h => h, by rw [ht]; exact hh2.l0, by rw [ht]; exact kp2⟩) hh2.2.2.1 (eL_easter (15, .ireturn, 1) (List.mem_of_getElem? (i := 11) rfl))
  · have hh1 : zh_ok D cA RTg ro sz H0 t.heap lo1 := ⟨g1.2.1.1, g1.2.1.2.1, g2, g1.2.1.2.2.2⟩
    have kp1 : zc_kept D RTg ro [(42, 0)] s.heap t.heap := by have g9 := g1.2.2; rw [g0] at g9; exact g9.mono (by decide)
    have hE := g1.1
    refine (List.mem_cons.mp hE).elim (fun g => ?_) (fun hE => ?_)
    · subst g
      refine vx_catch (own := RL) (name := "java/lang/IllegalArgumentException") hown [] ⟨0, 8, 11, 13⟩ [] (vx_table (x := yL_easter) B (h2 _ (tb_3 52 rfl rfl))) (fun z hz => by cases hz) rfl (by decide) (h2 _ (tb_2 103 rfl rfl)) (va_Nw.use rfl (hKa.1.2.2.2.2.1 (eI, eI) (List.mem_of_getElem? (i := 0) rfl))) g3 g4 g5 ?_
      refine lv_astore_n hx hb (eL_easter (11, .astore_n 3, 1) (List.mem_of_getElem? (i := 7) rfl)) rfl hl (by decide) rfl (fun ls4 hl4 => ?_)
      refine ff_iconst hx hb (eL_easter (12, .iconst 1, 1) (List.mem_of_getElem? (i := 8) rfl)) (by decide) (by decide) (fun v5 e5 => ?_)
      exact W.zret hx hb hr rfl (fun t ht hW => ⟨_, ro, rfl, fun _ _ h => h, by rw [ht]; exact hh1.l0, by rw [ht]; exact kp1⟩) hh1.2.2.1 (eL_easter (13, .ireturn, 1) (List.mem_of_getElem? (i := 9) rfl))
    cases hE
def tL_leap : List (Nat × Instr × Nat) := [(0, .aload_n 3, 1), (1, .iconst 0, 1), (2, .aload_n 0, 1), (3, .lload_n 1, 1), (4, .invokevirtual 30, 3), (7, .i2l, 1), (8, .lastore, 1), (9, .goto 11, 3), (12, .astore 4, 2), (14, .iconst 1, 1), (15, .ireturn, 1), (16, .astore 4, 2), (18, .iconst 2, 1), (19, .ireturn, 1), (20, .iconst 0, 1), (21, .ireturn, 1)]
set_option maxRecDepth 100000 in
theorem eL_leap : ∀ x ∈ tL_leap, decode cL_leap x.1 = .ok x.2 := by decide +kernel
set_option maxRecDepth 100000 in
set_option maxHeartbeats 4000000 in
theorem wL_leap (l : Launch) (hst : l.stackTraces = false) (D : va_G) (cA : Nat → ClassId) (ro : Nat → Option Nat) (sz : Nat) (H0 : Heap) (x : Nat) (p1 : Int64) (o : Nat) (hx10 : ro x = some 10) (ho : ro o = some 42) : Met l yL_leap (Cond.codeWith yL_leap cL_leap 5 (some .int) [(0, 9, 12, 13), (0, 9, 16, 34)] :: gT) { frames := 7, cells := 1, slots := 6, locals := 104 } (zw_Pc D cA ro sz H0 [.ref x, .long p1, .ref o]) (zw_Qk D cA ro sz H0 [(4, 1), (13, 0), (42, 0)]) 1 6 (zy_fr sz) := by
  refine zw_ofW (cc := cL_leap) (maxL := 5) (ret := some .int) (by decide +kernel) rfl ?_
  intro p e s m args below meth c s1 B hml hv
  obtain ⟨rfl, hh, hKa⟩ := hv
  have hx := B.exec
  have hb := B.bytes
  have hr := B.returns
  have hlk := B.notSynchronized
  have hts0 := atoms_spec (ws := Cond.codeWith yL_leap cL_leap 5 (some .int) [(0, 9, 12, 13), (0, 9, 16, 34)] :: gT) B.pre
  have h2 : ∀ w ∈ gT, w.before ([.ref x, .long p1, .ref o] : List Value).toArray s = true := fun w hw => hts0 w (List.mem_cons_of_mem _ hw)
  have hown : s.vm.findClass RL = some m.cls := findClass_of_methodNamed B.named
  have hl := lv_entry [.ref x, .long p1, .ref o] (n := 5) (Nat.le_of_ble_eq_true rfl)
  rw [lg_entry_eq]
  generalize (lg_sl [.ref x, .long p1, .ref o] ++ List.replicate (5 - (lg_sl [.ref x, .long p1, .ref o]).length) Slot.unset).toArray = ls at hl ⊢
  refine lv_aload_n hx hb (eL_leap (0, .aload_n 3, 1) (List.mem_of_getElem? (i := 0) rfl)) rfl (lv_at hl 2 rfl) ?_
  refine ff_iconst hx hb (eL_leap (1, .iconst 0, 1) (List.mem_of_getElem? (i := 1) rfl)) (by decide) (by decide) (fun v1 e1 => ?_)
  refine lv_aload_n hx hb (eL_leap (2, .aload_n 0, 1) (List.mem_of_getElem? (i := 2) rfl)) rfl (lv_at hl 0 rfl) ?_
  refine lv_lload_n hx hb (eL_leap (3, .lload_n 1, 1) (List.mem_of_getElem? (i := 3) rfl)) rfl (lv_at hl 1 rfl) ?_
  refine zx_rowG (As := [.long p1]) (st := [.int v1, .ref o]) (b := x) (C := RX11) hx hb hml hown hts0 (mX11_leap l hst D cA ro sz H0) ⟨rfl, rfl⟩ ⟨by decide, by decide⟩ ⟨by decide, by decide⟩ (tb_3 69 rfl rfl) (tb_1 1 rfl rfl) (tb_3 66 rfl rfl) (tb_3 67 rfl rfl) (tb_3 68 rfl rfl) rfl (show yX11_leap.cls ≠ "java/lang/invoke/MethodHandle" ∧ yX11_leap.cls ≠ "java/lang/invoke/VarHandle" ∧ (parseMethodDescriptor yX11_leap.desc).map (fun d => d.parameters.length) = some 1 by decide +kernel) zx_blind (zw_ob hh hKa.1.1.1 hx10) (fun U hU hW => ⟨_, rfl, by rw [hU]; exact hh, ⟨⟨Or.inr ⟨x, rfl, hx10⟩, ⟨p1, rfl, (zn_i64 p1).1, (zn_i64 p1).2⟩, trivial⟩, fun e he => (by cases he), fun f hf => (by cases hf)⟩, hKa.1.warm hW⟩) (fun q hq => by cases hq) hl.1 (Nat.le_of_ble_eq_true rfl) (eL_leap (4, .invokevirtual 30, 3) (List.mem_of_getElem? (i := 4) rfl)) (fun v s0 t lo1 g0 g1 g2 => ?_) (fun q s0 t lo1 E ce g0 g1 g3 g4 g5 g2 => ?_)
  · obtain ⟨vs9, x9, q1, q2, q3, q4, q5⟩ := g1
    cases q2
    obtain ⟨w9, rfl, y9, rfl, -, -⟩ := zc_one (t := (0, (-2147483648), 2147483647)) (L := []) q5
    have hh1 : zh_ok D cA RTg ro sz H0 t.heap lo1 := ⟨q3.1, q3.2.1, g2, q3.2.2.2⟩
    refine W.eq (g2 := F0 m 7 ls [.int y9, .int v1, .ref o]) rfl ?_
    have kp1 : zc_kept D RTg ro [(4, 1), (13, 0), (42, 0)] s.heap t.heap := by rw [g0] at q4; exact q4.mono (by decide)
    refine ff_i2l hx hb (eL_leap (7, .i2l, 1) (List.mem_of_getElem? (i := 5) rfl)) (fun v2 e2 => ?_)
    refine zw_out hx hb hh1 hKa.1.1.1 ho (by omega) (eL_leap (8, .lastore, 1) (List.mem_of_getElem? (i := 6) rfl)) (fun H3 lo3 hh3 hq3 _ _ => ?_)
    have kp3 := kp1.trans (zk_setA (ms := [(4, 1), (13, 0), (42, 0)]) (by decide) ho rfl hq3)
    refine lv_goto hx hb (eL_leap (9, .goto 11, 3) (List.mem_of_getElem? (i := 7) rfl)) (tgt := 20) rfl ?_
    refine ff_iconst hx hb (eL_leap (20, .iconst 0, 1) (List.mem_of_getElem? (i := 14) rfl)) (by decide) (by decide) (fun v4 e4 => ?_)
    exact W.zret hx hb hr rfl (fun t ht hW => ⟨_, ro, rfl, fun _ _ h => h, by rw [ht]; exact hh3.l0, by rw [ht]; exact kp3⟩) hh3.2.2.1 (eL_leap (21, .ireturn, 1) (List.mem_of_getElem? (i := 15) rfl))
  · have hh1 : zh_ok D cA RTg ro sz H0 t.heap lo1 := ⟨g1.2.1.1, g1.2.1.2.1, g2, g1.2.1.2.2.2⟩
    have kp1 : zc_kept D RTg ro [(4, 1), (13, 0), (42, 0)] s.heap t.heap := by have g9 := g1.2.2; rw [g0] at g9; exact g9.mono (by decide)
    have hE := g1.1
    refine (List.mem_cons.mp hE).elim (fun g => ?_) (fun hE => ?_)
    · subst g
      refine vx_catch (own := RL) (name := "java/lang/IllegalArgumentException") hown [] ⟨0, 9, 12, 13⟩ [⟨0, 9, 16, 34⟩] (vx_table (x := yL_leap) B (h2 _ (tb_3 64 rfl rfl))) (fun z hz => by cases hz) rfl (by decide) (h2 _ (tb_2 103 rfl rfl)) (va_Nw.use rfl (hKa.1.2.2.2.2.1 (eI, eI) (List.mem_of_getElem? (i := 0) rfl))) g3 g4 g5 ?_
      refine lv_astore hx hb (eL_leap (12, .astore 4, 2) (List.mem_of_getElem? (i := 8) rfl)) hl (by decide) rfl (fun ls5 hl5 => ?_)
      refine ff_iconst hx hb (eL_leap (14, .iconst 1, 1) (List.mem_of_getElem? (i := 9) rfl)) (by decide) (by decide) (fun v6 e6 => ?_)
      exact W.zret hx hb hr rfl (fun t ht hW => ⟨_, ro, rfl, fun _ _ h => h, by rw [ht]; exact hh1.l0, by rw [ht]; exact kp1⟩) hh1.2.2.1 (eL_leap (15, .ireturn, 1) (List.mem_of_getElem? (i := 10) rfl))
    refine (List.mem_cons.mp hE).elim (fun g => ?_) (fun hE => ?_)
    · subst g
      refine vx_catch (own := RL) (name := "java/lang/UnsupportedOperationException") hown [⟨0, 9, 12, 13⟩] ⟨0, 9, 16, 34⟩ [] (vx_table (x := yL_leap) B (h2 _ (tb_3 64 rfl rfl))) (fun z hz => by cases List.mem_singleton.mp hz; exact Or.inr ⟨by decide, eI, h2 _ (tb_2 103 rfl rfl), hKa.1.2.2.2.2.2.2⟩) rfl (by decide) (h2 _ (tb_3 65 rfl rfl)) (va_Nw.use rfl (hKa.1.2.2.2.2.1 (eU, eU) (List.mem_of_getElem? (i := 1) rfl))) g3 g4 g5 ?_
      refine lv_astore hx hb (eL_leap (16, .astore 4, 2) (List.mem_of_getElem? (i := 11) rfl)) hl (by decide) rfl (fun ls7 hl7 => ?_)
      refine ff_iconst hx hb (eL_leap (18, .iconst 2, 1) (List.mem_of_getElem? (i := 12) rfl)) (by decide) (by decide) (fun v8 e8 => ?_)
      exact W.zret hx hb hr rfl (fun t ht hW => ⟨_, ro, rfl, fun _ _ h => h, by rw [ht]; exact hh1.l0, by rw [ht]; exact kp1⟩) hh1.2.2.1 (eL_leap (19, .ireturn, 1) (List.mem_of_getElem? (i := 13) rfl))
    cases hE
def tL_instant : List (Nat × Instr × Nat) := [(0, .aload 4, 2), (2, .iconst 0, 1), (3, .aload_n 0, 1), (4, .lload_n 1, 1), (5, .iload_n 3, 1), (6, .invokevirtual 36, 3), (9, .lastore, 1), (10, .goto 7, 3), (13, .astore 5, 2), (15, .iconst 1, 1), (16, .ireturn, 1), (17, .iconst 0, 1), (18, .ireturn, 1)]
set_option maxRecDepth 100000 in
theorem eL_instant : ∀ x ∈ tL_instant, decode cL_instant x.1 = .ok x.2 := by decide +kernel
set_option maxRecDepth 100000 in
set_option maxHeartbeats 4000000 in
theorem wL_instant (l : Launch) (hst : l.stackTraces = false) (D : va_G) (cA : Nat → ClassId) (ro : Nat → Option Nat) (sz : Nat) (H0 : Heap) (x : Nat) (p1 : Int64) (p2 : Int32) (o : Nat) (hx10 : ro x = some 10) (ho : ro o = some 42) : Met l yL_instant (Cond.codeWith yL_instant cL_instant 6 (some .int) [(0, 10, 13, 13)] :: gT) { frames := 7, cells := 1, slots := 6, locals := 105 } (zw_Pc D cA ro sz H0 [.ref x, .long p1, .int p2, .ref o]) (zw_Qk D cA ro sz H0 [(42, 0)]) 1 6 (zy_fr sz) := by
  refine zw_ofW (cc := cL_instant) (maxL := 6) (ret := some .int) (by decide +kernel) rfl ?_
  intro p e s m args below meth c s1 B hml hv
  obtain ⟨rfl, hh, hKa⟩ := hv
  have hx := B.exec
  have hb := B.bytes
  have hr := B.returns
  have hlk := B.notSynchronized
  have hts0 := atoms_spec (ws := Cond.codeWith yL_instant cL_instant 6 (some .int) [(0, 10, 13, 13)] :: gT) B.pre
  have h2 : ∀ w ∈ gT, w.before ([.ref x, .long p1, .int p2, .ref o] : List Value).toArray s = true := fun w hw => hts0 w (List.mem_cons_of_mem _ hw)
  have hown : s.vm.findClass RL = some m.cls := findClass_of_methodNamed B.named
  have hl := lv_entry [.ref x, .long p1, .int p2, .ref o] (n := 6) (Nat.le_of_ble_eq_true rfl)
  rw [lg_entry_eq]
  generalize (lg_sl [.ref x, .long p1, .int p2, .ref o] ++ List.replicate (6 - (lg_sl [.ref x, .long p1, .int p2, .ref o]).length) Slot.unset).toArray = ls at hl ⊢
  refine lv_aload hx hb (eL_instant (0, .aload 4, 2) (List.mem_of_getElem? (i := 0) rfl)) (lv_at hl 3 rfl) ?_
  refine ff_iconst hx hb (eL_instant (2, .iconst 0, 1) (List.mem_of_getElem? (i := 1) rfl)) (by decide) (by decide) (fun v1 e1 => ?_)
  refine lv_aload_n hx hb (eL_instant (3, .aload_n 0, 1) (List.mem_of_getElem? (i := 2) rfl)) rfl (lv_at hl 0 rfl) ?_
  refine lv_lload_n hx hb (eL_instant (4, .lload_n 1, 1) (List.mem_of_getElem? (i := 3) rfl)) rfl (lv_at hl 1 rfl) ?_
  refine lv_iload_n hx hb (eL_instant (5, .iload_n 3, 1) (List.mem_of_getElem? (i := 4) rfl)) rfl (lv_at hl 2 rfl) ?_
  refine zx_rowG (As := [.long p1, .int p2]) (st := [.int v1, .ref o]) (b := x) (C := RX11) hx hb hml hown hts0 (mX11_instant l hst D cA ro sz H0) ⟨rfl, rfl⟩ ⟨by decide, by decide⟩ ⟨by decide, by decide⟩ (tb_3 105 rfl rfl) (tb_1 1 rfl rfl) (tb_3 102 rfl rfl) (tb_3 103 rfl rfl) (tb_3 104 rfl rfl) rfl (show yX11_instant.cls ≠ "java/lang/invoke/MethodHandle" ∧ yX11_instant.cls ≠ "java/lang/invoke/VarHandle" ∧ (parseMethodDescriptor yX11_instant.desc).map (fun d => d.parameters.length) = some 2 by decide +kernel) zx_blind (zw_ob hh hKa.1.1.1 hx10) (fun U hU hW => ⟨_, rfl, by rw [hU]; exact hh, ⟨⟨Or.inr ⟨x, rfl, hx10⟩, ⟨p1, rfl, (zn_i64 p1).1, (zn_i64 p1).2⟩, ⟨p2, rfl, (zn_i32 p2).1, (zn_i32 p2).2⟩, trivial⟩, fun e he => (by cases he), fun f hf => (by cases hf)⟩, hKa.1.warm hW⟩) (fun q hq => by cases hq) hl.1 (Nat.le_of_ble_eq_true rfl) (eL_instant (6, .invokevirtual 36, 3) (List.mem_of_getElem? (i := 5) rfl)) (fun v s0 t lo1 g0 g1 g2 => ?_) (fun q s0 t lo1 E ce g0 g1 g3 g4 g5 g2 => ?_)
  · obtain ⟨vs9, x9, q1, q2, q3, q4, q5⟩ := g1
    cases q2
    obtain ⟨w9, rfl, y9, rfl, -, -⟩ := zc_one (t := (1, (-9223372036854775808), 9223372036854775807)) (L := []) q5
    have hh1 : zh_ok D cA RTg ro sz H0 t.heap lo1 := ⟨q3.1, q3.2.1, g2, q3.2.2.2⟩
    refine W.eq (g2 := F0 m 9 ls [.long y9, .int v1, .ref o]) rfl ?_
    have kp1 : zc_kept D RTg ro [(42, 0)] s.heap t.heap := by rw [g0] at q4; exact q4.mono (by decide)
    refine zw_out hx hb hh1 hKa.1.1.1 ho (by omega) (eL_instant (9, .lastore, 1) (List.mem_of_getElem? (i := 6) rfl)) (fun H2 lo2 hh2 hq2 _ _ => ?_)
    have kp2 := kp1.trans (zk_setA (ms := [(42, 0)]) (by decide) ho rfl hq2)
    refine lv_goto hx hb (eL_instant (10, .goto 7, 3) (List.mem_of_getElem? (i := 7) rfl)) (tgt := 17) rfl ?_
    refine ff_iconst hx hb (eL_instant (17, .iconst 0, 1) (List.mem_of_getElem? (i := 11) rfl)) (by decide) (by decide) (fun v3 e3 => ?_)
    exact W.zret hx hb hr rfl (fun t ht hW => ⟨_, ro, rfl, fun _ _ h => h, by rw [ht]; exact hh2.l0, by rw [ht]; exact kp2⟩) hh2.2.2.1 (eL_instant (18, .ireturn, 1) (List.mem_of_getElem? (i := 12) rfl))
  · have hh1 : zh_ok D cA RTg ro sz H0 t.heap lo1 := ⟨g1.2.1.1, g1.2.1.2.1, g2, g1.2.1.2.2.2⟩
    have kp1 : zc_kept D RTg ro [(42, 0)] s.heap t.heap := by have g9 := g1.2.2; rw [g0] at g9; exact g9.mono (by decide)
    have hE := g1.1
    refine (List.mem_cons.mp hE).elim (fun g => ?_) (fun hE => ?_)
    · subst g
      refine vx_catch (own := RL) (name := "java/lang/IllegalArgumentException") hown [] ⟨0, 10, 13, 13⟩ [] (vx_table (x := yL_instant) B (h2 _ (tb_3 101 rfl rfl))) (fun z hz => by cases hz) rfl (by decide) (h2 _ (tb_2 103 rfl rfl)) (va_Nw.use rfl (hKa.1.2.2.2.2.1 (eI, eI) (List.mem_of_getElem? (i := 0) rfl))) g3 g4 g5 ?_
      refine lv_astore hx hb (eL_instant (13, .astore 5, 2) (List.mem_of_getElem? (i := 8) rfl)) hl (by decide) rfl (fun ls4 hl4 => ?_)
      refine ff_iconst hx hb (eL_instant (15, .iconst 1, 1) (List.mem_of_getElem? (i := 9) rfl)) (by decide) (by decide) (fun v5 e5 => ?_)
      exact W.zret hx hb hr rfl (fun t ht hW => ⟨_, ro, rfl, fun _ _ h => h, by rw [ht]; exact hh1.l0, by rw [ht]; exact kp1⟩) hh1.2.2.1 (eL_instant (16, .ireturn, 1) (List.mem_of_getElem? (i := 10) rfl))
    cases hE
def tL_reading : List (Nat × Instr × Nat) := [(0, .aload 4, 2), (2, .iconst 0, 1), (3, .aload_n 0, 1), (4, .lload_n 1, 1), (5, .iload_n 3, 1), (6, .invokevirtual 39, 3), (9, .lastore, 1), (10, .goto 7, 3), (13, .astore 5, 2), (15, .iconst 1, 1), (16, .ireturn, 1), (17, .iconst 0, 1), (18, .ireturn, 1)]
set_option maxRecDepth 100000 in
theorem eL_reading : ∀ x ∈ tL_reading, decode cL_reading x.1 = .ok x.2 := by decide +kernel
set_option maxRecDepth 100000 in
set_option maxHeartbeats 4000000 in
theorem wL_reading (l : Launch) (hst : l.stackTraces = false) (D : va_G) (cA : Nat → ClassId) (ro : Nat → Option Nat) (sz : Nat) (H0 : Heap) (x : Nat) (p1 : Int64) (p2 : Int32) (o : Nat) (hx10 : ro x = some 10) (ho : ro o = some 42) : Met l yL_reading (Cond.codeWith yL_reading cL_reading 6 (some .int) [(0, 10, 13, 13)] :: gT) { frames := 7, cells := 1, slots := 6, locals := 115 } (zw_Pc D cA ro sz H0 [.ref x, .long p1, .int p2, .ref o]) (zw_Qk D cA ro sz H0 [(42, 0)]) 1 6 (zy_fr sz) := by
  refine zw_ofW (cc := cL_reading) (maxL := 6) (ret := some .int) (by decide +kernel) rfl ?_
  intro p e s m args below meth c s1 B hml hv
  obtain ⟨rfl, hh, hKa⟩ := hv
  have hx := B.exec
  have hb := B.bytes
  have hr := B.returns
  have hlk := B.notSynchronized
  have hts0 := atoms_spec (ws := Cond.codeWith yL_reading cL_reading 6 (some .int) [(0, 10, 13, 13)] :: gT) B.pre
  have h2 : ∀ w ∈ gT, w.before ([.ref x, .long p1, .int p2, .ref o] : List Value).toArray s = true := fun w hw => hts0 w (List.mem_cons_of_mem _ hw)
  have hown : s.vm.findClass RL = some m.cls := findClass_of_methodNamed B.named
  have hl := lv_entry [.ref x, .long p1, .int p2, .ref o] (n := 6) (Nat.le_of_ble_eq_true rfl)
  rw [lg_entry_eq]
  generalize (lg_sl [.ref x, .long p1, .int p2, .ref o] ++ List.replicate (6 - (lg_sl [.ref x, .long p1, .int p2, .ref o]).length) Slot.unset).toArray = ls at hl ⊢
  refine lv_aload hx hb (eL_reading (0, .aload 4, 2) (List.mem_of_getElem? (i := 0) rfl)) (lv_at hl 3 rfl) ?_
  refine ff_iconst hx hb (eL_reading (2, .iconst 0, 1) (List.mem_of_getElem? (i := 1) rfl)) (by decide) (by decide) (fun v1 e1 => ?_)
  refine lv_aload_n hx hb (eL_reading (3, .aload_n 0, 1) (List.mem_of_getElem? (i := 2) rfl)) rfl (lv_at hl 0 rfl) ?_
  refine lv_lload_n hx hb (eL_reading (4, .lload_n 1, 1) (List.mem_of_getElem? (i := 3) rfl)) rfl (lv_at hl 1 rfl) ?_
  refine lv_iload_n hx hb (eL_reading (5, .iload_n 3, 1) (List.mem_of_getElem? (i := 4) rfl)) rfl (lv_at hl 2 rfl) ?_
  refine zx_rowG (As := [.long p1, .int p2]) (st := [.int v1, .ref o]) (b := x) (C := RX11) hx hb hml hown hts0 (mX11_reading l hst D cA ro sz H0) ⟨rfl, rfl⟩ ⟨by decide, by decide⟩ ⟨by decide, by decide⟩ (tb_3 135 rfl rfl) (tb_1 1 rfl rfl) (tb_3 132 rfl rfl) (tb_3 133 rfl rfl) (tb_3 134 rfl rfl) rfl (show yX11_reading.cls ≠ "java/lang/invoke/MethodHandle" ∧ yX11_reading.cls ≠ "java/lang/invoke/VarHandle" ∧ (parseMethodDescriptor yX11_reading.desc).map (fun d => d.parameters.length) = some 2 by decide +kernel) zx_blind (zw_ob hh hKa.1.1.1 hx10) (fun U hU hW => ⟨_, rfl, by rw [hU]; exact hh, ⟨⟨Or.inr ⟨x, rfl, hx10⟩, ⟨p1, rfl, (zn_i64 p1).1, (zn_i64 p1).2⟩, ⟨p2, rfl, (zn_i32 p2).1, (zn_i32 p2).2⟩, trivial⟩, fun e he => (by cases he), fun f hf => (by cases hf)⟩, hKa.1.warm hW⟩) (fun q hq => by cases hq) hl.1 (Nat.le_of_ble_eq_true rfl) (eL_reading (6, .invokevirtual 39, 3) (List.mem_of_getElem? (i := 5) rfl)) (fun v s0 t lo1 g0 g1 g2 => ?_) (fun q s0 t lo1 E ce g0 g1 g3 g4 g5 g2 => ?_)
  · obtain ⟨vs9, x9, q1, q2, q3, q4, q5⟩ := g1
    cases q2
    obtain ⟨w9, rfl, y9, rfl, -, -⟩ := zc_one (t := (1, (-9223372036854775808), 9223372036854775807)) (L := []) q5
    have hh1 : zh_ok D cA RTg ro sz H0 t.heap lo1 := ⟨q3.1, q3.2.1, g2, q3.2.2.2⟩
    refine W.eq (g2 := F0 m 9 ls [.long y9, .int v1, .ref o]) rfl ?_
    have kp1 : zc_kept D RTg ro [(42, 0)] s.heap t.heap := by rw [g0] at q4; exact q4.mono (by decide)
    refine zw_out hx hb hh1 hKa.1.1.1 ho (by omega) (eL_reading (9, .lastore, 1) (List.mem_of_getElem? (i := 6) rfl)) (fun H2 lo2 hh2 hq2 _ _ => ?_)
    have kp2 := kp1.trans (zk_setA (ms := [(42, 0)]) (by decide) ho rfl hq2)
    refine lv_goto hx hb (eL_reading (10, .goto 7, 3) (List.mem_of_getElem? (i := 7) rfl)) (tgt := 17) rfl ?_
    refine ff_iconst hx hb (eL_reading (17, .iconst 0, 1) (List.mem_of_getElem? (i := 11) rfl)) (by decide) (by decide) (fun v3 e3 => ?_)
    exact W.zret hx hb hr rfl (fun t ht hW => ⟨_, ro, rfl, fun _ _ h => h, by rw [ht]; exact hh2.l0, by rw [ht]; exact kp2⟩) hh2.2.2.1 (eL_reading (18, .ireturn, 1) (List.mem_of_getElem? (i := 12) rfl))
  · have hh1 : zh_ok D cA RTg ro sz H0 t.heap lo1 := ⟨g1.2.1.1, g1.2.1.2.1, g2, g1.2.1.2.2.2⟩
    have kp1 : zc_kept D RTg ro [(42, 0)] s.heap t.heap := by have g9 := g1.2.2; rw [g0] at g9; exact g9.mono (by decide)
    have hE := g1.1
    refine (List.mem_cons.mp hE).elim (fun g => ?_) (fun hE => ?_)
    · subst g
      refine vx_catch (own := RL) (name := "java/lang/IllegalArgumentException") hown [] ⟨0, 10, 13, 13⟩ [] (vx_table (x := yL_reading) B (h2 _ (tb_3 131 rfl rfl))) (fun z hz => by cases hz) rfl (by decide) (h2 _ (tb_2 103 rfl rfl)) (va_Nw.use rfl (hKa.1.2.2.2.2.1 (eI, eI) (List.mem_of_getElem? (i := 0) rfl))) g3 g4 g5 ?_
      refine lv_astore hx hb (eL_reading (13, .astore 5, 2) (List.mem_of_getElem? (i := 8) rfl)) hl (by decide) rfl (fun ls4 hl4 => ?_)
      refine ff_iconst hx hb (eL_reading (15, .iconst 1, 1) (List.mem_of_getElem? (i := 9) rfl)) (by decide) (by decide) (fun v5 e5 => ?_)
      exact W.zret hx hb hr rfl (fun t ht hW => ⟨_, ro, rfl, fun _ _ h => h, by rw [ht]; exact hh1.l0, by rw [ht]; exact kp1⟩) hh1.2.2.1 (eL_reading (16, .ireturn, 1) (List.mem_of_getElem? (i := 10) rfl))
    cases hE
def tL_change : List (Nat × Instr × Nat) := [(0, .aload 5, 2), (2, .iconst 0, 1), (3, .aload_n 0, 1), (4, .iload_n 1, 1), (5, .lload_n 2, 1), (6, .iload 4, 2), (8, .invokevirtual 46, 3), (11, .i2l, 1), (12, .lastore, 1), (13, .goto 11, 3), (16, .astore 6, 2), (18, .iconst 1, 1), (19, .ireturn, 1), (20, .astore 6, 2), (22, .iconst 2, 1), (23, .ireturn, 1), (24, .iconst 0, 1), (25, .ireturn, 1)]
set_option maxRecDepth 100000 in
theorem eL_change : ∀ x ∈ tL_change, decode cL_change x.1 = .ok x.2 := by decide +kernel
set_option maxRecDepth 100000 in
set_option maxHeartbeats 4000000 in
theorem wL_change (l : Launch) (hst : l.stackTraces = false) (D : va_G) (cA : Nat → ClassId) (ro : Nat → Option Nat) (sz : Nat) (H0 : Heap) (x : Nat) (p1 : Int32) (p2 : Int64) (p3 : Int32) (o : Nat) (hx10 : ro x = some 10) (ho : ro o = some 42) : Met l yL_change (Cond.codeWith yL_change cL_change 7 (some .int) [(0, 13, 16, 13), (0, 13, 20, 34)] :: gT) { frames := 7, cells := 1, slots := 6, locals := 107 } (zw_Pc D cA ro sz H0 [.ref x, .int p1, .long p2, .int p3, .ref o]) (zw_Qk D cA ro sz H0 [(9, 4), (14, 0), (15, 0), (42, 0)]) 1 6 (zy_fr sz) := by
  refine zw_ofW (cc := cL_change) (maxL := 7) (ret := some .int) (by decide +kernel) rfl ?_
  intro p e s m args below meth c s1 B hml hv
  obtain ⟨rfl, hh, hKa⟩ := hv
  have hx := B.exec
  have hb := B.bytes
  have hr := B.returns
  have hlk := B.notSynchronized
  have hts0 := atoms_spec (ws := Cond.codeWith yL_change cL_change 7 (some .int) [(0, 13, 16, 13), (0, 13, 20, 34)] :: gT) B.pre
  have h2 : ∀ w ∈ gT, w.before ([.ref x, .int p1, .long p2, .int p3, .ref o] : List Value).toArray s = true := fun w hw => hts0 w (List.mem_cons_of_mem _ hw)
  have hown : s.vm.findClass RL = some m.cls := findClass_of_methodNamed B.named
  have hl := lv_entry [.ref x, .int p1, .long p2, .int p3, .ref o] (n := 7) (Nat.le_of_ble_eq_true rfl)
  rw [lg_entry_eq]
  generalize (lg_sl [.ref x, .int p1, .long p2, .int p3, .ref o] ++ List.replicate (7 - (lg_sl [.ref x, .int p1, .long p2, .int p3, .ref o]).length) Slot.unset).toArray = ls at hl ⊢
  refine lv_aload hx hb (eL_change (0, .aload 5, 2) (List.mem_of_getElem? (i := 0) rfl)) (lv_at hl 4 rfl) ?_
  refine ff_iconst hx hb (eL_change (2, .iconst 0, 1) (List.mem_of_getElem? (i := 1) rfl)) (by decide) (by decide) (fun v1 e1 => ?_)
  refine lv_aload_n hx hb (eL_change (3, .aload_n 0, 1) (List.mem_of_getElem? (i := 2) rfl)) rfl (lv_at hl 0 rfl) ?_
  refine lv_iload_n hx hb (eL_change (4, .iload_n 1, 1) (List.mem_of_getElem? (i := 3) rfl)) rfl (lv_at hl 1 rfl) ?_
  refine lv_lload_n hx hb (eL_change (5, .lload_n 2, 1) (List.mem_of_getElem? (i := 4) rfl)) rfl (lv_at hl 2 rfl) ?_
  refine lv_iload hx hb (eL_change (6, .iload 4, 2) (List.mem_of_getElem? (i := 5) rfl)) (lv_at hl 3 rfl) ?_
  refine zx_rowG (As := [.int p1, .long p2, .int p3]) (st := [.int v1, .ref o]) (b := x) (C := RX11) hx hb hml hown hts0 (mX11_change l hst D cA ro sz H0) ⟨rfl, rfl⟩ ⟨by decide, by decide⟩ ⟨by decide, by decide⟩ (tb_3 207 rfl rfl) (tb_1 1 rfl rfl) (tb_3 204 rfl rfl) (tb_3 205 rfl rfl) (tb_3 206 rfl rfl) rfl (show yX11_change.cls ≠ "java/lang/invoke/MethodHandle" ∧ yX11_change.cls ≠ "java/lang/invoke/VarHandle" ∧ (parseMethodDescriptor yX11_change.desc).map (fun d => d.parameters.length) = some 3 by decide +kernel) zx_blind (zw_ob hh hKa.1.1.1 hx10) (fun U hU hW => ⟨_, rfl, by rw [hU]; exact hh, ⟨⟨Or.inr ⟨x, rfl, hx10⟩, ⟨p1, rfl, (zn_i32 p1).1, (zn_i32 p1).2⟩, ⟨p2, rfl, (zn_i64 p2).1, (zn_i64 p2).2⟩, ⟨p3, rfl, (zn_i32 p3).1, (zn_i32 p3).2⟩, trivial⟩, fun e he => (by cases he), fun f hf => (by cases hf)⟩, hKa.1.warm hW⟩) (fun q hq => by cases hq) hl.1 (Nat.le_of_ble_eq_true rfl) (eL_change (8, .invokevirtual 46, 3) (List.mem_of_getElem? (i := 6) rfl)) (fun v s0 t lo1 g0 g1 g2 => ?_) (fun q s0 t lo1 E ce g0 g1 g3 g4 g5 g2 => ?_)
  · obtain ⟨vs9, x9, q1, q2, q3, q4, q5⟩ := g1
    cases q2
    obtain ⟨w9, rfl, y9, rfl, -, -⟩ := zc_one (t := (0, (-2147483648), 2147483647)) (L := []) q5
    have hh1 : zh_ok D cA RTg ro sz H0 t.heap lo1 := ⟨q3.1, q3.2.1, g2, q3.2.2.2⟩
    refine W.eq (g2 := F0 m 11 ls [.int y9, .int v1, .ref o]) rfl ?_
    have kp1 : zc_kept D RTg ro [(9, 4), (14, 0), (15, 0), (42, 0)] s.heap t.heap := by rw [g0] at q4; exact q4.mono (by decide)
    refine ff_i2l hx hb (eL_change (11, .i2l, 1) (List.mem_of_getElem? (i := 7) rfl)) (fun v2 e2 => ?_)
    refine zw_out hx hb hh1 hKa.1.1.1 ho (by omega) (eL_change (12, .lastore, 1) (List.mem_of_getElem? (i := 8) rfl)) (fun H3 lo3 hh3 hq3 _ _ => ?_)
    have kp3 := kp1.trans (zk_setA (ms := [(9, 4), (14, 0), (15, 0), (42, 0)]) (by decide) ho rfl hq3)
    refine lv_goto hx hb (eL_change (13, .goto 11, 3) (List.mem_of_getElem? (i := 9) rfl)) (tgt := 24) rfl ?_
    refine ff_iconst hx hb (eL_change (24, .iconst 0, 1) (List.mem_of_getElem? (i := 16) rfl)) (by decide) (by decide) (fun v4 e4 => ?_)
    exact W.zret hx hb hr rfl (fun t ht hW => ⟨_, ro, rfl, fun _ _ h => h, by rw [ht]; exact hh3.l0, by rw [ht]; exact kp3⟩) hh3.2.2.1 (eL_change (25, .ireturn, 1) (List.mem_of_getElem? (i := 17) rfl))
  · have hh1 : zh_ok D cA RTg ro sz H0 t.heap lo1 := ⟨g1.2.1.1, g1.2.1.2.1, g2, g1.2.1.2.2.2⟩
    have kp1 : zc_kept D RTg ro [(9, 4), (14, 0), (15, 0), (42, 0)] s.heap t.heap := by have g9 := g1.2.2; rw [g0] at g9; exact g9.mono (by decide)
    have hE := g1.1
    refine (List.mem_cons.mp hE).elim (fun g => ?_) (fun hE => ?_)
    · subst g
      refine vx_catch (own := RL) (name := "java/lang/IllegalArgumentException") hown [] ⟨0, 13, 16, 13⟩ [⟨0, 13, 20, 34⟩] (vx_table (x := yL_change) B (h2 _ (tb_3 203 rfl rfl))) (fun z hz => by cases hz) rfl (by decide) (h2 _ (tb_2 103 rfl rfl)) (va_Nw.use rfl (hKa.1.2.2.2.2.1 (eI, eI) (List.mem_of_getElem? (i := 0) rfl))) g3 g4 g5 ?_
      refine lv_astore hx hb (eL_change (16, .astore 6, 2) (List.mem_of_getElem? (i := 10) rfl)) hl (by decide) rfl (fun ls5 hl5 => ?_)
      refine ff_iconst hx hb (eL_change (18, .iconst 1, 1) (List.mem_of_getElem? (i := 11) rfl)) (by decide) (by decide) (fun v6 e6 => ?_)
      exact W.zret hx hb hr rfl (fun t ht hW => ⟨_, ro, rfl, fun _ _ h => h, by rw [ht]; exact hh1.l0, by rw [ht]; exact kp1⟩) hh1.2.2.1 (eL_change (19, .ireturn, 1) (List.mem_of_getElem? (i := 12) rfl))
    refine (List.mem_cons.mp hE).elim (fun g => ?_) (fun hE => ?_)
    · subst g
      refine vx_catch (own := RL) (name := "java/lang/UnsupportedOperationException") hown [⟨0, 13, 16, 13⟩] ⟨0, 13, 20, 34⟩ [] (vx_table (x := yL_change) B (h2 _ (tb_3 203 rfl rfl))) (fun z hz => by cases List.mem_singleton.mp hz; exact Or.inr ⟨by decide, eI, h2 _ (tb_2 103 rfl rfl), hKa.1.2.2.2.2.2.2⟩) rfl (by decide) (h2 _ (tb_3 65 rfl rfl)) (va_Nw.use rfl (hKa.1.2.2.2.2.1 (eU, eU) (List.mem_of_getElem? (i := 1) rfl))) g3 g4 g5 ?_
      refine lv_astore hx hb (eL_change (20, .astore 6, 2) (List.mem_of_getElem? (i := 13) rfl)) hl (by decide) rfl (fun ls7 hl7 => ?_)
      refine ff_iconst hx hb (eL_change (22, .iconst 2, 1) (List.mem_of_getElem? (i := 14) rfl)) (by decide) (by decide) (fun v8 e8 => ?_)
      exact W.zret hx hb hr rfl (fun t ht hW => ⟨_, ro, rfl, fun _ _ h => h, by rw [ht]; exact hh1.l0, by rw [ht]; exact kp1⟩) hh1.2.2.1 (eL_change (23, .ireturn, 1) (List.mem_of_getElem? (i := 15) rfl))
    cases hE
def tL_rule : List (Nat × Instr × Nat) := [(0, .aload_n 2, 1), (1, .iconst 0, 1), (2, .aload_n 0, 1), (3, .iload_n 1, 1), (4, .invokevirtual 50, 3), (7, .lastore, 1), (8, .goto 6, 3), (11, .astore_n 3, 1), (12, .iconst 1, 1), (13, .ireturn, 1), (14, .iconst 0, 1), (15, .ireturn, 1)]
set_option maxRecDepth 100000 in
theorem eL_rule : ∀ x ∈ tL_rule, decode cL_rule x.1 = .ok x.2 := by decide +kernel
set_option maxRecDepth 100000 in
set_option maxHeartbeats 4000000 in
theorem wL_rule (l : Launch) (hst : l.stackTraces = false) (D : va_G) (cA : Nat → ClassId) (ro : Nat → Option Nat) (sz : Nat) (H0 : Heap) (x : Nat) (p1 : Int32) (o : Nat) (hx10 : ro x = some 10) (ho : ro o = some 42) : Met l yL_rule (Cond.codeWith yL_rule cL_rule 4 (some .int) [(0, 8, 11, 13)] :: gT) { frames := 7, cells := 1, slots := 6, locals := 164 } (zw_Pc D cA ro sz H0 [.ref x, .int p1, .ref o]) (zw_Qk D cA ro sz H0 [(0, 2), (0, 3), (0, 4), (5, 0), (5, 1), (5, 2), (5, 5), (6, 0), (6, 1), (6, 2), (6, 3), (6, 4), (42, 0)]) 1 6 (zy_fr sz) := by
  refine zw_ofW (cc := cL_rule) (maxL := 4) (ret := some .int) (by decide +kernel) rfl ?_
  intro p e s m args below meth c s1 B hml hv
  obtain ⟨rfl, hh, hKa⟩ := hv
  have hx := B.exec
  have hb := B.bytes
  have hr := B.returns
  have hlk := B.notSynchronized
  have hts0 := atoms_spec (ws := Cond.codeWith yL_rule cL_rule 4 (some .int) [(0, 8, 11, 13)] :: gT) B.pre
  have h2 : ∀ w ∈ gT, w.before ([.ref x, .int p1, .ref o] : List Value).toArray s = true := fun w hw => hts0 w (List.mem_cons_of_mem _ hw)
  have hown : s.vm.findClass RL = some m.cls := findClass_of_methodNamed B.named
  have hl := lv_entry [.ref x, .int p1, .ref o] (n := 4) (Nat.le_of_ble_eq_true rfl)
  rw [lg_entry_eq]
  generalize (lg_sl [.ref x, .int p1, .ref o] ++ List.replicate (4 - (lg_sl [.ref x, .int p1, .ref o]).length) Slot.unset).toArray = ls at hl ⊢
  refine lv_aload_n hx hb (eL_rule (0, .aload_n 2, 1) (List.mem_of_getElem? (i := 0) rfl)) rfl (lv_at hl 2 rfl) ?_
  refine ff_iconst hx hb (eL_rule (1, .iconst 0, 1) (List.mem_of_getElem? (i := 1) rfl)) (by decide) (by decide) (fun v1 e1 => ?_)
  refine lv_aload_n hx hb (eL_rule (2, .aload_n 0, 1) (List.mem_of_getElem? (i := 2) rfl)) rfl (lv_at hl 0 rfl) ?_
  refine lv_iload_n hx hb (eL_rule (3, .iload_n 1, 1) (List.mem_of_getElem? (i := 3) rfl)) rfl (lv_at hl 1 rfl) ?_
  refine zx_rowG (As := [.int p1]) (st := [.int v1, .ref o]) (b := x) (C := RX11) hx hb hml hown hts0 (mX11_rule l hst D cA ro sz H0) ⟨rfl, rfl⟩ ⟨by decide, by decide⟩ ⟨by decide, by decide⟩ (tb_3 232 rfl rfl) (tb_1 1 rfl rfl) (tb_3 229 rfl rfl) (tb_3 230 rfl rfl) (tb_3 231 rfl rfl) rfl (show yX11_rule.cls ≠ "java/lang/invoke/MethodHandle" ∧ yX11_rule.cls ≠ "java/lang/invoke/VarHandle" ∧ (parseMethodDescriptor yX11_rule.desc).map (fun d => d.parameters.length) = some 1 by decide +kernel) zx_blind (zw_ob hh hKa.1.1.1 hx10) (fun U hU hW => ⟨_, rfl, by rw [hU]; exact hh, ⟨⟨Or.inr ⟨x, rfl, hx10⟩, ⟨p1, rfl, (zn_i32 p1).1, (zn_i32 p1).2⟩, trivial⟩, fun e he => (by cases he), fun f hf => (by cases hf)⟩, hKa.1.warm hW⟩) (fun q hq => by cases hq) hl.1 (Nat.le_of_ble_eq_true rfl) (eL_rule (4, .invokevirtual 50, 3) (List.mem_of_getElem? (i := 4) rfl)) (fun v s0 t lo1 g0 g1 g2 => ?_) (fun q s0 t lo1 E ce g0 g1 g3 g4 g5 g2 => ?_)
  · obtain ⟨vs9, x9, q1, q2, q3, q4, q5⟩ := g1
    cases q2
    obtain ⟨w9, rfl, y9, rfl, -, -⟩ := zc_one (t := (1, (-9223372036854775808), 9223372036854775807)) (L := []) q5
    have hh1 : zh_ok D cA RTg ro sz H0 t.heap lo1 := ⟨q3.1, q3.2.1, g2, q3.2.2.2⟩
    refine W.eq (g2 := F0 m 7 ls [.long y9, .int v1, .ref o]) rfl ?_
    have kp1 : zc_kept D RTg ro [(0, 2), (0, 3), (0, 4), (5, 0), (5, 1), (5, 2), (5, 5), (6, 0), (6, 1), (6, 2), (6, 3), (6, 4), (42, 0)] s.heap t.heap := by rw [g0] at q4; exact q4.mono (by decide)
    refine zw_out hx hb hh1 hKa.1.1.1 ho (by omega) (eL_rule (7, .lastore, 1) (List.mem_of_getElem? (i := 5) rfl)) (fun H2 lo2 hh2 hq2 _ _ => ?_)
    have kp2 := kp1.trans (zk_setA (ms := [(0, 2), (0, 3), (0, 4), (5, 0), (5, 1), (5, 2), (5, 5), (6, 0), (6, 1), (6, 2), (6, 3), (6, 4), (42, 0)]) (by decide) ho rfl hq2)
    refine lv_goto hx hb (eL_rule (8, .goto 6, 3) (List.mem_of_getElem? (i := 6) rfl)) (tgt := 14) rfl ?_
    refine ff_iconst hx hb (eL_rule (14, .iconst 0, 1) (List.mem_of_getElem? (i := 10) rfl)) (by decide) (by decide) (fun v3 e3 => ?_)
    exact W.zret hx hb hr rfl (fun t ht hW => ⟨_, ro, rfl, fun _ _ h => h, by rw [ht]; exact hh2.l0, by rw [ht]; exact kp2⟩) hh2.2.2.1 (eL_rule (15, .ireturn, 1) (List.mem_of_getElem? (i := 11) rfl))
  · have hh1 : zh_ok D cA RTg ro sz H0 t.heap lo1 := ⟨g1.2.1.1, g1.2.1.2.1, g2, g1.2.1.2.2.2⟩
    have kp1 : zc_kept D RTg ro [(0, 2), (0, 3), (0, 4), (5, 0), (5, 1), (5, 2), (5, 5), (6, 0), (6, 1), (6, 2), (6, 3), (6, 4), (42, 0)] s.heap t.heap := by have g9 := g1.2.2; rw [g0] at g9; exact g9.mono (by decide)
    have hE := g1.1
    refine (List.mem_cons.mp hE).elim (fun g => ?_) (fun hE => ?_)
    · subst g
      refine vx_catch (own := RL) (name := "java/lang/IllegalArgumentException") hown [] ⟨0, 8, 11, 13⟩ [] (vx_table (x := yL_rule) B (h2 _ (tb_3 228 rfl rfl))) (fun z hz => by cases hz) rfl (by decide) (h2 _ (tb_2 103 rfl rfl)) (va_Nw.use rfl (hKa.1.2.2.2.2.1 (eI, eI) (List.mem_of_getElem? (i := 0) rfl))) g3 g4 g5 ?_
      refine lv_astore_n hx hb (eL_rule (11, .astore_n 3, 1) (List.mem_of_getElem? (i := 7) rfl)) rfl hl (by decide) rfl (fun ls4 hl4 => ?_)
      refine ff_iconst hx hb (eL_rule (12, .iconst 1, 1) (List.mem_of_getElem? (i := 8) rfl)) (by decide) (by decide) (fun v5 e5 => ?_)
      exact W.zret hx hb hr rfl (fun t ht hW => ⟨_, ro, rfl, fun _ _ h => h, by rw [ht]; exact hh1.l0, by rw [ht]; exact kp1⟩) hh1.2.2.1 (eL_rule (13, .ireturn, 1) (List.mem_of_getElem? (i := 9) rfl))
    cases hE
def tL_offset : List (Nat × Instr × Nat) := [(0, .aload 4, 2), (2, .iconst 0, 1), (3, .aload_n 0, 1), (4, .iload_n 1, 1), (5, .lload_n 2, 1), (6, .invokevirtual 53, 3), (9, .i2l, 1), (10, .lastore, 1), (11, .goto 7, 3), (14, .astore 5, 2), (16, .iconst 1, 1), (17, .ireturn, 1), (18, .iconst 0, 1), (19, .ireturn, 1)]
set_option maxRecDepth 100000 in
theorem eL_offset : ∀ x ∈ tL_offset, decode cL_offset x.1 = .ok x.2 := by decide +kernel
set_option maxRecDepth 100000 in
set_option maxHeartbeats 4000000 in
theorem wL_offset (l : Launch) (hst : l.stackTraces = false) (D : va_G) (cA : Nat → ClassId) (ro : Nat → Option Nat) (sz : Nat) (H0 : Heap) (x : Nat) (p1 : Int32) (p2 : Int64) (o : Nat) (hx10 : ro x = some 10) (ho : ro o = some 42) : Met l yL_offset (Cond.codeWith yL_offset cL_offset 6 (some .int) [(0, 11, 14, 13)] :: gT) { frames := 7, cells := 1, slots := 6, locals := 121 } (zw_Pc D cA ro sz H0 [.ref x, .int p1, .long p2, .ref o]) (zw_Qk D cA ro sz H0 [(5, 5), (5, 6), (5, 7), (5, 8), (5, 9), (5, 10), (42, 0)]) 1 6 (zy_fr sz) := by
  refine zw_ofW (cc := cL_offset) (maxL := 6) (ret := some .int) (by decide +kernel) rfl ?_
  intro p e s m args below meth c s1 B hml hv
  obtain ⟨rfl, hh, hKa⟩ := hv
  have hx := B.exec
  have hb := B.bytes
  have hr := B.returns
  have hlk := B.notSynchronized
  have hts0 := atoms_spec (ws := Cond.codeWith yL_offset cL_offset 6 (some .int) [(0, 11, 14, 13)] :: gT) B.pre
  have h2 : ∀ w ∈ gT, w.before ([.ref x, .int p1, .long p2, .ref o] : List Value).toArray s = true := fun w hw => hts0 w (List.mem_cons_of_mem _ hw)
  have hown : s.vm.findClass RL = some m.cls := findClass_of_methodNamed B.named
  have hl := lv_entry [.ref x, .int p1, .long p2, .ref o] (n := 6) (Nat.le_of_ble_eq_true rfl)
  rw [lg_entry_eq]
  generalize (lg_sl [.ref x, .int p1, .long p2, .ref o] ++ List.replicate (6 - (lg_sl [.ref x, .int p1, .long p2, .ref o]).length) Slot.unset).toArray = ls at hl ⊢
  refine lv_aload hx hb (eL_offset (0, .aload 4, 2) (List.mem_of_getElem? (i := 0) rfl)) (lv_at hl 3 rfl) ?_
  refine ff_iconst hx hb (eL_offset (2, .iconst 0, 1) (List.mem_of_getElem? (i := 1) rfl)) (by decide) (by decide) (fun v1 e1 => ?_)
  refine lv_aload_n hx hb (eL_offset (3, .aload_n 0, 1) (List.mem_of_getElem? (i := 2) rfl)) rfl (lv_at hl 0 rfl) ?_
  refine lv_iload_n hx hb (eL_offset (4, .iload_n 1, 1) (List.mem_of_getElem? (i := 3) rfl)) rfl (lv_at hl 1 rfl) ?_
  refine lv_lload_n hx hb (eL_offset (5, .lload_n 2, 1) (List.mem_of_getElem? (i := 4) rfl)) rfl (lv_at hl 2 rfl) ?_
  refine zx_rowG (As := [.int p1, .long p2]) (st := [.int v1, .ref o]) (b := x) (C := RX11) hx hb hml hown hts0 (mX11_offset l hst D cA ro sz H0) ⟨rfl, rfl⟩ ⟨by decide, by decide⟩ ⟨by decide, by decide⟩ (tb_4 108 rfl rfl) (tb_1 1 rfl rfl) (tb_4 105 rfl rfl) (tb_4 106 rfl rfl) (tb_4 107 rfl rfl) rfl (show yX11_offset.cls ≠ "java/lang/invoke/MethodHandle" ∧ yX11_offset.cls ≠ "java/lang/invoke/VarHandle" ∧ (parseMethodDescriptor yX11_offset.desc).map (fun d => d.parameters.length) = some 2 by decide +kernel) zx_blind (zw_ob hh hKa.1.1.1 hx10) (fun U hU hW => ⟨_, rfl, by rw [hU]; exact hh, ⟨⟨Or.inr ⟨x, rfl, hx10⟩, ⟨p1, rfl, (zn_i32 p1).1, (zn_i32 p1).2⟩, ⟨p2, rfl, (zn_i64 p2).1, (zn_i64 p2).2⟩, trivial⟩, fun e he => (by cases he), fun f hf => (by cases hf)⟩, hKa.1.warm hW⟩) (fun q hq => by cases hq) hl.1 (Nat.le_of_ble_eq_true rfl) (eL_offset (6, .invokevirtual 53, 3) (List.mem_of_getElem? (i := 5) rfl)) (fun v s0 t lo1 g0 g1 g2 => ?_) (fun q s0 t lo1 E ce g0 g1 g3 g4 g5 g2 => ?_)
  · obtain ⟨vs9, x9, q1, q2, q3, q4, q5⟩ := g1
    cases q2
    obtain ⟨w9, rfl, y9, rfl, -, -⟩ := zc_one (t := (0, (-2147483648), 2147483647)) (L := []) q5
    have hh1 : zh_ok D cA RTg ro sz H0 t.heap lo1 := ⟨q3.1, q3.2.1, g2, q3.2.2.2⟩
    refine W.eq (g2 := F0 m 9 ls [.int y9, .int v1, .ref o]) rfl ?_
    have kp1 : zc_kept D RTg ro [(5, 5), (5, 6), (5, 7), (5, 8), (5, 9), (5, 10), (42, 0)] s.heap t.heap := by rw [g0] at q4; exact q4.mono (by decide)
    refine ff_i2l hx hb (eL_offset (9, .i2l, 1) (List.mem_of_getElem? (i := 6) rfl)) (fun v2 e2 => ?_)
    refine zw_out hx hb hh1 hKa.1.1.1 ho (by omega) (eL_offset (10, .lastore, 1) (List.mem_of_getElem? (i := 7) rfl)) (fun H3 lo3 hh3 hq3 _ _ => ?_)
    have kp3 := kp1.trans (zk_setA (ms := [(5, 5), (5, 6), (5, 7), (5, 8), (5, 9), (5, 10), (42, 0)]) (by decide) ho rfl hq3)
    refine lv_goto hx hb (eL_offset (11, .goto 7, 3) (List.mem_of_getElem? (i := 8) rfl)) (tgt := 18) rfl ?_
    refine ff_iconst hx hb (eL_offset (18, .iconst 0, 1) (List.mem_of_getElem? (i := 12) rfl)) (by decide) (by decide) (fun v4 e4 => ?_)
    exact W.zret hx hb hr rfl (fun t ht hW => ⟨_, ro, rfl, fun _ _ h => h, by rw [ht]; exact hh3.l0, by rw [ht]; exact kp3⟩) hh3.2.2.1 (eL_offset (19, .ireturn, 1) (List.mem_of_getElem? (i := 13) rfl))
  · have hh1 : zh_ok D cA RTg ro sz H0 t.heap lo1 := ⟨g1.2.1.1, g1.2.1.2.1, g2, g1.2.1.2.2.2⟩
    have kp1 : zc_kept D RTg ro [(5, 5), (5, 6), (5, 7), (5, 8), (5, 9), (5, 10), (42, 0)] s.heap t.heap := by have g9 := g1.2.2; rw [g0] at g9; exact g9.mono (by decide)
    have hE := g1.1
    refine (List.mem_cons.mp hE).elim (fun g => ?_) (fun hE => ?_)
    · subst g
      refine vx_catch (own := RL) (name := "java/lang/IllegalArgumentException") hown [] ⟨0, 11, 14, 13⟩ [] (vx_table (x := yL_offset) B (h2 _ (tb_4 104 rfl rfl))) (fun z hz => by cases hz) rfl (by decide) (h2 _ (tb_2 103 rfl rfl)) (va_Nw.use rfl (hKa.1.2.2.2.2.1 (eI, eI) (List.mem_of_getElem? (i := 0) rfl))) g3 g4 g5 ?_
      refine lv_astore hx hb (eL_offset (14, .astore 5, 2) (List.mem_of_getElem? (i := 9) rfl)) hl (by decide) rfl (fun ls5 hl5 => ?_)
      refine ff_iconst hx hb (eL_offset (16, .iconst 1, 1) (List.mem_of_getElem? (i := 10) rfl)) (by decide) (by decide) (fun v6 e6 => ?_)
      exact W.zret hx hb hr rfl (fun t ht hW => ⟨_, ro, rfl, fun _ _ h => h, by rw [ht]; exact hh1.l0, by rw [ht]; exact kp1⟩) hh1.2.2.1 (eL_offset (17, .ireturn, 1) (List.mem_of_getElem? (i := 11) rfl))
    cases hE
def tL_local : List (Nat × Instr × Nat) := [(0, .aload 6, 2), (2, .iconst 0, 1), (3, .aload_n 0, 1), (4, .iload_n 1, 1), (5, .lload_n 2, 1), (6, .iload 4, 2), (8, .iload 5, 2), (10, .invokevirtual 57, 3), (13, .lastore, 1), (14, .goto 7, 3), (17, .astore 7, 2), (19, .iconst 1, 1), (20, .ireturn, 1), (21, .iconst 0, 1), (22, .ireturn, 1)]
set_option maxRecDepth 100000 in
theorem eL_local : ∀ x ∈ tL_local, decode cL_local x.1 = .ok x.2 := by decide +kernel
set_option maxRecDepth 100000 in
set_option maxHeartbeats 4000000 in
theorem wL_local (l : Launch) (hst : l.stackTraces = false) (D : va_G) (cA : Nat → ClassId) (ro : Nat → Option Nat) (sz : Nat) (H0 : Heap) (x : Nat) (p1 : Int32) (p2 : Int64) (p3 : Int32) (p4 : Int32) (o : Nat) (hx10 : ro x = some 10) (ho : ro o = some 42) : Met l yL_local (Cond.codeWith yL_local cL_local 8 (some .int) [(0, 14, 17, 13)] :: gT) { frames := 7, cells := 1, slots := 6, locals := 155 } (zw_Pc D cA ro sz H0 [.ref x, .int p1, .long p2, .int p3, .int p4, .ref o]) (zw_Qk D cA ro sz H0 [(5, 5), (5, 6), (5, 7), (5, 8), (5, 9), (5, 10), (19, 0), (42, 0)]) 1 6 (zy_fr sz) := by
  refine zw_ofW (cc := cL_local) (maxL := 8) (ret := some .int) (by decide +kernel) rfl ?_
  intro p e s m args below meth c s1 B hml hv
  obtain ⟨rfl, hh, hKa⟩ := hv
  have hx := B.exec
  have hb := B.bytes
  have hr := B.returns
  have hlk := B.notSynchronized
  have hts0 := atoms_spec (ws := Cond.codeWith yL_local cL_local 8 (some .int) [(0, 14, 17, 13)] :: gT) B.pre
  have h2 : ∀ w ∈ gT, w.before ([.ref x, .int p1, .long p2, .int p3, .int p4, .ref o] : List Value).toArray s = true := fun w hw => hts0 w (List.mem_cons_of_mem _ hw)
  have hown : s.vm.findClass RL = some m.cls := findClass_of_methodNamed B.named
  have hl := lv_entry [.ref x, .int p1, .long p2, .int p3, .int p4, .ref o] (n := 8) (Nat.le_of_ble_eq_true rfl)
  rw [lg_entry_eq]
  generalize (lg_sl [.ref x, .int p1, .long p2, .int p3, .int p4, .ref o] ++ List.replicate (8 - (lg_sl [.ref x, .int p1, .long p2, .int p3, .int p4, .ref o]).length) Slot.unset).toArray = ls at hl ⊢
  refine lv_aload hx hb (eL_local (0, .aload 6, 2) (List.mem_of_getElem? (i := 0) rfl)) (lv_at hl 5 rfl) ?_
  refine ff_iconst hx hb (eL_local (2, .iconst 0, 1) (List.mem_of_getElem? (i := 1) rfl)) (by decide) (by decide) (fun v1 e1 => ?_)
  refine lv_aload_n hx hb (eL_local (3, .aload_n 0, 1) (List.mem_of_getElem? (i := 2) rfl)) rfl (lv_at hl 0 rfl) ?_
  refine lv_iload_n hx hb (eL_local (4, .iload_n 1, 1) (List.mem_of_getElem? (i := 3) rfl)) rfl (lv_at hl 1 rfl) ?_
  refine lv_lload_n hx hb (eL_local (5, .lload_n 2, 1) (List.mem_of_getElem? (i := 4) rfl)) rfl (lv_at hl 2 rfl) ?_
  refine lv_iload hx hb (eL_local (6, .iload 4, 2) (List.mem_of_getElem? (i := 5) rfl)) (lv_at hl 3 rfl) ?_
  refine lv_iload hx hb (eL_local (8, .iload 5, 2) (List.mem_of_getElem? (i := 6) rfl)) (lv_at hl 4 rfl) ?_
  refine zx_rowG (As := [.int p1, .long p2, .int p3, .int p4]) (st := [.int v1, .ref o]) (b := x) (C := RX11) hx hb hml hown hts0 (mX11_local l hst D cA ro sz H0) ⟨rfl, rfl⟩ ⟨by decide, by decide⟩ ⟨by decide, by decide⟩ (tb_4 151 rfl rfl) (tb_1 1 rfl rfl) (tb_4 148 rfl rfl) (tb_4 149 rfl rfl) (tb_4 150 rfl rfl) rfl (show yX11_local.cls ≠ "java/lang/invoke/MethodHandle" ∧ yX11_local.cls ≠ "java/lang/invoke/VarHandle" ∧ (parseMethodDescriptor yX11_local.desc).map (fun d => d.parameters.length) = some 4 by decide +kernel) zx_blind (zw_ob hh hKa.1.1.1 hx10) (fun U hU hW => ⟨_, rfl, by rw [hU]; exact hh, ⟨⟨Or.inr ⟨x, rfl, hx10⟩, ⟨p1, rfl, (zn_i32 p1).1, (zn_i32 p1).2⟩, ⟨p2, rfl, (zn_i64 p2).1, (zn_i64 p2).2⟩, ⟨p3, rfl, (zn_i32 p3).1, (zn_i32 p3).2⟩, ⟨p4, rfl, (zn_i32 p4).1, (zn_i32 p4).2⟩, trivial⟩, fun e he => (by cases he), fun f hf => (by cases hf)⟩, hKa.1.warm hW⟩) (fun q hq => by cases hq) hl.1 (Nat.le_of_ble_eq_true rfl) (eL_local (10, .invokevirtual 57, 3) (List.mem_of_getElem? (i := 7) rfl)) (fun v s0 t lo1 g0 g1 g2 => ?_) (fun q s0 t lo1 E ce g0 g1 g3 g4 g5 g2 => ?_)
  · obtain ⟨vs9, x9, q1, q2, q3, q4, q5⟩ := g1
    cases q2
    obtain ⟨w9, rfl, y9, rfl, -, -⟩ := zc_one (t := (1, (-9223372036854775808), 9223372036854775807)) (L := []) q5
    have hh1 : zh_ok D cA RTg ro sz H0 t.heap lo1 := ⟨q3.1, q3.2.1, g2, q3.2.2.2⟩
    refine W.eq (g2 := F0 m 13 ls [.long y9, .int v1, .ref o]) rfl ?_
    have kp1 : zc_kept D RTg ro [(5, 5), (5, 6), (5, 7), (5, 8), (5, 9), (5, 10), (19, 0), (42, 0)] s.heap t.heap := by rw [g0] at q4; exact q4.mono (by decide)
    refine zw_out hx hb hh1 hKa.1.1.1 ho (by omega) (eL_local (13, .lastore, 1) (List.mem_of_getElem? (i := 8) rfl)) (fun H2 lo2 hh2 hq2 _ _ => ?_)
    have kp2 := kp1.trans (zk_setA (ms := [(5, 5), (5, 6), (5, 7), (5, 8), (5, 9), (5, 10), (19, 0), (42, 0)]) (by decide) ho rfl hq2)
    refine lv_goto hx hb (eL_local (14, .goto 7, 3) (List.mem_of_getElem? (i := 9) rfl)) (tgt := 21) rfl ?_
    refine ff_iconst hx hb (eL_local (21, .iconst 0, 1) (List.mem_of_getElem? (i := 13) rfl)) (by decide) (by decide) (fun v3 e3 => ?_)
    exact W.zret hx hb hr rfl (fun t ht hW => ⟨_, ro, rfl, fun _ _ h => h, by rw [ht]; exact hh2.l0, by rw [ht]; exact kp2⟩) hh2.2.2.1 (eL_local (22, .ireturn, 1) (List.mem_of_getElem? (i := 14) rfl))
  · have hh1 : zh_ok D cA RTg ro sz H0 t.heap lo1 := ⟨g1.2.1.1, g1.2.1.2.1, g2, g1.2.1.2.2.2⟩
    have kp1 : zc_kept D RTg ro [(5, 5), (5, 6), (5, 7), (5, 8), (5, 9), (5, 10), (19, 0), (42, 0)] s.heap t.heap := by have g9 := g1.2.2; rw [g0] at g9; exact g9.mono (by decide)
    have hE := g1.1
    refine (List.mem_cons.mp hE).elim (fun g => ?_) (fun hE => ?_)
    · subst g
      refine vx_catch (own := RL) (name := "java/lang/IllegalArgumentException") hown [] ⟨0, 14, 17, 13⟩ [] (vx_table (x := yL_local) B (h2 _ (tb_4 147 rfl rfl))) (fun z hz => by cases hz) rfl (by decide) (h2 _ (tb_2 103 rfl rfl)) (va_Nw.use rfl (hKa.1.2.2.2.2.1 (eI, eI) (List.mem_of_getElem? (i := 0) rfl))) g3 g4 g5 ?_
      refine lv_astore hx hb (eL_local (17, .astore 7, 2) (List.mem_of_getElem? (i := 10) rfl)) hl (by decide) rfl (fun ls4 hl4 => ?_)
      refine ff_iconst hx hb (eL_local (19, .iconst 1, 1) (List.mem_of_getElem? (i := 11) rfl)) (by decide) (by decide) (fun v5 e5 => ?_)
      exact W.zret hx hb hr rfl (fun t ht hW => ⟨_, ro, rfl, fun _ _ h => h, by rw [ht]; exact hh1.l0, by rw [ht]; exact kp1⟩) hh1.2.2.1 (eL_local (20, .ireturn, 1) (List.mem_of_getElem? (i := 12) rfl))
    cases hE
def tL_next : List (Nat × Instr × Nat) := [(0, .aload 4, 2), (2, .iconst 0, 1), (3, .aload_n 0, 1), (4, .iload_n 1, 1), (5, .lload_n 2, 1), (6, .invokevirtual 61, 3), (9, .lastore, 1), (10, .goto 7, 3), (13, .astore 5, 2), (15, .iconst 1, 1), (16, .ireturn, 1), (17, .iconst 0, 1), (18, .ireturn, 1)]
set_option maxRecDepth 100000 in
theorem eL_next : ∀ x ∈ tL_next, decode cL_next x.1 = .ok x.2 := by decide +kernel
set_option maxRecDepth 100000 in
set_option maxHeartbeats 4000000 in
theorem wL_next (l : Launch) (hst : l.stackTraces = false) (D : va_G) (cA : Nat → ClassId) (ro : Nat → Option Nat) (sz : Nat) (H0 : Heap) (x : Nat) (p1 : Int32) (p2 : Int64) (o : Nat) (hx10 : ro x = some 10) (ho : ro o = some 42) : Met l yL_next (Cond.codeWith yL_next cL_next 6 (some .int) [(0, 10, 13, 13)] :: gT) { frames := 7, cells := 1, slots := 6, locals := 133 } (zw_Pc D cA ro sz H0 [.ref x, .int p1, .long p2, .ref o]) (zw_Qk D cA ro sz H0 [(5, 5), (5, 6), (5, 7), (5, 8), (5, 9), (5, 10), (42, 0)]) 1 6 (zy_fr sz) := by
  refine zw_ofW (cc := cL_next) (maxL := 6) (ret := some .int) (by decide +kernel) rfl ?_
  intro p e s m args below meth c s1 B hml hv
  obtain ⟨rfl, hh, hKa⟩ := hv
  have hx := B.exec
  have hb := B.bytes
  have hr := B.returns
  have hlk := B.notSynchronized
  have hts0 := atoms_spec (ws := Cond.codeWith yL_next cL_next 6 (some .int) [(0, 10, 13, 13)] :: gT) B.pre
  have h2 : ∀ w ∈ gT, w.before ([.ref x, .int p1, .long p2, .ref o] : List Value).toArray s = true := fun w hw => hts0 w (List.mem_cons_of_mem _ hw)
  have hown : s.vm.findClass RL = some m.cls := findClass_of_methodNamed B.named
  have hl := lv_entry [.ref x, .int p1, .long p2, .ref o] (n := 6) (Nat.le_of_ble_eq_true rfl)
  rw [lg_entry_eq]
  generalize (lg_sl [.ref x, .int p1, .long p2, .ref o] ++ List.replicate (6 - (lg_sl [.ref x, .int p1, .long p2, .ref o]).length) Slot.unset).toArray = ls at hl ⊢
  refine lv_aload hx hb (eL_next (0, .aload 4, 2) (List.mem_of_getElem? (i := 0) rfl)) (lv_at hl 3 rfl) ?_
  refine ff_iconst hx hb (eL_next (2, .iconst 0, 1) (List.mem_of_getElem? (i := 1) rfl)) (by decide) (by decide) (fun v1 e1 => ?_)
  refine lv_aload_n hx hb (eL_next (3, .aload_n 0, 1) (List.mem_of_getElem? (i := 2) rfl)) rfl (lv_at hl 0 rfl) ?_
  refine lv_iload_n hx hb (eL_next (4, .iload_n 1, 1) (List.mem_of_getElem? (i := 3) rfl)) rfl (lv_at hl 1 rfl) ?_
  refine lv_lload_n hx hb (eL_next (5, .lload_n 2, 1) (List.mem_of_getElem? (i := 4) rfl)) rfl (lv_at hl 2 rfl) ?_
  refine zx_rowG (As := [.int p1, .long p2]) (st := [.int v1, .ref o]) (b := x) (C := RX11) hx hb hml hown hts0 (mX11_next l hst D cA ro sz H0) ⟨rfl, rfl⟩ ⟨by decide, by decide⟩ ⟨by decide, by decide⟩ (tb_4 174 rfl rfl) (tb_1 1 rfl rfl) (tb_4 171 rfl rfl) (tb_4 172 rfl rfl) (tb_4 173 rfl rfl) rfl (show yX11_next.cls ≠ "java/lang/invoke/MethodHandle" ∧ yX11_next.cls ≠ "java/lang/invoke/VarHandle" ∧ (parseMethodDescriptor yX11_next.desc).map (fun d => d.parameters.length) = some 2 by decide +kernel) zx_blind (zw_ob hh hKa.1.1.1 hx10) (fun U hU hW => ⟨_, rfl, by rw [hU]; exact hh, ⟨⟨Or.inr ⟨x, rfl, hx10⟩, ⟨p1, rfl, (zn_i32 p1).1, (zn_i32 p1).2⟩, ⟨p2, rfl, (zn_i64 p2).1, (zn_i64 p2).2⟩, trivial⟩, fun e he => (by cases he), fun f hf => (by cases hf)⟩, hKa.1.warm hW⟩) (fun q hq => by cases hq) hl.1 (Nat.le_of_ble_eq_true rfl) (eL_next (6, .invokevirtual 61, 3) (List.mem_of_getElem? (i := 5) rfl)) (fun v s0 t lo1 g0 g1 g2 => ?_) (fun q s0 t lo1 E ce g0 g1 g3 g4 g5 g2 => ?_)
  · obtain ⟨vs9, x9, q1, q2, q3, q4, q5⟩ := g1
    cases q2
    obtain ⟨w9, rfl, y9, rfl, -, -⟩ := zc_one (t := (1, (-9223372036854775808), 9223372036854775807)) (L := []) q5
    have hh1 : zh_ok D cA RTg ro sz H0 t.heap lo1 := ⟨q3.1, q3.2.1, g2, q3.2.2.2⟩
    refine W.eq (g2 := F0 m 9 ls [.long y9, .int v1, .ref o]) rfl ?_
    have kp1 : zc_kept D RTg ro [(5, 5), (5, 6), (5, 7), (5, 8), (5, 9), (5, 10), (42, 0)] s.heap t.heap := by rw [g0] at q4; exact q4.mono (by decide)
    refine zw_out hx hb hh1 hKa.1.1.1 ho (by omega) (eL_next (9, .lastore, 1) (List.mem_of_getElem? (i := 6) rfl)) (fun H2 lo2 hh2 hq2 _ _ => ?_)
    have kp2 := kp1.trans (zk_setA (ms := [(5, 5), (5, 6), (5, 7), (5, 8), (5, 9), (5, 10), (42, 0)]) (by decide) ho rfl hq2)
    refine lv_goto hx hb (eL_next (10, .goto 7, 3) (List.mem_of_getElem? (i := 7) rfl)) (tgt := 17) rfl ?_
    refine ff_iconst hx hb (eL_next (17, .iconst 0, 1) (List.mem_of_getElem? (i := 11) rfl)) (by decide) (by decide) (fun v3 e3 => ?_)
    exact W.zret hx hb hr rfl (fun t ht hW => ⟨_, ro, rfl, fun _ _ h => h, by rw [ht]; exact hh2.l0, by rw [ht]; exact kp2⟩) hh2.2.2.1 (eL_next (18, .ireturn, 1) (List.mem_of_getElem? (i := 12) rfl))
  · have hh1 : zh_ok D cA RTg ro sz H0 t.heap lo1 := ⟨g1.2.1.1, g1.2.1.2.1, g2, g1.2.1.2.2.2⟩
    have kp1 : zc_kept D RTg ro [(5, 5), (5, 6), (5, 7), (5, 8), (5, 9), (5, 10), (42, 0)] s.heap t.heap := by have g9 := g1.2.2; rw [g0] at g9; exact g9.mono (by decide)
    have hE := g1.1
    refine (List.mem_cons.mp hE).elim (fun g => ?_) (fun hE => ?_)
    · subst g
      refine vx_catch (own := RL) (name := "java/lang/IllegalArgumentException") hown [] ⟨0, 10, 13, 13⟩ [] (vx_table (x := yL_next) B (h2 _ (tb_4 170 rfl rfl))) (fun z hz => by cases hz) rfl (by decide) (h2 _ (tb_2 103 rfl rfl)) (va_Nw.use rfl (hKa.1.2.2.2.2.1 (eI, eI) (List.mem_of_getElem? (i := 0) rfl))) g3 g4 g5 ?_
      refine lv_astore hx hb (eL_next (13, .astore 5, 2) (List.mem_of_getElem? (i := 8) rfl)) hl (by decide) rfl (fun ls4 hl4 => ?_)
      refine ff_iconst hx hb (eL_next (15, .iconst 1, 1) (List.mem_of_getElem? (i := 9) rfl)) (by decide) (by decide) (fun v5 e5 => ?_)
      exact W.zret hx hb hr rfl (fun t ht hW => ⟨_, ro, rfl, fun _ _ h => h, by rw [ht]; exact hh1.l0, by rw [ht]; exact kp1⟩) hh1.2.2.1 (eL_next (16, .ireturn, 1) (List.mem_of_getElem? (i := 10) rfl))
    cases hE
def tL_type : List (Nat × Instr × Nat) := [(0, .aload 4, 2), (2, .iconst 0, 1), (3, .aload_n 0, 1), (4, .lload_n 1, 1), (5, .iload_n 3, 1), (6, .invokevirtual 65, 3), (9, .i2l, 1), (10, .lastore, 1), (11, .goto 11, 3), (14, .astore 5, 2), (16, .iconst 1, 1), (17, .ireturn, 1), (18, .astore 5, 2), (20, .iconst 2, 1), (21, .ireturn, 1), (22, .iconst 0, 1), (23, .ireturn, 1)]
set_option maxRecDepth 100000 in
theorem eL_type : ∀ x ∈ tL_type, decode cL_type x.1 = .ok x.2 := by decide +kernel
set_option maxRecDepth 100000 in
set_option maxHeartbeats 4000000 in
theorem wL_type (l : Launch) (hst : l.stackTraces = false) (D : va_G) (cA : Nat → ClassId) (ro : Nat → Option Nat) (sz : Nat) (H0 : Heap) (x : Nat) (p1 : Int64) (p2 : Int32) (o : Nat) (hx10 : ro x = some 10) (ho : ro o = some 42) : Met l yL_type (Cond.codeWith yL_type cL_type 6 (some .int) [(0, 11, 14, 13), (0, 11, 18, 34)] :: gT) { frames := 7, cells := 1, slots := 6, locals := 106 } (zw_Pc D cA ro sz H0 [.ref x, .long p1, .int p2, .ref o]) (zw_Qk D cA ro sz H0 [(0, 1), (12, 0), (42, 0)]) 1 6 (zy_fr sz) := by
  refine zw_ofW (cc := cL_type) (maxL := 6) (ret := some .int) (by decide +kernel) rfl ?_
  intro p e s m args below meth c s1 B hml hv
  obtain ⟨rfl, hh, hKa⟩ := hv
  have hx := B.exec
  have hb := B.bytes
  have hr := B.returns
  have hlk := B.notSynchronized
  have hts0 := atoms_spec (ws := Cond.codeWith yL_type cL_type 6 (some .int) [(0, 11, 14, 13), (0, 11, 18, 34)] :: gT) B.pre
  have h2 : ∀ w ∈ gT, w.before ([.ref x, .long p1, .int p2, .ref o] : List Value).toArray s = true := fun w hw => hts0 w (List.mem_cons_of_mem _ hw)
  have hown : s.vm.findClass RL = some m.cls := findClass_of_methodNamed B.named
  have hl := lv_entry [.ref x, .long p1, .int p2, .ref o] (n := 6) (Nat.le_of_ble_eq_true rfl)
  rw [lg_entry_eq]
  generalize (lg_sl [.ref x, .long p1, .int p2, .ref o] ++ List.replicate (6 - (lg_sl [.ref x, .long p1, .int p2, .ref o]).length) Slot.unset).toArray = ls at hl ⊢
  refine lv_aload hx hb (eL_type (0, .aload 4, 2) (List.mem_of_getElem? (i := 0) rfl)) (lv_at hl 3 rfl) ?_
  refine ff_iconst hx hb (eL_type (2, .iconst 0, 1) (List.mem_of_getElem? (i := 1) rfl)) (by decide) (by decide) (fun v1 e1 => ?_)
  refine lv_aload_n hx hb (eL_type (3, .aload_n 0, 1) (List.mem_of_getElem? (i := 2) rfl)) rfl (lv_at hl 0 rfl) ?_
  refine lv_lload_n hx hb (eL_type (4, .lload_n 1, 1) (List.mem_of_getElem? (i := 3) rfl)) rfl (lv_at hl 1 rfl) ?_
  refine lv_iload_n hx hb (eL_type (5, .iload_n 3, 1) (List.mem_of_getElem? (i := 4) rfl)) rfl (lv_at hl 2 rfl) ?_
  refine zx_rowG (As := [.long p1, .int p2]) (st := [.int v1, .ref o]) (b := x) (C := RX11) hx hb hml hown hts0 (mX11_type l hst D cA ro sz H0) ⟨rfl, rfl⟩ ⟨by decide, by decide⟩ ⟨by decide, by decide⟩ (tb_4 201 rfl rfl) (tb_1 1 rfl rfl) (tb_4 198 rfl rfl) (tb_4 199 rfl rfl) (tb_4 200 rfl rfl) rfl (show yX11_type.cls ≠ "java/lang/invoke/MethodHandle" ∧ yX11_type.cls ≠ "java/lang/invoke/VarHandle" ∧ (parseMethodDescriptor yX11_type.desc).map (fun d => d.parameters.length) = some 2 by decide +kernel) zx_blind (zw_ob hh hKa.1.1.1 hx10) (fun U hU hW => ⟨_, rfl, by rw [hU]; exact hh, ⟨⟨Or.inr ⟨x, rfl, hx10⟩, ⟨p1, rfl, (zn_i64 p1).1, (zn_i64 p1).2⟩, ⟨p2, rfl, (zn_i32 p2).1, (zn_i32 p2).2⟩, trivial⟩, fun e he => (by cases he), fun f hf => (by cases hf)⟩, hKa.1.warm hW⟩) (fun q hq => by cases hq) hl.1 (Nat.le_of_ble_eq_true rfl) (eL_type (6, .invokevirtual 65, 3) (List.mem_of_getElem? (i := 5) rfl)) (fun v s0 t lo1 g0 g1 g2 => ?_) (fun q s0 t lo1 E ce g0 g1 g3 g4 g5 g2 => ?_)
  · obtain ⟨vs9, x9, q1, q2, q3, q4, q5⟩ := g1
    cases q2
    obtain ⟨w9, rfl, y9, rfl, -, -⟩ := zc_one (t := (0, (-2147483648), 2147483647)) (L := []) q5
    have hh1 : zh_ok D cA RTg ro sz H0 t.heap lo1 := ⟨q3.1, q3.2.1, g2, q3.2.2.2⟩
    refine W.eq (g2 := F0 m 9 ls [.int y9, .int v1, .ref o]) rfl ?_
    have kp1 : zc_kept D RTg ro [(0, 1), (12, 0), (42, 0)] s.heap t.heap := by rw [g0] at q4; exact q4.mono (by decide)
    refine ff_i2l hx hb (eL_type (9, .i2l, 1) (List.mem_of_getElem? (i := 6) rfl)) (fun v2 e2 => ?_)
    refine zw_out hx hb hh1 hKa.1.1.1 ho (by omega) (eL_type (10, .lastore, 1) (List.mem_of_getElem? (i := 7) rfl)) (fun H3 lo3 hh3 hq3 _ _ => ?_)
    have kp3 := kp1.trans (zk_setA (ms := [(0, 1), (12, 0), (42, 0)]) (by decide) ho rfl hq3)
    refine lv_goto hx hb (eL_type (11, .goto 11, 3) (List.mem_of_getElem? (i := 8) rfl)) (tgt := 22) rfl ?_
    refine ff_iconst hx hb (eL_type (22, .iconst 0, 1) (List.mem_of_getElem? (i := 15) rfl)) (by decide) (by decide) (fun v4 e4 => ?_)
    exact W.zret hx hb hr rfl (fun t ht hW => ⟨_, ro, rfl, fun _ _ h => h, by rw [ht]; exact hh3.l0, by rw [ht]; exact kp3⟩) hh3.2.2.1 (eL_type (23, .ireturn, 1) (List.mem_of_getElem? (i := 16) rfl))
  · have hh1 : zh_ok D cA RTg ro sz H0 t.heap lo1 := ⟨g1.2.1.1, g1.2.1.2.1, g2, g1.2.1.2.2.2⟩
    have kp1 : zc_kept D RTg ro [(0, 1), (12, 0), (42, 0)] s.heap t.heap := by have g9 := g1.2.2; rw [g0] at g9; exact g9.mono (by decide)
    have hE := g1.1
    refine (List.mem_cons.mp hE).elim (fun g => ?_) (fun hE => ?_)
    · subst g
      refine vx_catch (own := RL) (name := "java/lang/IllegalArgumentException") hown [] ⟨0, 11, 14, 13⟩ [⟨0, 11, 18, 34⟩] (vx_table (x := yL_type) B (h2 _ (tb_4 197 rfl rfl))) (fun z hz => by cases hz) rfl (by decide) (h2 _ (tb_2 103 rfl rfl)) (va_Nw.use rfl (hKa.1.2.2.2.2.1 (eI, eI) (List.mem_of_getElem? (i := 0) rfl))) g3 g4 g5 ?_
      refine lv_astore hx hb (eL_type (14, .astore 5, 2) (List.mem_of_getElem? (i := 9) rfl)) hl (by decide) rfl (fun ls5 hl5 => ?_)
      refine ff_iconst hx hb (eL_type (16, .iconst 1, 1) (List.mem_of_getElem? (i := 10) rfl)) (by decide) (by decide) (fun v6 e6 => ?_)
      exact W.zret hx hb hr rfl (fun t ht hW => ⟨_, ro, rfl, fun _ _ h => h, by rw [ht]; exact hh1.l0, by rw [ht]; exact kp1⟩) hh1.2.2.1 (eL_type (17, .ireturn, 1) (List.mem_of_getElem? (i := 11) rfl))
    refine (List.mem_cons.mp hE).elim (fun g => ?_) (fun hE => ?_)
    · subst g
      refine vx_catch (own := RL) (name := "java/lang/UnsupportedOperationException") hown [⟨0, 11, 14, 13⟩] ⟨0, 11, 18, 34⟩ [] (vx_table (x := yL_type) B (h2 _ (tb_4 197 rfl rfl))) (fun z hz => by cases List.mem_singleton.mp hz; exact Or.inr ⟨by decide, eI, h2 _ (tb_2 103 rfl rfl), hKa.1.2.2.2.2.2.2⟩) rfl (by decide) (h2 _ (tb_3 65 rfl rfl)) (va_Nw.use rfl (hKa.1.2.2.2.2.1 (eU, eU) (List.mem_of_getElem? (i := 1) rfl))) g3 g4 g5 ?_
      refine lv_astore hx hb (eL_type (18, .astore 5, 2) (List.mem_of_getElem? (i := 12) rfl)) hl (by decide) rfl (fun ls7 hl7 => ?_)
      refine ff_iconst hx hb (eL_type (20, .iconst 2, 1) (List.mem_of_getElem? (i := 13) rfl)) (by decide) (by decide) (fun v8 e8 => ?_)
      exact W.zret hx hb hr rfl (fun t ht hW => ⟨_, ro, rfl, fun _ _ h => h, by rw [ht]; exact hh1.l0, by rw [ht]; exact kp1⟩) hh1.2.2.1 (eL_type (21, .ireturn, 1) (List.mem_of_getElem? (i := 14) rfl))
    cases hE
def tL_read : List (Nat × Instr × Nat) := [(0, .aload_n 2, 1), (1, .iconst 0, 1), (2, .aload_n 0, 1), (3, .iload_n 1, 1), (4, .invokevirtual 68, 3), (7, .lastore, 1), (8, .goto 6, 3), (11, .astore_n 3, 1), (12, .iconst 1, 1), (13, .ireturn, 1), (14, .iconst 0, 1), (15, .ireturn, 1)]
set_option maxRecDepth 100000 in
theorem eL_read : ∀ x ∈ tL_read, decode cL_read x.1 = .ok x.2 := by decide +kernel
set_option maxRecDepth 100000 in
set_option maxHeartbeats 4000000 in
theorem wL_read (l : Launch) (hst : l.stackTraces = false) (D : va_G) (cA : Nat → ClassId) (ro : Nat → Option Nat) (sz : Nat) (H0 : Heap) (x : Nat) (p1 : Int32) (o : Nat) (hx10 : ro x = some 10) (ho : ro o = some 42) : Met l yL_read (Cond.codeWith yL_read cL_read 4 (some .int) [(0, 8, 11, 13)] :: gT) { frames := 8, cells := 1, slots := 6, locals := 193 } (zw_Pc D cA ro sz H0 [.ref x, .int p1, .ref o]) (zw_Qk D cA ro sz H0 [(0, 2), (0, 3), (0, 4), (1, 0), (1, 1), (1, 2), (1, 3), (1, 4), (1, 5), (1, 6), (1, 7), (1, 8), (1, 9), (2, 0), (2, 1), (2, 2), (2, 3), (2, 4), (7, 0), (7, 1), (7, 2), (7, 3), (7, 4), (7, 5), (7, 6), (7, 7), (7, 8), (7, 9), (7, 10), (7, 11), (7, 12), (7, 13), (17, 0), (18, 0), (42, 0)]) 1 6 (zy_fr sz) := by
  refine zw_ofW (cc := cL_read) (maxL := 4) (ret := some .int) (by decide +kernel) rfl ?_
  intro p e s m args below meth c s1 B hml hv
  obtain ⟨rfl, hh, hKa⟩ := hv
  have hx := B.exec
  have hb := B.bytes
  have hr := B.returns
  have hlk := B.notSynchronized
  have hts0 := atoms_spec (ws := Cond.codeWith yL_read cL_read 4 (some .int) [(0, 8, 11, 13)] :: gT) B.pre
  have h2 : ∀ w ∈ gT, w.before ([.ref x, .int p1, .ref o] : List Value).toArray s = true := fun w hw => hts0 w (List.mem_cons_of_mem _ hw)
  have hown : s.vm.findClass RL = some m.cls := findClass_of_methodNamed B.named
  have hl := lv_entry [.ref x, .int p1, .ref o] (n := 4) (Nat.le_of_ble_eq_true rfl)
  rw [lg_entry_eq]
  generalize (lg_sl [.ref x, .int p1, .ref o] ++ List.replicate (4 - (lg_sl [.ref x, .int p1, .ref o]).length) Slot.unset).toArray = ls at hl ⊢
  refine lv_aload_n hx hb (eL_read (0, .aload_n 2, 1) (List.mem_of_getElem? (i := 0) rfl)) rfl (lv_at hl 2 rfl) ?_
  refine ff_iconst hx hb (eL_read (1, .iconst 0, 1) (List.mem_of_getElem? (i := 1) rfl)) (by decide) (by decide) (fun v1 e1 => ?_)
  refine lv_aload_n hx hb (eL_read (2, .aload_n 0, 1) (List.mem_of_getElem? (i := 2) rfl)) rfl (lv_at hl 0 rfl) ?_
  refine lv_iload_n hx hb (eL_read (3, .iload_n 1, 1) (List.mem_of_getElem? (i := 3) rfl)) rfl (lv_at hl 1 rfl) ?_
  refine zx_rowG (As := [.int p1]) (st := [.int v1, .ref o]) (b := x) (C := RX11) hx hb hml hown hts0 (mX11_read l hst D cA ro sz H0) ⟨rfl, rfl⟩ ⟨by decide, by decide⟩ ⟨by decide, by decide⟩ (tb_4 210 rfl rfl) (tb_1 1 rfl rfl) (tb_4 207 rfl rfl) (tb_4 208 rfl rfl) (tb_4 209 rfl rfl) rfl (show yX11_read.cls ≠ "java/lang/invoke/MethodHandle" ∧ yX11_read.cls ≠ "java/lang/invoke/VarHandle" ∧ (parseMethodDescriptor yX11_read.desc).map (fun d => d.parameters.length) = some 1 by decide +kernel) zx_blind (zw_ob hh hKa.1.1.1 hx10) (fun U hU hW => ⟨_, rfl, by rw [hU]; exact hh, ⟨⟨Or.inr ⟨x, rfl, hx10⟩, ⟨p1, rfl, (zn_i32 p1).1, (zn_i32 p1).2⟩, trivial⟩, fun e he => (by cases he), fun f hf => (by cases hf)⟩, hKa.1.warm hW⟩) (fun q hq => by cases hq) hl.1 (Nat.le_of_ble_eq_true rfl) (eL_read (4, .invokevirtual 68, 3) (List.mem_of_getElem? (i := 4) rfl)) (fun v s0 t lo1 g0 g1 g2 => ?_) (fun q s0 t lo1 E ce g0 g1 g3 g4 g5 g2 => ?_)
  · obtain ⟨vs9, x9, q1, q2, q3, q4, q5⟩ := g1
    cases q2
    obtain ⟨w9, rfl, y9, rfl, -, -⟩ := zc_one (t := (1, (-9223372036854775808), 9223372036854775807)) (L := []) q5
    have hh1 : zh_ok D cA RTg ro sz H0 t.heap lo1 := ⟨q3.1, q3.2.1, g2, q3.2.2.2⟩
    refine W.eq (g2 := F0 m 7 ls [.long y9, .int v1, .ref o]) rfl ?_
    have kp1 : zc_kept D RTg ro [(0, 2), (0, 3), (0, 4), (1, 0), (1, 1), (1, 2), (1, 3), (1, 4), (1, 5), (1, 6), (1, 7), (1, 8), (1, 9), (2, 0), (2, 1), (2, 2), (2, 3), (2, 4), (7, 0), (7, 1), (7, 2), (7, 3), (7, 4), (7, 5), (7, 6), (7, 7), (7, 8), (7, 9), (7, 10), (7, 11), (7, 12), (7, 13), (17, 0), (18, 0), (42, 0)] s.heap t.heap := by rw [g0] at q4; exact q4.mono (by decide)
    refine zw_out hx hb hh1 hKa.1.1.1 ho (by omega) (eL_read (7, .lastore, 1) (List.mem_of_getElem? (i := 5) rfl)) (fun H2 lo2 hh2 hq2 _ _ => ?_)
    have kp2 := kp1.trans (zk_setA (ms := [(0, 2), (0, 3), (0, 4), (1, 0), (1, 1), (1, 2), (1, 3), (1, 4), (1, 5), (1, 6), (1, 7), (1, 8), (1, 9), (2, 0), (2, 1), (2, 2), (2, 3), (2, 4), (7, 0), (7, 1), (7, 2), (7, 3), (7, 4), (7, 5), (7, 6), (7, 7), (7, 8), (7, 9), (7, 10), (7, 11), (7, 12), (7, 13), (17, 0), (18, 0), (42, 0)]) (by decide) ho rfl hq2)
    refine lv_goto hx hb (eL_read (8, .goto 6, 3) (List.mem_of_getElem? (i := 6) rfl)) (tgt := 14) rfl ?_
    refine ff_iconst hx hb (eL_read (14, .iconst 0, 1) (List.mem_of_getElem? (i := 10) rfl)) (by decide) (by decide) (fun v3 e3 => ?_)
    exact W.zret hx hb hr rfl (fun t ht hW => ⟨_, ro, rfl, fun _ _ h => h, by rw [ht]; exact hh2.l0, by rw [ht]; exact kp2⟩) hh2.2.2.1 (eL_read (15, .ireturn, 1) (List.mem_of_getElem? (i := 11) rfl))
  · have hh1 : zh_ok D cA RTg ro sz H0 t.heap lo1 := ⟨g1.2.1.1, g1.2.1.2.1, g2, g1.2.1.2.2.2⟩
    have kp1 : zc_kept D RTg ro [(0, 2), (0, 3), (0, 4), (1, 0), (1, 1), (1, 2), (1, 3), (1, 4), (1, 5), (1, 6), (1, 7), (1, 8), (1, 9), (2, 0), (2, 1), (2, 2), (2, 3), (2, 4), (7, 0), (7, 1), (7, 2), (7, 3), (7, 4), (7, 5), (7, 6), (7, 7), (7, 8), (7, 9), (7, 10), (7, 11), (7, 12), (7, 13), (17, 0), (18, 0), (42, 0)] s.heap t.heap := by have g9 := g1.2.2; rw [g0] at g9; exact g9.mono (by decide)
    have hE := g1.1
    refine (List.mem_cons.mp hE).elim (fun g => ?_) (fun hE => ?_)
    · subst g
      refine vx_catch (own := RL) (name := "java/lang/IllegalArgumentException") hown [] ⟨0, 8, 11, 13⟩ [] (vx_table (x := yL_read) B (h2 _ (tb_4 206 rfl rfl))) (fun z hz => by cases hz) rfl (by decide) (h2 _ (tb_2 103 rfl rfl)) (va_Nw.use rfl (hKa.1.2.2.2.2.1 (eI, eI) (List.mem_of_getElem? (i := 0) rfl))) g3 g4 g5 ?_
      refine lv_astore_n hx hb (eL_read (11, .astore_n 3, 1) (List.mem_of_getElem? (i := 7) rfl)) rfl hl (by decide) rfl (fun ls4 hl4 => ?_)
      refine ff_iconst hx hb (eL_read (12, .iconst 1, 1) (List.mem_of_getElem? (i := 8) rfl)) (by decide) (by decide) (fun v5 e5 => ?_)
      exact W.zret hx hb hr rfl (fun t ht hW => ⟨_, ro, rfl, fun _ _ h => h, by rw [ht]; exact hh1.l0, by rw [ht]; exact kp1⟩) hh1.2.2.1 (eL_read (13, .ireturn, 1) (List.mem_of_getElem? (i := 9) rfl))
    cases hE
def tL_field : List (Nat × Instr × Nat) := [(0, .aload_n 3, 1), (1, .iconst 0, 1), (2, .aload_n 0, 1), (3, .iload_n 1, 1), (4, .iload_n 2, 1), (5, .invokevirtual 71, 3), (8, .lastore, 1), (9, .goto 7, 3), (12, .astore 4, 2), (14, .iconst 1, 1), (15, .ireturn, 1), (16, .iconst 0, 1), (17, .ireturn, 1)]
set_option maxRecDepth 100000 in
theorem eL_field : ∀ x ∈ tL_field, decode cL_field x.1 = .ok x.2 := by decide +kernel
set_option maxRecDepth 100000 in
set_option maxHeartbeats 4000000 in
theorem wL_field (l : Launch) (hst : l.stackTraces = false) (D : va_G) (cA : Nat → ClassId) (ro : Nat → Option Nat) (sz : Nat) (H0 : Heap) (x : Nat) (p1 : Int32) (p2 : Int32) (o : Nat) (hx10 : ro x = some 10) (ho : ro o = some 42) : Met l yL_field (Cond.codeWith yL_field cL_field 5 (some .int) [(0, 9, 12, 13)] :: gT) { frames := 7, cells := 1, slots := 6, locals := 104 } (zw_Pc D cA ro sz H0 [.ref x, .int p1, .int p2, .ref o]) (zw_Qk D cA ro sz H0 [(42, 0)]) 1 6 (zy_fr sz) := by
  refine zw_ofW (cc := cL_field) (maxL := 5) (ret := some .int) (by decide +kernel) rfl ?_
  intro p e s m args below meth c s1 B hml hv
  obtain ⟨rfl, hh, hKa⟩ := hv
  have hx := B.exec
  have hb := B.bytes
  have hr := B.returns
  have hlk := B.notSynchronized
  have hts0 := atoms_spec (ws := Cond.codeWith yL_field cL_field 5 (some .int) [(0, 9, 12, 13)] :: gT) B.pre
  have h2 : ∀ w ∈ gT, w.before ([.ref x, .int p1, .int p2, .ref o] : List Value).toArray s = true := fun w hw => hts0 w (List.mem_cons_of_mem _ hw)
  have hown : s.vm.findClass RL = some m.cls := findClass_of_methodNamed B.named
  have hl := lv_entry [.ref x, .int p1, .int p2, .ref o] (n := 5) (Nat.le_of_ble_eq_true rfl)
  rw [lg_entry_eq]
  generalize (lg_sl [.ref x, .int p1, .int p2, .ref o] ++ List.replicate (5 - (lg_sl [.ref x, .int p1, .int p2, .ref o]).length) Slot.unset).toArray = ls at hl ⊢
  refine lv_aload_n hx hb (eL_field (0, .aload_n 3, 1) (List.mem_of_getElem? (i := 0) rfl)) rfl (lv_at hl 3 rfl) ?_
  refine ff_iconst hx hb (eL_field (1, .iconst 0, 1) (List.mem_of_getElem? (i := 1) rfl)) (by decide) (by decide) (fun v1 e1 => ?_)
  refine lv_aload_n hx hb (eL_field (2, .aload_n 0, 1) (List.mem_of_getElem? (i := 2) rfl)) rfl (lv_at hl 0 rfl) ?_
  refine lv_iload_n hx hb (eL_field (3, .iload_n 1, 1) (List.mem_of_getElem? (i := 3) rfl)) rfl (lv_at hl 1 rfl) ?_
  refine lv_iload_n hx hb (eL_field (4, .iload_n 2, 1) (List.mem_of_getElem? (i := 4) rfl)) rfl (lv_at hl 2 rfl) ?_
  refine zx_rowG (As := [.int p1, .int p2]) (st := [.int v1, .ref o]) (b := x) (C := RX11) hx hb hml hown hts0 (mX11_field l hst D cA ro sz H0) ⟨rfl, rfl⟩ ⟨by decide, by decide⟩ ⟨by decide, by decide⟩ (tb_5 195 rfl rfl) (tb_1 1 rfl rfl) (tb_5 192 rfl rfl) (tb_5 193 rfl rfl) (tb_5 194 rfl rfl) rfl (show yX11_field.cls ≠ "java/lang/invoke/MethodHandle" ∧ yX11_field.cls ≠ "java/lang/invoke/VarHandle" ∧ (parseMethodDescriptor yX11_field.desc).map (fun d => d.parameters.length) = some 2 by decide +kernel) zx_blind (zw_ob hh hKa.1.1.1 hx10) (fun U hU hW => ⟨_, rfl, by rw [hU]; exact hh, ⟨⟨Or.inr ⟨x, rfl, hx10⟩, ⟨p1, rfl, (zn_i32 p1).1, (zn_i32 p1).2⟩, ⟨p2, rfl, (zn_i32 p2).1, (zn_i32 p2).2⟩, trivial⟩, fun e he => (by cases he), fun f hf => (by cases hf)⟩, hKa.1.warm hW⟩) (fun q hq => by cases hq) hl.1 (Nat.le_of_ble_eq_true rfl) (eL_field (5, .invokevirtual 71, 3) (List.mem_of_getElem? (i := 5) rfl)) (fun v s0 t lo1 g0 g1 g2 => ?_) (fun q s0 t lo1 E ce g0 g1 g3 g4 g5 g2 => ?_)
  · obtain ⟨vs9, x9, q1, q2, q3, q4, q5⟩ := g1
    cases q2
    obtain ⟨w9, rfl, y9, rfl, -, -⟩ := zc_one (t := (1, (-9223372036854775808), 9223372036854775807)) (L := []) q5
    have hh1 : zh_ok D cA RTg ro sz H0 t.heap lo1 := ⟨q3.1, q3.2.1, g2, q3.2.2.2⟩
    refine W.eq (g2 := F0 m 8 ls [.long y9, .int v1, .ref o]) rfl ?_
    have kp1 : zc_kept D RTg ro [(42, 0)] s.heap t.heap := by rw [g0] at q4; exact q4.mono (by decide)
    refine zw_out hx hb hh1 hKa.1.1.1 ho (by omega) (eL_field (8, .lastore, 1) (List.mem_of_getElem? (i := 6) rfl)) (fun H2 lo2 hh2 hq2 _ _ => ?_)
    have kp2 := kp1.trans (zk_setA (ms := [(42, 0)]) (by decide) ho rfl hq2)
    refine lv_goto hx hb (eL_field (9, .goto 7, 3) (List.mem_of_getElem? (i := 7) rfl)) (tgt := 16) rfl ?_
    refine ff_iconst hx hb (eL_field (16, .iconst 0, 1) (List.mem_of_getElem? (i := 11) rfl)) (by decide) (by decide) (fun v3 e3 => ?_)
    exact W.zret hx hb hr rfl (fun t ht hW => ⟨_, ro, rfl, fun _ _ h => h, by rw [ht]; exact hh2.l0, by rw [ht]; exact kp2⟩) hh2.2.2.1 (eL_field (17, .ireturn, 1) (List.mem_of_getElem? (i := 12) rfl))
  · have hh1 : zh_ok D cA RTg ro sz H0 t.heap lo1 := ⟨g1.2.1.1, g1.2.1.2.1, g2, g1.2.1.2.2.2⟩
    have kp1 : zc_kept D RTg ro [(42, 0)] s.heap t.heap := by have g9 := g1.2.2; rw [g0] at g9; exact g9.mono (by decide)
    have hE := g1.1
    refine (List.mem_cons.mp hE).elim (fun g => ?_) (fun hE => ?_)
    · subst g
      refine vx_catch (own := RL) (name := "java/lang/IllegalArgumentException") hown [] ⟨0, 9, 12, 13⟩ [] (vx_table (x := yL_field) B (h2 _ (tb_5 191 rfl rfl))) (fun z hz => by cases hz) rfl (by decide) (h2 _ (tb_2 103 rfl rfl)) (va_Nw.use rfl (hKa.1.2.2.2.2.1 (eI, eI) (List.mem_of_getElem? (i := 0) rfl))) g3 g4 g5 ?_
      refine lv_astore hx hb (eL_field (12, .astore 4, 2) (List.mem_of_getElem? (i := 8) rfl)) hl (by decide) rfl (fun ls4 hl4 => ?_)
      refine ff_iconst hx hb (eL_field (14, .iconst 1, 1) (List.mem_of_getElem? (i := 9) rfl)) (by decide) (by decide) (fun v5 e5 => ?_)
      exact W.zret hx hb hr rfl (fun t ht hW => ⟨_, ro, rfl, fun _ _ h => h, by rw [ht]; exact hh1.l0, by rw [ht]; exact kp1⟩) hh1.2.2.1 (eL_field (15, .ireturn, 1) (List.mem_of_getElem? (i := 10) rfl))
    cases hE
def tL_writeDate : List (Nat × Instr × Nat) := [(0, .aload 4, 2), (2, .iconst 0, 1), (3, .aload_n 0, 1), (4, .lload_n 1, 1), (5, .iload_n 3, 1), (6, .invokevirtual 75, 3), (9, .i2l, 1), (10, .lastore, 1), (11, .goto 7, 3), (14, .astore 5, 2), (16, .iconst 1, 1), (17, .ireturn, 1), (18, .iconst 0, 1), (19, .ireturn, 1)]
set_option maxRecDepth 100000 in
theorem eL_writeDate : ∀ x ∈ tL_writeDate, decode cL_writeDate x.1 = .ok x.2 := by decide +kernel
set_option maxRecDepth 100000 in
set_option maxHeartbeats 4000000 in
theorem wL_writeDate (l : Launch) (hst : l.stackTraces = false) (D : va_G) (cA : Nat → ClassId) (ro : Nat → Option Nat) (sz : Nat) (H0 : Heap) (x : Nat) (p1 : Int64) (p2 : Int32) (o : Nat) (hx10 : ro x = some 10) (ho : ro o = some 42) : Met l yL_writeDate (Cond.codeWith yL_writeDate cL_writeDate 6 (some .int) [(0, 11, 14, 13)] :: gT) { frames := 7, cells := 1, slots := 6, locals := 139 } (zw_Pc D cA ro sz H0 [.ref x, .long p1, .int p2, .ref o]) (zw_Qk D cA ro sz H0 [(8, 1), (16, 0), (42, 0)]) 1 6 (zy_fr sz) := by
  refine zw_ofW (cc := cL_writeDate) (maxL := 6) (ret := some .int) (by decide +kernel) rfl ?_
  intro p e s m args below meth c s1 B hml hv
  obtain ⟨rfl, hh, hKa⟩ := hv
  have hx := B.exec
  have hb := B.bytes
  have hr := B.returns
  have hlk := B.notSynchronized
  have hts0 := atoms_spec (ws := Cond.codeWith yL_writeDate cL_writeDate 6 (some .int) [(0, 11, 14, 13)] :: gT) B.pre
  have h2 : ∀ w ∈ gT, w.before ([.ref x, .long p1, .int p2, .ref o] : List Value).toArray s = true := fun w hw => hts0 w (List.mem_cons_of_mem _ hw)
  have hown : s.vm.findClass RL = some m.cls := findClass_of_methodNamed B.named
  have hl := lv_entry [.ref x, .long p1, .int p2, .ref o] (n := 6) (Nat.le_of_ble_eq_true rfl)
  rw [lg_entry_eq]
  generalize (lg_sl [.ref x, .long p1, .int p2, .ref o] ++ List.replicate (6 - (lg_sl [.ref x, .long p1, .int p2, .ref o]).length) Slot.unset).toArray = ls at hl ⊢
  refine lv_aload hx hb (eL_writeDate (0, .aload 4, 2) (List.mem_of_getElem? (i := 0) rfl)) (lv_at hl 3 rfl) ?_
  refine ff_iconst hx hb (eL_writeDate (2, .iconst 0, 1) (List.mem_of_getElem? (i := 1) rfl)) (by decide) (by decide) (fun v1 e1 => ?_)
  refine lv_aload_n hx hb (eL_writeDate (3, .aload_n 0, 1) (List.mem_of_getElem? (i := 2) rfl)) rfl (lv_at hl 0 rfl) ?_
  refine lv_lload_n hx hb (eL_writeDate (4, .lload_n 1, 1) (List.mem_of_getElem? (i := 3) rfl)) rfl (lv_at hl 1 rfl) ?_
  refine lv_iload_n hx hb (eL_writeDate (5, .iload_n 3, 1) (List.mem_of_getElem? (i := 4) rfl)) rfl (lv_at hl 2 rfl) ?_
  refine zx_rowG (As := [.long p1, .int p2]) (st := [.int v1, .ref o]) (b := x) (C := RX11) hx hb hml hown hts0 (mX11_writeDate l hst D cA ro sz H0) ⟨rfl, rfl⟩ ⟨by decide, by decide⟩ ⟨by decide, by decide⟩ (tb_5 203 rfl rfl) (tb_1 1 rfl rfl) (tb_5 200 rfl rfl) (tb_5 201 rfl rfl) (tb_5 202 rfl rfl) rfl (show yX11_writeDate.cls ≠ "java/lang/invoke/MethodHandle" ∧ yX11_writeDate.cls ≠ "java/lang/invoke/VarHandle" ∧ (parseMethodDescriptor yX11_writeDate.desc).map (fun d => d.parameters.length) = some 2 by decide +kernel) zx_blind (zw_ob hh hKa.1.1.1 hx10) (fun U hU hW => ⟨_, rfl, by rw [hU]; exact hh, ⟨⟨Or.inr ⟨x, rfl, hx10⟩, ⟨p1, rfl, (zn_i64 p1).1, (zn_i64 p1).2⟩, ⟨p2, rfl, (zn_i32 p2).1, (zn_i32 p2).2⟩, trivial⟩, fun e he => (by cases he), fun f hf => (by cases hf)⟩, hKa.1.warm hW⟩) (fun q hq => by cases hq) hl.1 (Nat.le_of_ble_eq_true rfl) (eL_writeDate (6, .invokevirtual 75, 3) (List.mem_of_getElem? (i := 5) rfl)) (fun v s0 t lo1 g0 g1 g2 => ?_) (fun q s0 t lo1 E ce g0 g1 g3 g4 g5 g2 => ?_)
  · obtain ⟨vs9, x9, q1, q2, q3, q4, q5⟩ := g1
    cases q2
    obtain ⟨w9, rfl, y9, rfl, -, -⟩ := zc_one (t := (0, (-2147483648), 2147483647)) (L := []) q5
    have hh1 : zh_ok D cA RTg ro sz H0 t.heap lo1 := ⟨q3.1, q3.2.1, g2, q3.2.2.2⟩
    refine W.eq (g2 := F0 m 9 ls [.int y9, .int v1, .ref o]) rfl ?_
    have kp1 : zc_kept D RTg ro [(8, 1), (16, 0), (42, 0)] s.heap t.heap := by rw [g0] at q4; exact q4.mono (by decide)
    refine ff_i2l hx hb (eL_writeDate (9, .i2l, 1) (List.mem_of_getElem? (i := 6) rfl)) (fun v2 e2 => ?_)
    refine zw_out hx hb hh1 hKa.1.1.1 ho (by omega) (eL_writeDate (10, .lastore, 1) (List.mem_of_getElem? (i := 7) rfl)) (fun H3 lo3 hh3 hq3 _ _ => ?_)
    have kp3 := kp1.trans (zk_setA (ms := [(8, 1), (16, 0), (42, 0)]) (by decide) ho rfl hq3)
    refine lv_goto hx hb (eL_writeDate (11, .goto 7, 3) (List.mem_of_getElem? (i := 8) rfl)) (tgt := 18) rfl ?_
    refine ff_iconst hx hb (eL_writeDate (18, .iconst 0, 1) (List.mem_of_getElem? (i := 12) rfl)) (by decide) (by decide) (fun v4 e4 => ?_)
    exact W.zret hx hb hr rfl (fun t ht hW => ⟨_, ro, rfl, fun _ _ h => h, by rw [ht]; exact hh3.l0, by rw [ht]; exact kp3⟩) hh3.2.2.1 (eL_writeDate (19, .ireturn, 1) (List.mem_of_getElem? (i := 13) rfl))
  · have hh1 : zh_ok D cA RTg ro sz H0 t.heap lo1 := ⟨g1.2.1.1, g1.2.1.2.1, g2, g1.2.1.2.2.2⟩
    have kp1 : zc_kept D RTg ro [(8, 1), (16, 0), (42, 0)] s.heap t.heap := by have g9 := g1.2.2; rw [g0] at g9; exact g9.mono (by decide)
    have hE := g1.1
    refine (List.mem_cons.mp hE).elim (fun g => ?_) (fun hE => ?_)
    · subst g
      refine vx_catch (own := RL) (name := "java/lang/IllegalArgumentException") hown [] ⟨0, 11, 14, 13⟩ [] (vx_table (x := yL_writeDate) B (h2 _ (tb_5 199 rfl rfl))) (fun z hz => by cases hz) rfl (by decide) (h2 _ (tb_2 103 rfl rfl)) (va_Nw.use rfl (hKa.1.2.2.2.2.1 (eI, eI) (List.mem_of_getElem? (i := 0) rfl))) g3 g4 g5 ?_
      refine lv_astore hx hb (eL_writeDate (14, .astore 5, 2) (List.mem_of_getElem? (i := 9) rfl)) hl (by decide) rfl (fun ls5 hl5 => ?_)
      refine ff_iconst hx hb (eL_writeDate (16, .iconst 1, 1) (List.mem_of_getElem? (i := 10) rfl)) (by decide) (by decide) (fun v6 e6 => ?_)
      exact W.zret hx hb hr rfl (fun t ht hW => ⟨_, ro, rfl, fun _ _ h => h, by rw [ht]; exact hh1.l0, by rw [ht]; exact kp1⟩) hh1.2.2.1 (eL_writeDate (17, .ireturn, 1) (List.mem_of_getElem? (i := 11) rfl))
    cases hE
def tL_writeInstant : List (Nat × Instr × Nat) := [(0, .aload 6, 2), (2, .iconst 0, 1), (3, .aload_n 0, 1), (4, .lload_n 1, 1), (5, .iload_n 3, 1), (6, .iload 4, 2), (8, .iload 5, 2), (10, .invokevirtual 78, 3), (13, .i2l, 1), (14, .lastore, 1), (15, .goto 7, 3), (18, .astore 7, 2), (20, .iconst 1, 1), (21, .ireturn, 1), (22, .iconst 0, 1), (23, .ireturn, 1)]
set_option maxRecDepth 100000 in
theorem eL_writeInstant : ∀ x ∈ tL_writeInstant, decode cL_writeInstant x.1 = .ok x.2 := by decide +kernel
set_option maxRecDepth 100000 in
set_option maxHeartbeats 4000000 in
theorem wL_writeInstant (l : Launch) (hst : l.stackTraces = false) (D : va_G) (cA : Nat → ClassId) (ro : Nat → Option Nat) (sz : Nat) (H0 : Heap) (x : Nat) (p1 : Int64) (p2 : Int32) (p3 : Int32) (p4 : Int32) (o : Nat) (hx10 : ro x = some 10) (ho : ro o = some 42) : Met l yL_writeInstant (Cond.codeWith yL_writeInstant cL_writeInstant 8 (some .int) [(0, 15, 18, 13)] :: gT) { frames := 7, cells := 1, slots := 6, locals := 142 } (zw_Pc D cA ro sz H0 [.ref x, .long p1, .int p2, .int p3, .int p4, .ref o]) (zw_Qk D cA ro sz H0 [(8, 1), (16, 0), (42, 0)]) 1 6 (zy_fr sz) := by
  refine zw_ofW (cc := cL_writeInstant) (maxL := 8) (ret := some .int) (by decide +kernel) rfl ?_
  intro p e s m args below meth c s1 B hml hv
  obtain ⟨rfl, hh, hKa⟩ := hv
  have hx := B.exec
  have hb := B.bytes
  have hr := B.returns
  have hlk := B.notSynchronized
  have hts0 := atoms_spec (ws := Cond.codeWith yL_writeInstant cL_writeInstant 8 (some .int) [(0, 15, 18, 13)] :: gT) B.pre
  have h2 : ∀ w ∈ gT, w.before ([.ref x, .long p1, .int p2, .int p3, .int p4, .ref o] : List Value).toArray s = true := fun w hw => hts0 w (List.mem_cons_of_mem _ hw)
  have hown : s.vm.findClass RL = some m.cls := findClass_of_methodNamed B.named
  have hl := lv_entry [.ref x, .long p1, .int p2, .int p3, .int p4, .ref o] (n := 8) (Nat.le_of_ble_eq_true rfl)
  rw [lg_entry_eq]
  generalize (lg_sl [.ref x, .long p1, .int p2, .int p3, .int p4, .ref o] ++ List.replicate (8 - (lg_sl [.ref x, .long p1, .int p2, .int p3, .int p4, .ref o]).length) Slot.unset).toArray = ls at hl ⊢
  refine lv_aload hx hb (eL_writeInstant (0, .aload 6, 2) (List.mem_of_getElem? (i := 0) rfl)) (lv_at hl 5 rfl) ?_
  refine ff_iconst hx hb (eL_writeInstant (2, .iconst 0, 1) (List.mem_of_getElem? (i := 1) rfl)) (by decide) (by decide) (fun v1 e1 => ?_)
  refine lv_aload_n hx hb (eL_writeInstant (3, .aload_n 0, 1) (List.mem_of_getElem? (i := 2) rfl)) rfl (lv_at hl 0 rfl) ?_
  refine lv_lload_n hx hb (eL_writeInstant (4, .lload_n 1, 1) (List.mem_of_getElem? (i := 3) rfl)) rfl (lv_at hl 1 rfl) ?_
  refine lv_iload_n hx hb (eL_writeInstant (5, .iload_n 3, 1) (List.mem_of_getElem? (i := 4) rfl)) rfl (lv_at hl 2 rfl) ?_
  refine lv_iload hx hb (eL_writeInstant (6, .iload 4, 2) (List.mem_of_getElem? (i := 5) rfl)) (lv_at hl 3 rfl) ?_
  refine lv_iload hx hb (eL_writeInstant (8, .iload 5, 2) (List.mem_of_getElem? (i := 6) rfl)) (lv_at hl 4 rfl) ?_
  refine zx_rowG (As := [.long p1, .int p2, .int p3, .int p4]) (st := [.int v1, .ref o]) (b := x) (C := RX11) hx hb hml hown hts0 (mX11_writeInstant l hst D cA ro sz H0) ⟨rfl, rfl⟩ ⟨by decide, by decide⟩ ⟨by decide, by decide⟩ (tb_6 17 rfl rfl) (tb_1 1 rfl rfl) (tb_6 14 rfl rfl) (tb_6 15 rfl rfl) (tb_6 16 rfl rfl) rfl (show yX11_writeInstant.cls ≠ "java/lang/invoke/MethodHandle" ∧ yX11_writeInstant.cls ≠ "java/lang/invoke/VarHandle" ∧ (parseMethodDescriptor yX11_writeInstant.desc).map (fun d => d.parameters.length) = some 4 by decide +kernel) zx_blind (zw_ob hh hKa.1.1.1 hx10) (fun U hU hW => ⟨_, rfl, by rw [hU]; exact hh, ⟨⟨Or.inr ⟨x, rfl, hx10⟩, ⟨p1, rfl, (zn_i64 p1).1, (zn_i64 p1).2⟩, ⟨p2, rfl, (zn_i32 p2).1, (zn_i32 p2).2⟩, ⟨p3, rfl, (zn_i32 p3).1, (zn_i32 p3).2⟩, ⟨p4, rfl, (zn_i32 p4).1, (zn_i32 p4).2⟩, trivial⟩, fun e he => (by cases he), fun f hf => (by cases hf)⟩, hKa.1.warm hW⟩) (fun q hq => by cases hq) hl.1 (Nat.le_of_ble_eq_true rfl) (eL_writeInstant (10, .invokevirtual 78, 3) (List.mem_of_getElem? (i := 7) rfl)) (fun v s0 t lo1 g0 g1 g2 => ?_) (fun q s0 t lo1 E ce g0 g1 g3 g4 g5 g2 => ?_)
  · obtain ⟨vs9, x9, q1, q2, q3, q4, q5⟩ := g1
    cases q2
    obtain ⟨w9, rfl, y9, rfl, -, -⟩ := zc_one (t := (0, (-2147483648), 2147483647)) (L := []) q5
    have hh1 : zh_ok D cA RTg ro sz H0 t.heap lo1 := ⟨q3.1, q3.2.1, g2, q3.2.2.2⟩
    refine W.eq (g2 := F0 m 13 ls [.int y9, .int v1, .ref o]) rfl ?_
    have kp1 : zc_kept D RTg ro [(8, 1), (16, 0), (42, 0)] s.heap t.heap := by rw [g0] at q4; exact q4.mono (by decide)
    refine ff_i2l hx hb (eL_writeInstant (13, .i2l, 1) (List.mem_of_getElem? (i := 8) rfl)) (fun v2 e2 => ?_)
    refine zw_out hx hb hh1 hKa.1.1.1 ho (by omega) (eL_writeInstant (14, .lastore, 1) (List.mem_of_getElem? (i := 9) rfl)) (fun H3 lo3 hh3 hq3 _ _ => ?_)
    have kp3 := kp1.trans (zk_setA (ms := [(8, 1), (16, 0), (42, 0)]) (by decide) ho rfl hq3)
    refine lv_goto hx hb (eL_writeInstant (15, .goto 7, 3) (List.mem_of_getElem? (i := 10) rfl)) (tgt := 22) rfl ?_
    refine ff_iconst hx hb (eL_writeInstant (22, .iconst 0, 1) (List.mem_of_getElem? (i := 14) rfl)) (by decide) (by decide) (fun v4 e4 => ?_)
    exact W.zret hx hb hr rfl (fun t ht hW => ⟨_, ro, rfl, fun _ _ h => h, by rw [ht]; exact hh3.l0, by rw [ht]; exact kp3⟩) hh3.2.2.1 (eL_writeInstant (23, .ireturn, 1) (List.mem_of_getElem? (i := 15) rfl))
  · have hh1 : zh_ok D cA RTg ro sz H0 t.heap lo1 := ⟨g1.2.1.1, g1.2.1.2.1, g2, g1.2.1.2.2.2⟩
    have kp1 : zc_kept D RTg ro [(8, 1), (16, 0), (42, 0)] s.heap t.heap := by have g9 := g1.2.2; rw [g0] at g9; exact g9.mono (by decide)
    have hE := g1.1
    refine (List.mem_cons.mp hE).elim (fun g => ?_) (fun hE => ?_)
    · subst g
      refine vx_catch (own := RL) (name := "java/lang/IllegalArgumentException") hown [] ⟨0, 15, 18, 13⟩ [] (vx_table (x := yL_writeInstant) B (h2 _ (tb_6 13 rfl rfl))) (fun z hz => by cases hz) rfl (by decide) (h2 _ (tb_2 103 rfl rfl)) (va_Nw.use rfl (hKa.1.2.2.2.2.1 (eI, eI) (List.mem_of_getElem? (i := 0) rfl))) g3 g4 g5 ?_
      refine lv_astore hx hb (eL_writeInstant (18, .astore 7, 2) (List.mem_of_getElem? (i := 11) rfl)) hl (by decide) rfl (fun ls5 hl5 => ?_)
      refine ff_iconst hx hb (eL_writeInstant (20, .iconst 1, 1) (List.mem_of_getElem? (i := 12) rfl)) (by decide) (by decide) (fun v6 e6 => ?_)
      exact W.zret hx hb hr rfl (fun t ht hW => ⟨_, ro, rfl, fun _ _ h => h, by rw [ht]; exact hh1.l0, by rw [ht]; exact kp1⟩) hh1.2.2.1 (eL_writeInstant (21, .ireturn, 1) (List.mem_of_getElem? (i := 13) rfl))
    cases hE
def tL_writeDuration : List (Nat × Instr × Nat) := [(0, .aload 8, 2), (2, .iconst 0, 1), (3, .aload_n 0, 1), (4, .lload_n 1, 1), (5, .lload_n 3, 1), (6, .lload 5, 2), (8, .iload 7, 2), (10, .invokevirtual 82, 3), (13, .i2l, 1), (14, .lastore, 1), (15, .goto 7, 3), (18, .astore 9, 2), (20, .iconst 1, 1), (21, .ireturn, 1), (22, .iconst 0, 1), (23, .ireturn, 1)]
set_option maxRecDepth 100000 in
theorem eL_writeDuration : ∀ x ∈ tL_writeDuration, decode cL_writeDuration x.1 = .ok x.2 := by decide +kernel
set_option maxRecDepth 100000 in
set_option maxHeartbeats 4000000 in
theorem wL_writeDuration (l : Launch) (hst : l.stackTraces = false) (D : va_G) (cA : Nat → ClassId) (ro : Nat → Option Nat) (sz : Nat) (H0 : Heap) (x : Nat) (p1 : Int64) (p2 : Int64) (p3 : Int64) (p4 : Int32) (o : Nat) (hx10 : ro x = some 10) (ho : ro o = some 42) : Met l yL_writeDuration (Cond.codeWith yL_writeDuration cL_writeDuration 10 (some .int) [(0, 15, 18, 13)] :: gT) { frames := 7, cells := 1, slots := 6, locals := 109 } (zw_Pc D cA ro sz H0 [.ref x, .long p1, .long p2, .long p3, .int p4, .ref o]) (zw_Qk D cA ro sz H0 [(8, 1), (16, 0), (42, 0)]) 1 6 (zy_fr sz) := by
  refine zw_ofW (cc := cL_writeDuration) (maxL := 10) (ret := some .int) (by decide +kernel) rfl ?_
  intro p e s m args below meth c s1 B hml hv
  obtain ⟨rfl, hh, hKa⟩ := hv
  have hx := B.exec
  have hb := B.bytes
  have hr := B.returns
  have hlk := B.notSynchronized
  have hts0 := atoms_spec (ws := Cond.codeWith yL_writeDuration cL_writeDuration 10 (some .int) [(0, 15, 18, 13)] :: gT) B.pre
  have h2 : ∀ w ∈ gT, w.before ([.ref x, .long p1, .long p2, .long p3, .int p4, .ref o] : List Value).toArray s = true := fun w hw => hts0 w (List.mem_cons_of_mem _ hw)
  have hown : s.vm.findClass RL = some m.cls := findClass_of_methodNamed B.named
  have hl := lv_entry [.ref x, .long p1, .long p2, .long p3, .int p4, .ref o] (n := 10) (Nat.le_of_ble_eq_true rfl)
  rw [lg_entry_eq]
  generalize (lg_sl [.ref x, .long p1, .long p2, .long p3, .int p4, .ref o] ++ List.replicate (10 - (lg_sl [.ref x, .long p1, .long p2, .long p3, .int p4, .ref o]).length) Slot.unset).toArray = ls at hl ⊢
  refine lv_aload hx hb (eL_writeDuration (0, .aload 8, 2) (List.mem_of_getElem? (i := 0) rfl)) (lv_at hl 5 rfl) ?_
  refine ff_iconst hx hb (eL_writeDuration (2, .iconst 0, 1) (List.mem_of_getElem? (i := 1) rfl)) (by decide) (by decide) (fun v1 e1 => ?_)
  refine lv_aload_n hx hb (eL_writeDuration (3, .aload_n 0, 1) (List.mem_of_getElem? (i := 2) rfl)) rfl (lv_at hl 0 rfl) ?_
  refine lv_lload_n hx hb (eL_writeDuration (4, .lload_n 1, 1) (List.mem_of_getElem? (i := 3) rfl)) rfl (lv_at hl 1 rfl) ?_
  refine lv_lload_n hx hb (eL_writeDuration (5, .lload_n 3, 1) (List.mem_of_getElem? (i := 4) rfl)) rfl (lv_at hl 2 rfl) ?_
  refine lv_lload hx hb (eL_writeDuration (6, .lload 5, 2) (List.mem_of_getElem? (i := 5) rfl)) (lv_at hl 3 rfl) ?_
  refine lv_iload hx hb (eL_writeDuration (8, .iload 7, 2) (List.mem_of_getElem? (i := 6) rfl)) (lv_at hl 4 rfl) ?_
  refine zx_rowG (As := [.long p1, .long p2, .long p3, .int p4]) (st := [.int v1, .ref o]) (b := x) (C := RX11) hx hb hml hown hts0 (mX11_writeDuration l hst D cA ro sz H0) ⟨rfl, rfl⟩ ⟨by decide, by decide⟩ ⟨by decide, by decide⟩ (tb_6 41 rfl rfl) (tb_1 1 rfl rfl) (tb_6 38 rfl rfl) (tb_6 39 rfl rfl) (tb_6 40 rfl rfl) rfl (show yX11_writeDuration.cls ≠ "java/lang/invoke/MethodHandle" ∧ yX11_writeDuration.cls ≠ "java/lang/invoke/VarHandle" ∧ (parseMethodDescriptor yX11_writeDuration.desc).map (fun d => d.parameters.length) = some 4 by decide +kernel) zx_blind (zw_ob hh hKa.1.1.1 hx10) (fun U hU hW => ⟨_, rfl, by rw [hU]; exact hh, ⟨⟨Or.inr ⟨x, rfl, hx10⟩, ⟨p1, rfl, (zn_i64 p1).1, (zn_i64 p1).2⟩, ⟨p2, rfl, (zn_i64 p2).1, (zn_i64 p2).2⟩, ⟨p3, rfl, (zn_i64 p3).1, (zn_i64 p3).2⟩, ⟨p4, rfl, (zn_i32 p4).1, (zn_i32 p4).2⟩, trivial⟩, fun e he => (by cases he), fun f hf => (by cases hf)⟩, hKa.1.warm hW⟩) (fun q hq => by cases hq) hl.1 (Nat.le_of_ble_eq_true rfl) (eL_writeDuration (10, .invokevirtual 82, 3) (List.mem_of_getElem? (i := 7) rfl)) (fun v s0 t lo1 g0 g1 g2 => ?_) (fun q s0 t lo1 E ce g0 g1 g3 g4 g5 g2 => ?_)
  · obtain ⟨vs9, x9, q1, q2, q3, q4, q5⟩ := g1
    cases q2
    obtain ⟨w9, rfl, y9, rfl, -, -⟩ := zc_one (t := (0, (-2147483648), 2147483647)) (L := []) q5
    have hh1 : zh_ok D cA RTg ro sz H0 t.heap lo1 := ⟨q3.1, q3.2.1, g2, q3.2.2.2⟩
    refine W.eq (g2 := F0 m 13 ls [.int y9, .int v1, .ref o]) rfl ?_
    have kp1 : zc_kept D RTg ro [(8, 1), (16, 0), (42, 0)] s.heap t.heap := by rw [g0] at q4; exact q4.mono (by decide)
    refine ff_i2l hx hb (eL_writeDuration (13, .i2l, 1) (List.mem_of_getElem? (i := 8) rfl)) (fun v2 e2 => ?_)
    refine zw_out hx hb hh1 hKa.1.1.1 ho (by omega) (eL_writeDuration (14, .lastore, 1) (List.mem_of_getElem? (i := 9) rfl)) (fun H3 lo3 hh3 hq3 _ _ => ?_)
    have kp3 := kp1.trans (zk_setA (ms := [(8, 1), (16, 0), (42, 0)]) (by decide) ho rfl hq3)
    refine lv_goto hx hb (eL_writeDuration (15, .goto 7, 3) (List.mem_of_getElem? (i := 10) rfl)) (tgt := 22) rfl ?_
    refine ff_iconst hx hb (eL_writeDuration (22, .iconst 0, 1) (List.mem_of_getElem? (i := 14) rfl)) (by decide) (by decide) (fun v4 e4 => ?_)
    exact W.zret hx hb hr rfl (fun t ht hW => ⟨_, ro, rfl, fun _ _ h => h, by rw [ht]; exact hh3.l0, by rw [ht]; exact kp3⟩) hh3.2.2.1 (eL_writeDuration (23, .ireturn, 1) (List.mem_of_getElem? (i := 15) rfl))
  · have hh1 : zh_ok D cA RTg ro sz H0 t.heap lo1 := ⟨g1.2.1.1, g1.2.1.2.1, g2, g1.2.1.2.2.2⟩
    have kp1 : zc_kept D RTg ro [(8, 1), (16, 0), (42, 0)] s.heap t.heap := by have g9 := g1.2.2; rw [g0] at g9; exact g9.mono (by decide)
    have hE := g1.1
    refine (List.mem_cons.mp hE).elim (fun g => ?_) (fun hE => ?_)
    · subst g
      refine vx_catch (own := RL) (name := "java/lang/IllegalArgumentException") hown [] ⟨0, 15, 18, 13⟩ [] (vx_table (x := yL_writeDuration) B (h2 _ (tb_6 37 rfl rfl))) (fun z hz => by cases hz) rfl (by decide) (h2 _ (tb_2 103 rfl rfl)) (va_Nw.use rfl (hKa.1.2.2.2.2.1 (eI, eI) (List.mem_of_getElem? (i := 0) rfl))) g3 g4 g5 ?_
      refine lv_astore hx hb (eL_writeDuration (18, .astore 9, 2) (List.mem_of_getElem? (i := 11) rfl)) hl (by decide) rfl (fun ls5 hl5 => ?_)
      refine ff_iconst hx hb (eL_writeDuration (20, .iconst 1, 1) (List.mem_of_getElem? (i := 12) rfl)) (by decide) (by decide) (fun v6 e6 => ?_)
      exact W.zret hx hb hr rfl (fun t ht hW => ⟨_, ro, rfl, fun _ _ h => h, by rw [ht]; exact hh1.l0, by rw [ht]; exact kp1⟩) hh1.2.2.1 (eL_writeDuration (21, .ireturn, 1) (List.mem_of_getElem? (i := 13) rfl))
    cases hE
def tL_out : List (Nat × Instr × Nat) := [(0, .aload_n 2, 1), (1, .iconst 0, 1), (2, .aload_n 0, 1), (3, .iload_n 1, 1), (4, .invokevirtual 86, 3), (7, .i2l, 1), (8, .lastore, 1), (9, .goto 6, 3), (12, .astore_n 3, 1), (13, .iconst 1, 1), (14, .ireturn, 1), (15, .iconst 0, 1), (16, .ireturn, 1)]
set_option maxRecDepth 100000 in
theorem eL_out : ∀ x ∈ tL_out, decode cL_out x.1 = .ok x.2 := by decide +kernel
set_option maxRecDepth 100000 in
set_option maxHeartbeats 4000000 in
theorem wL_out (l : Launch) (hst : l.stackTraces = false) (D : va_G) (cA : Nat → ClassId) (ro : Nat → Option Nat) (sz : Nat) (H0 : Heap) (x : Nat) (p1 : Int32) (o : Nat) (hx10 : ro x = some 10) (ho : ro o = some 42) : Met l yL_out (Cond.codeWith yL_out cL_out 4 (some .int) [(0, 9, 12, 89)] :: gT) { frames := 7, cells := 1, slots := 6, locals := 103 } (zw_Pc D cA ro sz H0 [.ref x, .int p1, .ref o]) (zw_Qk D cA ro sz H0 [(42, 0)]) 1 6 (zy_fr sz) := by
  refine zw_ofW (cc := cL_out) (maxL := 4) (ret := some .int) (by decide +kernel) rfl ?_
  intro p e s m args below meth c s1 B hml hv
  obtain ⟨rfl, hh, hKa⟩ := hv
  have hx := B.exec
  have hb := B.bytes
  have hr := B.returns
  have hlk := B.notSynchronized
  have hts0 := atoms_spec (ws := Cond.codeWith yL_out cL_out 4 (some .int) [(0, 9, 12, 89)] :: gT) B.pre
  have h2 : ∀ w ∈ gT, w.before ([.ref x, .int p1, .ref o] : List Value).toArray s = true := fun w hw => hts0 w (List.mem_cons_of_mem _ hw)
  have hown : s.vm.findClass RL = some m.cls := findClass_of_methodNamed B.named
  have hl := lv_entry [.ref x, .int p1, .ref o] (n := 4) (Nat.le_of_ble_eq_true rfl)
  rw [lg_entry_eq]
  generalize (lg_sl [.ref x, .int p1, .ref o] ++ List.replicate (4 - (lg_sl [.ref x, .int p1, .ref o]).length) Slot.unset).toArray = ls at hl ⊢
  refine lv_aload_n hx hb (eL_out (0, .aload_n 2, 1) (List.mem_of_getElem? (i := 0) rfl)) rfl (lv_at hl 2 rfl) ?_
  refine ff_iconst hx hb (eL_out (1, .iconst 0, 1) (List.mem_of_getElem? (i := 1) rfl)) (by decide) (by decide) (fun v1 e1 => ?_)
  refine lv_aload_n hx hb (eL_out (2, .aload_n 0, 1) (List.mem_of_getElem? (i := 2) rfl)) rfl (lv_at hl 0 rfl) ?_
  refine lv_iload_n hx hb (eL_out (3, .iload_n 1, 1) (List.mem_of_getElem? (i := 3) rfl)) rfl (lv_at hl 1 rfl) ?_
  refine zx_rowG (As := [.int p1]) (st := [.int v1, .ref o]) (b := x) (C := RX11) hx hb hml hown hts0 (mX11_out l hst D cA ro sz H0) ⟨rfl, rfl⟩ ⟨by decide, by decide⟩ ⟨by decide, by decide⟩ (tb_6 69 rfl rfl) (tb_1 1 rfl rfl) (tb_6 66 rfl rfl) (tb_6 67 rfl rfl) (tb_6 68 rfl rfl) rfl (show yX11_out.cls ≠ "java/lang/invoke/MethodHandle" ∧ yX11_out.cls ≠ "java/lang/invoke/VarHandle" ∧ (parseMethodDescriptor yX11_out.desc).map (fun d => d.parameters.length) = some 1 by decide +kernel) zx_blind (zw_ob hh hKa.1.1.1 hx10) (fun U hU hW => ⟨_, rfl, by rw [hU]; exact hh, ⟨⟨Or.inr ⟨x, rfl, hx10⟩, ⟨p1, rfl, (zn_i32 p1).1, (zn_i32 p1).2⟩, trivial⟩, fun e he => (by cases he), fun f hf => (by cases hf)⟩, hKa.1.warm hW⟩) (fun q hq => by cases hq) hl.1 (Nat.le_of_ble_eq_true rfl) (eL_out (4, .invokevirtual 86, 3) (List.mem_of_getElem? (i := 4) rfl)) (fun v s0 t lo1 g0 g1 g2 => ?_) (fun q s0 t lo1 E ce g0 g1 g3 g4 g5 g2 => ?_)
  · obtain ⟨vs9, x9, q1, q2, q3, q4, q5⟩ := g1
    cases q2
    obtain ⟨w9, rfl, y9, rfl, -, -⟩ := zc_one (t := (0, (-2147483648), 2147483647)) (L := []) q5
    have hh1 : zh_ok D cA RTg ro sz H0 t.heap lo1 := ⟨q3.1, q3.2.1, g2, q3.2.2.2⟩
    refine W.eq (g2 := F0 m 7 ls [.int y9, .int v1, .ref o]) rfl ?_
    have kp1 : zc_kept D RTg ro [(42, 0)] s.heap t.heap := by rw [g0] at q4; exact q4.mono (by decide)
    refine ff_i2l hx hb (eL_out (7, .i2l, 1) (List.mem_of_getElem? (i := 5) rfl)) (fun v2 e2 => ?_)
    refine zw_out hx hb hh1 hKa.1.1.1 ho (by omega) (eL_out (8, .lastore, 1) (List.mem_of_getElem? (i := 6) rfl)) (fun H3 lo3 hh3 hq3 _ _ => ?_)
    have kp3 := kp1.trans (zk_setA (ms := [(42, 0)]) (by decide) ho rfl hq3)
    refine lv_goto hx hb (eL_out (9, .goto 6, 3) (List.mem_of_getElem? (i := 7) rfl)) (tgt := 15) rfl ?_
    refine ff_iconst hx hb (eL_out (15, .iconst 0, 1) (List.mem_of_getElem? (i := 11) rfl)) (by decide) (by decide) (fun v4 e4 => ?_)
    exact W.zret hx hb hr rfl (fun t ht hW => ⟨_, ro, rfl, fun _ _ h => h, by rw [ht]; exact hh3.l0, by rw [ht]; exact kp3⟩) hh3.2.2.1 (eL_out (16, .ireturn, 1) (List.mem_of_getElem? (i := 12) rfl))
  · have hh1 : zh_ok D cA RTg ro sz H0 t.heap lo1 := ⟨g1.2.1.1, g1.2.1.2.1, g2, g1.2.1.2.2.2⟩
    have kp1 : zc_kept D RTg ro [(42, 0)] s.heap t.heap := by have g9 := g1.2.2; rw [g0] at g9; exact g9.mono (by decide)
    have hE := g1.1
    refine (List.mem_cons.mp hE).elim (fun g => ?_) (fun hE => ?_)
    · subst g
      refine vx_catch (own := RL) (name := "java/lang/IndexOutOfBoundsException") hown [] ⟨0, 9, 12, 89⟩ [] (vx_table (x := yL_out) B (h2 _ (tb_6 64 rfl rfl))) (fun z hz => by cases hz) rfl (by decide) (h2 _ (tb_6 65 rfl rfl)) (va_Nw.use rfl (hKa.1.2.2.2.2.1 (eX, eX) (List.mem_of_getElem? (i := 2) rfl))) g3 g4 g5 ?_
      refine lv_astore_n hx hb (eL_out (12, .astore_n 3, 1) (List.mem_of_getElem? (i := 8) rfl)) rfl hl (by decide) rfl (fun ls5 hl5 => ?_)
      refine ff_iconst hx hb (eL_out (13, .iconst 1, 1) (List.mem_of_getElem? (i := 9) rfl)) (by decide) (by decide) (fun v6 e6 => ?_)
      exact W.zret hx hb hr rfl (fun t ht hW => ⟨_, ro, rfl, fun _ _ h => h, by rw [ht]; exact hh1.l0, by rw [ht]; exact kp1⟩) hh1.2.2.1 (eL_out (14, .ireturn, 1) (List.mem_of_getElem? (i := 10) rfl))
    cases hE
def tL_plus : List (Nat × Instr × Nat) := [(0, .aload 6, 2), (2, .iconst 0, 1), (3, .aload_n 0, 1), (4, .iload_n 1, 1), (5, .lload_n 2, 1), (6, .iload 4, 2), (8, .iload 5, 2), (10, .invokevirtual 91, 3), (13, .lastore, 1), (14, .goto 7, 3), (17, .astore 7, 2), (19, .iconst 1, 1), (20, .ireturn, 1), (21, .iconst 0, 1), (22, .ireturn, 1)]
set_option maxRecDepth 100000 in
theorem eL_plus : ∀ x ∈ tL_plus, decode cL_plus x.1 = .ok x.2 := by decide +kernel
set_option maxRecDepth 100000 in
set_option maxHeartbeats 4000000 in
theorem wL_plus (l : Launch) (hst : l.stackTraces = false) (D : va_G) (cA : Nat → ClassId) (ro : Nat → Option Nat) (sz : Nat) (H0 : Heap) (x : Nat) (p1 : Int32) (p2 : Int64) (p3 : Int32) (p4 : Int32) (o : Nat) (hx10 : ro x = some 10) (ho : ro o = some 42) : Met l yL_plus (Cond.codeWith yL_plus cL_plus 8 (some .int) [(0, 14, 17, 13)] :: gT) { frames := 7, cells := 1, slots := 6, locals := 204 } (zw_Pc D cA ro sz H0 [.ref x, .int p1, .long p2, .int p3, .int p4, .ref o]) (zw_Qk D cA ro sz H0 [(5, 5), (5, 6), (5, 7), (5, 8), (5, 9), (5, 10), (19, 0), (42, 0)]) 1 6 (zy_fr sz) := by
  refine zw_ofW (cc := cL_plus) (maxL := 8) (ret := some .int) (by decide +kernel) rfl ?_
  intro p e s m args below meth c s1 B hml hv
  obtain ⟨rfl, hh, hKa⟩ := hv
  have hx := B.exec
  have hb := B.bytes
  have hr := B.returns
  have hlk := B.notSynchronized
  have hts0 := atoms_spec (ws := Cond.codeWith yL_plus cL_plus 8 (some .int) [(0, 14, 17, 13)] :: gT) B.pre
  have h2 : ∀ w ∈ gT, w.before ([.ref x, .int p1, .long p2, .int p3, .int p4, .ref o] : List Value).toArray s = true := fun w hw => hts0 w (List.mem_cons_of_mem _ hw)
  have hown : s.vm.findClass RL = some m.cls := findClass_of_methodNamed B.named
  have hl := lv_entry [.ref x, .int p1, .long p2, .int p3, .int p4, .ref o] (n := 8) (Nat.le_of_ble_eq_true rfl)
  rw [lg_entry_eq]
  generalize (lg_sl [.ref x, .int p1, .long p2, .int p3, .int p4, .ref o] ++ List.replicate (8 - (lg_sl [.ref x, .int p1, .long p2, .int p3, .int p4, .ref o]).length) Slot.unset).toArray = ls at hl ⊢
  refine lv_aload hx hb (eL_plus (0, .aload 6, 2) (List.mem_of_getElem? (i := 0) rfl)) (lv_at hl 5 rfl) ?_
  refine ff_iconst hx hb (eL_plus (2, .iconst 0, 1) (List.mem_of_getElem? (i := 1) rfl)) (by decide) (by decide) (fun v1 e1 => ?_)
  refine lv_aload_n hx hb (eL_plus (3, .aload_n 0, 1) (List.mem_of_getElem? (i := 2) rfl)) rfl (lv_at hl 0 rfl) ?_
  refine lv_iload_n hx hb (eL_plus (4, .iload_n 1, 1) (List.mem_of_getElem? (i := 3) rfl)) rfl (lv_at hl 1 rfl) ?_
  refine lv_lload_n hx hb (eL_plus (5, .lload_n 2, 1) (List.mem_of_getElem? (i := 4) rfl)) rfl (lv_at hl 2 rfl) ?_
  refine lv_iload hx hb (eL_plus (6, .iload 4, 2) (List.mem_of_getElem? (i := 5) rfl)) (lv_at hl 3 rfl) ?_
  refine lv_iload hx hb (eL_plus (8, .iload 5, 2) (List.mem_of_getElem? (i := 6) rfl)) (lv_at hl 4 rfl) ?_
  refine zx_rowG (As := [.int p1, .long p2, .int p3, .int p4]) (st := [.int v1, .ref o]) (b := x) (C := RX11) hx hb hml hown hts0 (mX11_plus l hst D cA ro sz H0) ⟨rfl, rfl⟩ ⟨by decide, by decide⟩ ⟨by decide, by decide⟩ (tb_6 92 rfl rfl) (tb_1 1 rfl rfl) (tb_6 89 rfl rfl) (tb_6 90 rfl rfl) (tb_6 91 rfl rfl) rfl (show yX11_plus.cls ≠ "java/lang/invoke/MethodHandle" ∧ yX11_plus.cls ≠ "java/lang/invoke/VarHandle" ∧ (parseMethodDescriptor yX11_plus.desc).map (fun d => d.parameters.length) = some 4 by decide +kernel) zx_blind (zw_ob hh hKa.1.1.1 hx10) (fun U hU hW => ⟨_, rfl, by rw [hU]; exact hh, ⟨⟨Or.inr ⟨x, rfl, hx10⟩, ⟨p1, rfl, (zn_i32 p1).1, (zn_i32 p1).2⟩, ⟨p2, rfl, (zn_i64 p2).1, (zn_i64 p2).2⟩, ⟨p3, rfl, (zn_i32 p3).1, (zn_i32 p3).2⟩, ⟨p4, rfl, (zn_i32 p4).1, (zn_i32 p4).2⟩, trivial⟩, fun e he => (by cases he), fun f hf => (by cases hf)⟩, hKa.1.warm hW⟩) (fun q hq => by cases hq) hl.1 (Nat.le_of_ble_eq_true rfl) (eL_plus (10, .invokevirtual 91, 3) (List.mem_of_getElem? (i := 7) rfl)) (fun v s0 t lo1 g0 g1 g2 => ?_) (fun q s0 t lo1 E ce g0 g1 g3 g4 g5 g2 => ?_)
  · obtain ⟨vs9, x9, q1, q2, q3, q4, q5⟩ := g1
    cases q2
    obtain ⟨w9, rfl, y9, rfl, -, -⟩ := zc_one (t := (1, (-9223372036854775808), 9223372036854775807)) (L := []) q5
    have hh1 : zh_ok D cA RTg ro sz H0 t.heap lo1 := ⟨q3.1, q3.2.1, g2, q3.2.2.2⟩
    refine W.eq (g2 := F0 m 13 ls [.long y9, .int v1, .ref o]) rfl ?_
    have kp1 : zc_kept D RTg ro [(5, 5), (5, 6), (5, 7), (5, 8), (5, 9), (5, 10), (19, 0), (42, 0)] s.heap t.heap := by rw [g0] at q4; exact q4.mono (by decide)
    refine zw_out hx hb hh1 hKa.1.1.1 ho (by omega) (eL_plus (13, .lastore, 1) (List.mem_of_getElem? (i := 8) rfl)) (fun H2 lo2 hh2 hq2 _ _ => ?_)
    have kp2 := kp1.trans (zk_setA (ms := [(5, 5), (5, 6), (5, 7), (5, 8), (5, 9), (5, 10), (19, 0), (42, 0)]) (by decide) ho rfl hq2)
    refine lv_goto hx hb (eL_plus (14, .goto 7, 3) (List.mem_of_getElem? (i := 9) rfl)) (tgt := 21) rfl ?_
    refine ff_iconst hx hb (eL_plus (21, .iconst 0, 1) (List.mem_of_getElem? (i := 13) rfl)) (by decide) (by decide) (fun v3 e3 => ?_)
    exact W.zret hx hb hr rfl (fun t ht hW => ⟨_, ro, rfl, fun _ _ h => h, by rw [ht]; exact hh2.l0, by rw [ht]; exact kp2⟩) hh2.2.2.1 (eL_plus (22, .ireturn, 1) (List.mem_of_getElem? (i := 14) rfl))
  · have hh1 : zh_ok D cA RTg ro sz H0 t.heap lo1 := ⟨g1.2.1.1, g1.2.1.2.1, g2, g1.2.1.2.2.2⟩
    have kp1 : zc_kept D RTg ro [(5, 5), (5, 6), (5, 7), (5, 8), (5, 9), (5, 10), (19, 0), (42, 0)] s.heap t.heap := by have g9 := g1.2.2; rw [g0] at g9; exact g9.mono (by decide)
    have hE := g1.1
    refine (List.mem_cons.mp hE).elim (fun g => ?_) (fun hE => ?_)
    · subst g
      refine vx_catch (own := RL) (name := "java/lang/IllegalArgumentException") hown [] ⟨0, 14, 17, 13⟩ [] (vx_table (x := yL_plus) B (h2 _ (tb_6 88 rfl rfl))) (fun z hz => by cases hz) rfl (by decide) (h2 _ (tb_2 103 rfl rfl)) (va_Nw.use rfl (hKa.1.2.2.2.2.1 (eI, eI) (List.mem_of_getElem? (i := 0) rfl))) g3 g4 g5 ?_
      refine lv_astore hx hb (eL_plus (17, .astore 7, 2) (List.mem_of_getElem? (i := 10) rfl)) hl (by decide) rfl (fun ls4 hl4 => ?_)
      refine ff_iconst hx hb (eL_plus (19, .iconst 1, 1) (List.mem_of_getElem? (i := 11) rfl)) (by decide) (by decide) (fun v5 e5 => ?_)
      exact W.zret hx hb hr rfl (fun t ht hW => ⟨_, ro, rfl, fun _ _ h => h, by rw [ht]; exact hh1.l0, by rw [ht]; exact kp1⟩) hh1.2.2.1 (eL_plus (20, .ireturn, 1) (List.mem_of_getElem? (i := 12) rfl))
    cases hE
def tL_between : List (Nat × Instr × Nat) := [(0, .aload 7, 2), (2, .iconst 0, 1), (3, .aload_n 0, 1), (4, .iload_n 1, 1), (5, .lload_n 2, 1), (6, .lload 4, 2), (8, .iload 6, 2), (10, .invokevirtual 94, 3), (13, .lastore, 1), (14, .goto 7, 3), (17, .astore 8, 2), (19, .iconst 1, 1), (20, .ireturn, 1), (21, .iconst 0, 1), (22, .ireturn, 1)]
set_option maxRecDepth 100000 in
theorem eL_between : ∀ x ∈ tL_between, decode cL_between x.1 = .ok x.2 := by decide +kernel
set_option maxRecDepth 100000 in
set_option maxHeartbeats 4000000 in
theorem wL_between (l : Launch) (hst : l.stackTraces = false) (D : va_G) (cA : Nat → ClassId) (ro : Nat → Option Nat) (sz : Nat) (H0 : Heap) (x : Nat) (p1 : Int32) (p2 : Int64) (p3 : Int64) (p4 : Int32) (o : Nat) (hx10 : ro x = some 10) (ho : ro o = some 42) : Met l yL_between (Cond.codeWith yL_between cL_between 9 (some .int) [(0, 14, 17, 13)] :: gT) { frames := 7, cells := 1, slots := 6, locals := 209 } (zw_Pc D cA ro sz H0 [.ref x, .int p1, .long p2, .long p3, .int p4, .ref o]) (zw_Qk D cA ro sz H0 [(5, 5), (5, 6), (5, 7), (5, 8), (5, 9), (5, 10), (19, 0), (42, 0)]) 1 6 (zy_fr sz) := by
  refine zw_ofW (cc := cL_between) (maxL := 9) (ret := some .int) (by decide +kernel) rfl ?_
  intro p e s m args below meth c s1 B hml hv
  obtain ⟨rfl, hh, hKa⟩ := hv
  have hx := B.exec
  have hb := B.bytes
  have hr := B.returns
  have hlk := B.notSynchronized
  have hts0 := atoms_spec (ws := Cond.codeWith yL_between cL_between 9 (some .int) [(0, 14, 17, 13)] :: gT) B.pre
  have h2 : ∀ w ∈ gT, w.before ([.ref x, .int p1, .long p2, .long p3, .int p4, .ref o] : List Value).toArray s = true := fun w hw => hts0 w (List.mem_cons_of_mem _ hw)
  have hown : s.vm.findClass RL = some m.cls := findClass_of_methodNamed B.named
  have hl := lv_entry [.ref x, .int p1, .long p2, .long p3, .int p4, .ref o] (n := 9) (Nat.le_of_ble_eq_true rfl)
  rw [lg_entry_eq]
  generalize (lg_sl [.ref x, .int p1, .long p2, .long p3, .int p4, .ref o] ++ List.replicate (9 - (lg_sl [.ref x, .int p1, .long p2, .long p3, .int p4, .ref o]).length) Slot.unset).toArray = ls at hl ⊢
  refine lv_aload hx hb (eL_between (0, .aload 7, 2) (List.mem_of_getElem? (i := 0) rfl)) (lv_at hl 5 rfl) ?_
  refine ff_iconst hx hb (eL_between (2, .iconst 0, 1) (List.mem_of_getElem? (i := 1) rfl)) (by decide) (by decide) (fun v1 e1 => ?_)
  refine lv_aload_n hx hb (eL_between (3, .aload_n 0, 1) (List.mem_of_getElem? (i := 2) rfl)) rfl (lv_at hl 0 rfl) ?_
  refine lv_iload_n hx hb (eL_between (4, .iload_n 1, 1) (List.mem_of_getElem? (i := 3) rfl)) rfl (lv_at hl 1 rfl) ?_
  refine lv_lload_n hx hb (eL_between (5, .lload_n 2, 1) (List.mem_of_getElem? (i := 4) rfl)) rfl (lv_at hl 2 rfl) ?_
  refine lv_lload hx hb (eL_between (6, .lload 4, 2) (List.mem_of_getElem? (i := 5) rfl)) (lv_at hl 3 rfl) ?_
  refine lv_iload hx hb (eL_between (8, .iload 6, 2) (List.mem_of_getElem? (i := 6) rfl)) (lv_at hl 4 rfl) ?_
  refine zx_rowG (As := [.int p1, .long p2, .long p3, .int p4]) (st := [.int v1, .ref o]) (b := x) (C := RX11) hx hb hml hown hts0 (mX11_between l hst D cA ro sz H0) ⟨rfl, rfl⟩ ⟨by decide, by decide⟩ ⟨by decide, by decide⟩ (tb_6 110 rfl rfl) (tb_1 1 rfl rfl) (tb_6 107 rfl rfl) (tb_6 108 rfl rfl) (tb_6 109 rfl rfl) rfl (show yX11_between.cls ≠ "java/lang/invoke/MethodHandle" ∧ yX11_between.cls ≠ "java/lang/invoke/VarHandle" ∧ (parseMethodDescriptor yX11_between.desc).map (fun d => d.parameters.length) = some 4 by decide +kernel) zx_blind (zw_ob hh hKa.1.1.1 hx10) (fun U hU hW => ⟨_, rfl, by rw [hU]; exact hh, ⟨⟨Or.inr ⟨x, rfl, hx10⟩, ⟨p1, rfl, (zn_i32 p1).1, (zn_i32 p1).2⟩, ⟨p2, rfl, (zn_i64 p2).1, (zn_i64 p2).2⟩, ⟨p3, rfl, (zn_i64 p3).1, (zn_i64 p3).2⟩, ⟨p4, rfl, (zn_i32 p4).1, (zn_i32 p4).2⟩, trivial⟩, fun e he => (by cases he), fun f hf => (by cases hf)⟩, hKa.1.warm hW⟩) (fun q hq => by cases hq) hl.1 (Nat.le_of_ble_eq_true rfl) (eL_between (10, .invokevirtual 94, 3) (List.mem_of_getElem? (i := 7) rfl)) (fun v s0 t lo1 g0 g1 g2 => ?_) (fun q s0 t lo1 E ce g0 g1 g3 g4 g5 g2 => ?_)
  · obtain ⟨vs9, x9, q1, q2, q3, q4, q5⟩ := g1
    cases q2
    obtain ⟨w9, rfl, y9, rfl, -, -⟩ := zc_one (t := (1, (-9223372036854775808), 9223372036854775807)) (L := []) q5
    have hh1 : zh_ok D cA RTg ro sz H0 t.heap lo1 := ⟨q3.1, q3.2.1, g2, q3.2.2.2⟩
    refine W.eq (g2 := F0 m 13 ls [.long y9, .int v1, .ref o]) rfl ?_
    have kp1 : zc_kept D RTg ro [(5, 5), (5, 6), (5, 7), (5, 8), (5, 9), (5, 10), (19, 0), (42, 0)] s.heap t.heap := by rw [g0] at q4; exact q4.mono (by decide)
    refine zw_out hx hb hh1 hKa.1.1.1 ho (by omega) (eL_between (13, .lastore, 1) (List.mem_of_getElem? (i := 8) rfl)) (fun H2 lo2 hh2 hq2 _ _ => ?_)
    have kp2 := kp1.trans (zk_setA (ms := [(5, 5), (5, 6), (5, 7), (5, 8), (5, 9), (5, 10), (19, 0), (42, 0)]) (by decide) ho rfl hq2)
    refine lv_goto hx hb (eL_between (14, .goto 7, 3) (List.mem_of_getElem? (i := 9) rfl)) (tgt := 21) rfl ?_
    refine ff_iconst hx hb (eL_between (21, .iconst 0, 1) (List.mem_of_getElem? (i := 13) rfl)) (by decide) (by decide) (fun v3 e3 => ?_)
    exact W.zret hx hb hr rfl (fun t ht hW => ⟨_, ro, rfl, fun _ _ h => h, by rw [ht]; exact hh2.l0, by rw [ht]; exact kp2⟩) hh2.2.2.1 (eL_between (22, .ireturn, 1) (List.mem_of_getElem? (i := 14) rfl))
  · have hh1 : zh_ok D cA RTg ro sz H0 t.heap lo1 := ⟨g1.2.1.1, g1.2.1.2.1, g2, g1.2.1.2.2.2⟩
    have kp1 : zc_kept D RTg ro [(5, 5), (5, 6), (5, 7), (5, 8), (5, 9), (5, 10), (19, 0), (42, 0)] s.heap t.heap := by have g9 := g1.2.2; rw [g0] at g9; exact g9.mono (by decide)
    have hE := g1.1
    refine (List.mem_cons.mp hE).elim (fun g => ?_) (fun hE => ?_)
    · subst g
      refine vx_catch (own := RL) (name := "java/lang/IllegalArgumentException") hown [] ⟨0, 14, 17, 13⟩ [] (vx_table (x := yL_between) B (h2 _ (tb_6 106 rfl rfl))) (fun z hz => by cases hz) rfl (by decide) (h2 _ (tb_2 103 rfl rfl)) (va_Nw.use rfl (hKa.1.2.2.2.2.1 (eI, eI) (List.mem_of_getElem? (i := 0) rfl))) g3 g4 g5 ?_
      refine lv_astore hx hb (eL_between (17, .astore 8, 2) (List.mem_of_getElem? (i := 10) rfl)) hl (by decide) rfl (fun ls4 hl4 => ?_)
      refine ff_iconst hx hb (eL_between (19, .iconst 1, 1) (List.mem_of_getElem? (i := 11) rfl)) (by decide) (by decide) (fun v5 e5 => ?_)
      exact W.zret hx hb hr rfl (fun t ht hW => ⟨_, ro, rfl, fun _ _ h => h, by rw [ht]; exact hh1.l0, by rw [ht]; exact kp1⟩) hh1.2.2.1 (eL_between (20, .ireturn, 1) (List.mem_of_getElem? (i := 12) rfl))
    cases hE
