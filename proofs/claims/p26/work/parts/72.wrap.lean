/-! calls of methods that return or throw; wrappers with a table -/
def zKa (D : va_G) (cA : Nat → ClassId) (ro : Nat → Option Nat) (sz : Nat) (H0 : Heap) : State → Prop := fun s => zKx D cA ro sz H0 s ∧ zKo D cA ro sz H0 s
theorem zKa.warm {D : va_G} {cA : Nat → ClassId} {ro : Nat → Option Nat} {sz : Nat} {H0 : Heap} {s U : State} (hW : s.WarmedH U.vm) (k : zKa D cA ro sz H0 s) : zKa D cA ro sz H0 U := ⟨k.1.warm hW, k.2.warm hW⟩
theorem zKa.same {D : va_G} {cA : Nat → ClassId} {ro : Nat → Option Nat} {sz : Nat} {H0 : Heap} {s U : State} (hv : U.vm = s.vm) (k : zKa D cA ro sz H0 s) : zKa D cA ro sz H0 U := ⟨k.1.same hv, k.2.same hv⟩
theorem zKx.ext {D : va_G} {cA : Nat → ClassId} {ro ro' : Nat → Option Nat} {sz : Nat} {H0 : Heap} {s : State} (he : ∀ q r, ro q = some r → ro' q = some r) (h : zKx D cA ro sz H0 s) : zKx D cA ro' sz H0 s := ⟨zKn.ext he h.1, h.2⟩
theorem zKa.ext {D : va_G} {cA : Nat → ClassId} {ro ro' : Nat → Option Nat} {sz : Nat} {H0 : Heap} {s : State} (he : ∀ q r, ro q = some r → ro' q = some r) (h : zKa D cA ro sz H0 s) : zKa D cA ro' sz H0 s := ⟨zKx.ext he h.1, zKo.ext he h.2⟩
theorem gT_giW {x : Cond} {y : MethodName} {b : ByteArray} {n : Nat} {r : Option FieldType} {hh : List (Nat × Nat × Nat × Nat)} (hc : Cond.codeWith y b n r hh ∈ gT) : GoodIn (x :: gT) (Cond.codeWith y b n r hh :: gT) := by
  intro w hw
  rcases List.mem_cons.mp hw with h | h
  · rw [h]; exact ⟨List.mem_cons_of_mem _ hc, good_of_word (List.mem_filter.mp hc).2⟩
  · exact ⟨List.mem_cons_of_mem _ h, good_of_word (List.mem_filter.mp h).2⟩
theorem zw_ofW {l : Launch} {y : MethodName} {ws ws' : List Cond} {rm : Room} {Pc : Array Value → State → Prop} {Qc : Array Value → State → Outcome → State → Prop} {mc ms : Nat} {free : Addr → Prop} {cc : ByteArray} {maxL : Nat} {ret : Option FieldType} {hh : List (Nat × Nat × Nat × Nat)}
    (hy : plainName y.cls = true) (hw : ws = Cond.codeWith y cc maxL ret hh :: ws')
    (body : ∀ p e s m args below meth c s₁, BodyLoose p l y (headSpec ws rm) cc maxL ret e s m args below meth c s₁ → c.maxLocals = maxL → Pc args s →
      W p l e (headSpec ws rm).room s m args below meth c s.heap [] 0 0 (MQ below Qc args s mc ms free) (entryFrame m args maxL)) : Met l y ws rm Pc Qc mc ms free := by
  refine MetFree.of_bodyS (code := cc) (maxLocals := maxL) (ret := ret) hy ?_ ?_
  · intro args s m h hn
    obtain ⟨m9, meth, c, hn9, h1, h2, h3, h4, -, h5, h6, -⟩ := Cond.codeWith_spec (atoms_spec (ws := ws) h _ (by rw [hw]; exact List.mem_cons_self))
    cases hn.symm.trans hn9
    exact ⟨meth, c, h1, h2, h3, h4, h5, h6⟩
  · intro p e s m args below meth c s₁ B hml hP _
    have hh0 : s₁.heap = s.heap := by rw [B.state]; rfl
    obtain ⟨t, a1, o, b1, b2, b3⟩ := body p e s m args below meth c s₁ B hml hP s₁ hh0 (Stand.of_body B)
    exact ⟨t, o, a1, b1, b2, ⟨b3.1, b3.2⟩⟩
section ZWR
variable {p : Program} {l : Launch} {e : Env} {R : Room} {s : State} {m : MethodId} {args : Array Value} {below : List Frame} {meth : Method} {c : Code} {H : Heap} {locs : List Loc} {cells slots : Nat} {Q : State → Prop} {cc : ByteArray} {pc : Nat} {ls : Array Slot} {st : List Value}
variable {D : va_G} {cA : Nat → ClassId} {ro : Nat → Option Nat} {sz : Nat} {H0 : Heap}
/-- a call of a method that returns or throws -/
theorem zx_rowG {y : MethodName} {bytes : ByteArray} {maxL nL mc ms idx b : Nat} {ret : Option FieldType} {rm : Room} {own C : String} {x0 : Cond} {Pc : Array Value → State → Prop} {Qc : Array Value → State → Outcome → State → Prop} {XC : String → State → State → Prop} {As : List Value}
    (hx : p.tables.exec = Jvm.exec) (hb : c.code = cc) (hml : c.maxLocals = nL) (hown : s.vm.findClass own = some m.cls) (hts : ∀ w ∈ x0 :: gT, w.before args s = true) (hM : vx_Met l y (gW y bytes maxL ret) rm Pc Qc XC mc ms (zy_fr sz)) (h0 : rm.cells = mc ∧ rm.slots = ms) (hR : rm.frames + 1 ≤ R.frames ∧ 8 + (maxL + 11) + rm.locals ≤ R.locals) (hf : cells + mc ≤ R.cells ∧ slots + ms ≤ R.slots)
    (hc : Cond.code y bytes maxL ret ∈ gT) (hi : Cond.initialized y.cls ∈ gT) (hl : Cond.methodLink own idx y ∈ gT) (hin : Cond.instanceMethod y ∈ gT) (hse : Cond.selects C y y ∈ gT) (hCy : C = y.cls) (hd : y.cls ≠ "java/lang/invoke/MethodHandle" ∧ y.cls ≠ "java/lang/invoke/VarHandle" ∧ (parseMethodDescriptor y.desc).map (fun d => d.parameters.length) = some As.length)
    (hbl : FrameBlind Pc) (hob : ∃ cell : Cell, H[b]? = some cell ∧ cell.vm = .none ∧ s.vm.findClass C = some cell.cls) (hpre : ∀ U : State, U.heap = H → s.WarmedH U.vm → Pc (Value.ref b :: As).toArray U) (hlo : ∀ q ∈ locs, sz ≤ q.base) (hsize : ls.size = nL) (hwt : (st.map fun v => v.category).sum ≤ 8) (hdg : decode cc pc = .ok (.invokevirtual idx, 3))
    (kk : ∀ (v : Option Value) (s0 t : State) (locs' : List Loc), s0.heap = H → Qc (Value.ref b :: As).toArray s0 (.returned v) t → (∀ q ∈ locs', sz ≤ q.base) → W p l e R s m args below meth c t.heap locs' (cells + mc) (slots + ms) Q (F0 m (pc + 3) ls (v.toList ++ st)))
    (kx : ∀ (q : Addr) (s0 t : State) (locs' : List Loc) (E : String) (ce : Cell), s0.heap = H → XC E s0 t → t.heap[q]? = some ce → ce.vm = .none → s.vm.findClass E = some ce.cls → (∀ q ∈ locs', sz ≤ q.base) → vx_W p l e R s m args below meth c t.heap locs' (cells + mc) (slots + ms) Q (F0 m pc ls st) q) :
    W p l e R s m args below meth c H locs cells slots Q (F0 m pc ls (As.reverse ++ .ref b :: st)) := by
  have h2 : ∀ w ∈ gT, w.before args s = true := fun w hw => hts w (List.mem_cons_of_mem _ hw)
  obtain ⟨cell, c1, c2, c3⟩ := hob
  have hr := vx_runV (p := p) (l := l) (e := e) (R := R) (below := below) (meth := meth) (H := H) (locs := locs) (cells := cells) (slots := slots) (C := C) (b := b) (As := As) (rest := st) (g := F0 m pc ls (As.reverse ++ .ref b :: st)) ⟨hx, hb, hml, hown, hts⟩ hM ⟨callB_of As.length hts (gT_gi hc) rfl h0.1 h0.2 (h2 _ hi) (h2 _ hl) hd hR, h2 _ hin, h2 _ hse⟩ ⟨hbl, ⟨cell, c1, by rw [c2]; rfl, c3⟩, hpre⟩ rfl rfl hsize rfl (lv_room hwt) hdg hf
  intro T hT X
  rcases hr T hT X with ⟨v, s0, t, T', L, g0, X', hL, e1, e2, hq, go⟩ | ⟨q, s0, t, T', L, E, ce, g0, X', hL, e1, e2, hq, hce, hcv, hcl, go⟩
  · obtain ⟨tt, b1, b2⟩ := kk v s0 t (locs ++ L) g0 hq (fun q hq => (List.mem_append.mp hq).elim (hlo q) (hL q)) T' e1 X'
    exact ⟨tt, go tt b1, b2⟩
  · obtain ⟨tt, b1, b2⟩ := kx q s0 t (locs ++ L) E ce g0 hq hce hcv hcl (fun q hq => (List.mem_append.mp hq).elim (hlo q) (hL q)) T' e1 X'
    exact ⟨tt, go.trans b1, b2⟩
/-- a call of a static method with a table, that returns -/
theorem zw_row {y : MethodName} {bytes : ByteArray} {maxL nL mc ms idx : Nat} {ret : Option FieldType} {hh : List (Nat × Nat × Nat × Nat)} {rm : Room} {own : String} {Ts : List Cond} {Pc : Array Value → State → Prop} {Qc : Array Value → State → Outcome → State → Prop} {As : List Value}
    (hx : p.tables.exec = Jvm.exec) (hb : c.code = cc) (hml : c.maxLocals = nL) (hown : s.vm.findClass own = some m.cls) (hts : ∀ w ∈ Ts, w.before args s = true) (hGT : ∀ w ∈ gT, w ∈ Ts) (hM : Met l y (Cond.codeWith y bytes maxL ret hh :: gT) rm Pc Qc mc ms (zy_fr sz)) (h0 : rm.cells = mc ∧ rm.slots = ms) (hR : rm.frames + 1 ≤ R.frames ∧ 8 + (maxL + 11) + rm.locals ≤ R.locals) (hf : cells + mc ≤ R.cells ∧ slots + ms ≤ R.slots)
    (hc : Cond.codeWith y bytes maxL ret hh ∈ gT) (hi : Cond.initialized y.cls ∈ gT) (hl : Cond.methodLink own idx y ∈ gT) (hst : Cond.static y ∈ gT) (hd : y.cls ≠ "java/lang/invoke/MethodHandle" ∧ y.cls ≠ "java/lang/invoke/VarHandle" ∧ (parseMethodDescriptor y.desc).map (fun d => d.parameters.length) = some As.length)
    (hbl : FrameBlind Pc) (hpre : ∀ U : State, U.heap = H → s.WarmedH U.vm → Pc As.toArray U) (hlo : ∀ q ∈ locs, sz ≤ q.base) (hsize : ls.size = nL) (hwt : (st.map fun v => v.category).sum ≤ 8) (hdg : decode cc pc = .ok (.invokestatic idx, 3))
    (kk : ∀ (v : Option Value) (s0 t : State) (locs' : List Loc), s0.heap = H → Qc As.toArray s0 (.returned v) t → (∀ q ∈ locs', sz ≤ q.base) → W p l e R s m args below meth c t.heap locs' (cells + mc) (slots + ms) Q (F0 m (pc + 3) ls (v.toList ++ st))) :
    W p l e R s m args below meth c H locs cells slots Q (F0 m pc ls (As.reverse ++ st)) := by
  have h2 : ∀ w ∈ gT, w.before args s = true := fun w hw => hts w (hGT w hw)
  have hG : GoodIn Ts (Cond.codeWith y bytes maxL ret hh :: gT) := fun w hw => by
    rcases List.mem_cons.mp hw with h | h
    · rw [h]; exact ⟨hGT _ hc, good_of_word (List.mem_filter.mp hc).2⟩
    · exact ⟨hGT _ h, good_of_word (List.mem_filter.mp h).2⟩
  have hr := vx_runSW (p := p) (l := l) (e := e) (R := R) (below := below) (meth := meth) (H := H) (locs := locs) (cells := cells) (slots := slots) (As := As) (rest := st) (g := F0 m pc ls (As.reverse ++ st)) ⟨hx, hb, hml, hown, hts⟩ hM ⟨⟨h0.1, h0.2, hR.1, hR.2, pay_in hts hG, List.mem_cons_self⟩, h2 _ hc, h2 _ hi, ⟨hd.1, hd.2.1⟩, fun sig h => by
      have h9 := hd.2.2
      rw [h] at h9
      exact (Option.some.inj h9).symm, h2 _ hl, h2 _ hst⟩ ⟨hbl, hpre⟩ rfl rfl hsize rfl (lv_room hwt) hdg hf
  intro T hT X
  obtain ⟨v, s0, t, T', L, g0, X', hL, e1, e2, hq, go⟩ := hr T hT X
  obtain ⟨tt, b1, b2⟩ := kk v s0 t (locs ++ L) g0 hq (fun q hq => (List.mem_append.mp hq).elim (hlo q) (hL q)) T' e1 X'
  exact ⟨tt, go tt b1, b2⟩
/-- a long is stored into out[0] -/
theorem zw_out {o : Nat} {j : Int32} {x : Int64} (hx : p.tables.exec = Jvm.exec) (hb : c.code = cc) (hh : zh_ok D cA RTg ro sz H0 H locs) (hK : zK0 D cA s) (ho : ro o = some 42) (hj : j.toInt = 0) (hd : decode cc pc = .ok (.lastore, 1))
    (kk : ∀ (H' : Heap) (locs' : List Loc), zh_ok D cA RTg ro sz H0 H' locs' → (∀ q : Nat, q ≠ o → H'[q]? = H[q]?) → H'.size = H.size → (∃ z : Nat → Value, H'[o]? = some (arrV (cA 1) 1 z) ∧ z 0 = .long x) → W p l e R s m args below meth c H' locs' cells slots Q (F0 m (pc + 1) ls st)) : W p l e R s m args below meth c H locs cells slots Q (F0 m pc ls (.long x :: .int j :: .ref o :: st)) := by
  obtain ⟨hsb, z, c1, y1⟩ := zh_arr hh ho (show RTg[42]? = some (1, 1, 1, [(1, (-9223372036854775808), 9223372036854775807)]) from rfl)
  have hv : vp_in j 1 := vp_in_iff.mpr ⟨by omega, by omega⟩
  have hj0 : j.toNatClampNeg = 0 := by show j.toInt.toNat = 0; omega
  refine W.last hx hb c1 ((hK.2 1 _ rfl).1 1 z) (fun h => by cases h) (by rw [arrV_size]; exact hv) rfl rfl hd (fun H' e1 e2 e3 => ?_)
  rw [arrV_store] at e1
  refine kk H' _ (zh_setA hh ho (show RTg[42]? = some (1, 1, 1, [(1, (-9223372036854775808), 9223372036854775807)]) from rfl) e2 e1 e3 (fun i hi => ?_) (fun q hq => ?_)) e3 e2 ⟨_, e1, by rw [hj0]; simp [updV]⟩
  · unfold updV
    split
    · exact ⟨x, rfl, (zn_i64 x).1, (zn_i64 x).2⟩
    · exact y1 i hi
  · rcases List.mem_append.mp hq with g | g
    · exact hh.2.2.1 q g
    · rw [List.mem_singleton.mp g]; exact hsb
end ZWR
/-- what a wrapper needs and gives -/
def zw_Pc (D : va_G) (cA : Nat → ClassId) (ro : Nat → Option Nat) (sz : Nat) (H0 : Heap) (vs : List Value) : Array Value → State → Prop := fun a U => a = vs.toArray ∧ zh_ok D cA RTg ro sz H0 U.heap [] ∧ zKa D cA ro sz H0 U
def zw_Qc (D : va_G) (cA : Nat → ClassId) (ro : Nat → Option Nat) (sz : Nat) (H0 : Heap) : Array Value → State → Outcome → State → Prop := fun _ _ oc t => ∃ (k : Int32) (ro' : Nat → Option Nat), oc = .returned (some (.int k)) ∧ (∀ q r, ro q = some r → ro' q = some r) ∧ zh_ok D cA RTg ro' sz H0 t.heap []
theorem zw_blind {D : va_G} {cA : Nat → ClassId} {ro : Nat → Option Nat} {sz : Nat} {H0 : Heap} {vs : List Value} : FrameBlind (zw_Pc D cA ro sz H0 vs) := by
  intro a U g mk h
  obtain ⟨h1, h2, h3⟩ := h
  exact ⟨h1, h2, zKa.same (s := U) (U := U.calling g mk a) rfl h3⟩
