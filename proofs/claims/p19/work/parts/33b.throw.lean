/-! methods that throw -/
def gS : List (Nat × String) := [(85, "no such date"), (98, "a day of no year"), (130, "no such part of a day"), (132, "no such day of a week"), (143, "no year with an Easter"), (151, "no day that can become a leap day"), (159, "no room for more leap days"), (171, "no such second of a minute"), (177, "no such reading of an instant"), (189, "no such offset"), (191, "no room for more zones"), (203, "no such change"), (206, "no room for more changes"), (211, "no such zone"), (224, "no such zone or instant"), (229, "no such zone or local time"), (240, "no such count of bytes"), (245, "no room for more bytes"), (256, "no such form"), (299, "no such field"), (301, "no such day or style"), (303, "a week year that is none"), (324, "no such instant, part or offset"), (326, "a local time of no year"), (350, "no such duration"), (371, "no such byte"), (378, "a time of no year"), (380, "no such zone, instant or part"), (384, "instants that are not apart so")]
def eI : String := "java/lang/IllegalArgumentException"
def eU : String := "java/lang/UnsupportedOperationException"
def eX : String := "java/lang/IndexOutOfBoundsException"
def gC : List (String × String) := [(eI, eI), (eU, eU), (eX, eX)]
def gD : List MethodName := [⟨"java/lang/RuntimeException", "<init>", "(Ljava/lang/String;)V"⟩, ⟨"java/lang/Exception", "<init>", "(Ljava/lang/String;)V"⟩, ⟨"java/lang/Throwable", "<init>", "(Ljava/lang/String;)V"⟩]
def gNg : List Cond := gC.map (fun x => Cond.castable x.1 x.2) ++ gD.map (fun y => Cond.declares y)
/-- what is known of the tables where a method may throw -/
def zKx (D : va_G) (cA : Nat → ClassId) (ro : Nat → Option Nat) (sz : Nat) (H0 : Heap) : State → Prop := fun s => zKn D cA ro sz H0 s ∧ vx_Zq Bundle.tN "UNASSIGNED_STACK" Bundle.steD (fun q => sz ≤ q) s H0 ∧ vx_Zq Bundle.tN "SUPPRESSED_SENTINEL" Bundle.listD (fun q => sz ≤ q) s H0 ∧ (∀ x ∈ gS, ∃ a : Nat, vk_R RX11 x.1 x.2 a s) ∧ (∀ x ∈ gC, va_Nw (.castable x.1 x.2) s) ∧ (∀ y ∈ gD, va_Nw (.declares y) s) ∧ va_Nc eU eI s
theorem zKx.warm {D : va_G} {cA : Nat → ClassId} {ro : Nat → Option Nat} {sz : Nat} {H0 : Heap} {s U : State} (hW : s.WarmedH U.vm) (k : zKx D cA ro sz H0 s) : zKx D cA ro sz H0 U :=
  ⟨zKb s U hW.alike k.1, vx_Zq.moved hW.alike k.2.1, vx_Zq.moved hW.alike k.2.2.1, fun x hx => by
    obtain ⟨a, h⟩ := k.2.2.2.1 x hx
    exact ⟨a, vk_R.warm hW h⟩, fun x hx => va_Nw.warmC hW (k.2.2.2.2.1 x hx), fun y hy => va_Nw.warmD hW (k.2.2.2.2.2.1 y hy), va_Nc.moved hW.alike k.2.2.2.2.2.2⟩
theorem zKx.same {D : va_G} {cA : Nat → ClassId} {ro : Nat → Option Nat} {sz : Nat} {H0 : Heap} {s U : State} (hv : U.vm = s.vm) (k : zKx D cA ro sz H0 s) : zKx D cA ro sz H0 U := by
  have hA : s.vm.Alike U.vm := by rw [hv]; exact Vm.Alike.refl s.vm
  refine ⟨zKb s U hA k.1, vx_Zq.moved hA k.2.1, vx_Zq.moved hA k.2.2.1, fun x hx => ?_, fun x hx => va_Nw.same rfl hv.symm (k.2.2.2.2.1 x hx), fun y hy => va_Nw.same rfl hv.symm (k.2.2.2.2.2.1 y hy), va_Nc.moved hA k.2.2.2.2.2.2⟩
  obtain ⟨a, h⟩ := k.2.2.2.1 x hx
  exact ⟨a, vk_R.same hv h⟩
theorem zKx.ng {D : va_G} {cA : Nat → ClassId} {ro : Nat → Option Nat} {sz : Nat} {H0 : Heap} {s : State} {args : Array Value} (k : zKx D cA ro sz H0 s) : ∀ w ∈ gNg, w.before args s = true := fun w hw => by
  rcases List.mem_append.mp hw with h | h
  · obtain ⟨x, hx, rfl⟩ := List.mem_map.mp h
    exact va_Nw.use rfl (k.2.2.2.2.1 x hx)
  · obtain ⟨y, hy, rfl⟩ := List.mem_map.mp h
    exact va_Nw.use rfl (k.2.2.2.2.2.1 y hy)
theorem gNg_ot : ∀ w ∈ gNg, vx_ot w = true := by decide +kernel
/-- more cells, the old ones as they were -/
theorem zh_ok.grow {D : va_G} {cA : Nat → ClassId} {RT : List zr_R} {ro : Nat → Option Nat} {sz : Nat} {H0 H H1 : Heap} {locs : List Loc} (h : zh_ok D cA RT ro sz H0 H locs) (hz : H.size ≤ H1.size) (hq : ∀ q : Nat, q < H.size → H1[q]? = H[q]?) : zh_ok D cA RT ro sz H0 H1 [] := by
  refine ⟨Nat.le_trans h.1 hz, fun q hq' => by rw [hq q (Nat.lt_of_lt_of_le hq' h.1)]; exact h.2.1 q hq', fun q hq => (by cases hq), fun a r ha => ?_⟩
  obtain ⟨e, h1, h2, h3⟩ := h.2.2.2 a r ha
  refine ⟨e, h1, h2, ?_⟩
  unfold zh_cell at h3 ⊢
  split at h3
  · obtain ⟨cell, c1, c2⟩ := h3
    exact ⟨cell, by rw [hq a (Array.getElem?_eq_some_iff.mp c1).1]; exact c1, c2⟩
  · obtain ⟨cell, z, c1, c2⟩ := h3
    exact ⟨cell, z, by rw [hq a (Array.getElem?_eq_some_iff.mp c1).1]; exact c1, c2⟩
  · obtain ⟨z, c1, c2⟩ := h3
    exact ⟨z, by rw [hq a (Array.getElem?_eq_some_iff.mp c1).1]; exact c1, c2⟩
theorem zh_f_grow {D : va_G} {cA : Nat → ClassId} {RT : List zr_R} {ro : Nat → Option Nat} {sz : Nat} {H0 H H1 : Heap} {locs : List Loc} (h : zh_ok D cA RT ro sz H0 H locs) (hq : ∀ q : Nat, q < H.size → H1[q]? = H[q]?) {ms : List (Nat × Nat)} {Hs : Heap} (hk : zc_kept D RT ro ms Hs H) : zc_kept D RT ro ms Hs H1 := by
  have hlt : ∀ (a r : Nat), ro a = some r → a < H.size := fun a r ha => by
    obtain ⟨e, -, -, h3⟩ := h.2.2.2 a r ha
    unfold zh_cell at h3
    split at h3
    · obtain ⟨cell, h1, -⟩ := h3
      exact (Array.getElem?_eq_some_iff.mp h1).1
    · obtain ⟨cell, z, h1, -⟩ := h3
      exact (Array.getElem?_eq_some_iff.mp h1).1
    · obtain ⟨z, h1, -⟩ := h3
      exact (Array.getElem?_eq_some_iff.mp h1).1
  refine ⟨?_, fun a r kd ti n fs ha hr hm => (hq a (hlt a r ha)).trans (hk.2 a r kd ti n fs ha hr hm)⟩
  intro a r k ci n fs ha hr hkf hms
  rw [← hk.1 a r k ci n fs ha hr hkf hms]
  obtain ⟨e, h1, -, h3⟩ := h.2.2.2 a r ha
  cases hr.symm.trans h1
  obtain ⟨cell, c1, -⟩ := h3
  unfold zh_f
  rw [hq a (Array.getElem?_eq_some_iff.mp c1).1]
def zx_XC (D : va_G) (cA : Nat → ClassId) (ro : Nat → Option Nat) (sz : Nat) (H0 : Heap) (k : zc_C) (Es : List String) : String → State → State → Prop := fun E st t => E ∈ Es ∧ zh_ok D cA RTg ro sz H0 t.heap [] ∧ zc_kept D RTg ro k.2.2.2.1 st.heap t.heap
def zx_Pc (D : va_G) (cA : Nat → ClassId) (ro : Nat → Option Nat) (sz : Nat) (H0 : Heap) (k : zc_C) : Array Value → State → Prop := zy_Pc D cA RTg ro sz H0 (zKx D cA ro sz H0) k
theorem zx_blind {D : va_G} {cA : Nat → ClassId} {ro : Nat → Option Nat} {sz : Nat} {H0 : Heap} {k : zc_C} : FrameBlind (zx_Pc D cA ro sz H0 k) := by
  intro a U g mk h
  obtain ⟨vs, h1, h2, h3, h4⟩ := h
  exact ⟨vs, h1, h2, h3, zKx.same (s := U) (U := U.calling g mk a) rfl h4⟩
def zx_M (l : Launch) (D : va_G) (cA : Nat → ClassId) (ro : Nat → Option Nat) (sz : Nat) (H0 : Heap) (y : MethodName) (ws : List Cond) (rm : Room) (k : zc_C) (Es : List String) : Prop := vx_Met l y ws rm (zx_Pc D cA ro sz H0 k) (zy_Qc D cA RTg ro sz H0 k) (zx_XC D cA ro sz H0 k Es) 1 6 (zy_fr sz)
def gAt (ic : Nat) (cls : String) : List Cond := vx_atS RX11 ic cls ["java/lang/RuntimeException", "java/lang/Exception"]
theorem gAt_1 : ((gAt 87 "java/lang/IllegalArgumentException").all (fun w => (decide (w ∈ lw_tbl) && goodWord w) || decide (w ∈ gNg))) = true := by decide +kernel
theorem gAt_2 : ((gAt 161 "java/lang/UnsupportedOperationException").all (fun w => (decide (w ∈ lw_tbl) && goodWord w) || decide (w ∈ gNg))) = true := by decide +kernel
theorem gAt_3 : ((gAt 373 "java/lang/IndexOutOfBoundsException").all (fun w => (decide (w ∈ lw_tbl) && goodWord w) || decide (w ∈ gNg))) = true := by decide +kernel
theorem gAt_in {ic : Nat} {cls : String} (h : ((gAt ic cls).all (fun w => (decide (w ∈ lw_tbl) && goodWord w) || decide (w ∈ gNg))) = true) : ∀ w ∈ gAt ic cls, w ∈ gT ∨ w ∈ gNg := fun w hw => by
  have h1 := List.all_eq_true.mp h w hw
  simp only [Bool.or_eq_true, Bool.and_eq_true, decide_eq_true_eq] at h1
  exact h1.imp (fun g => gT_in g.1 g.2) id
theorem gT_ot {w : Cond} (h : w ∈ gT) : vx_ot w = true := by
  unfold vx_ot
  rw [(List.mem_filter.mp h).2, Bool.or_true]
section ZXL
variable {p : Program} {l : Launch} {e : Env} {R : Room} {s : State} {m : MethodId} {args : Array Value} {below : List Frame} {meth : Method} {c : Code} {H : Heap} {locs : List Loc} {cc : ByteArray} {pc : Nat} {ls : Array Slot}
variable {D : va_G} {cA : Nat → ClassId} {ro : Nat → Option Nat} {sz : Nat} {H0 : Heap} {k : zc_C} {Es : List String}

theorem zx_leaf {ik is ic : Nat} {cls text : String} (hx : p.tables.exec = Jvm.exec) (hb : c.code = cc) (hl : l.stackTraces = false) (hown : s.vm.findClass RX11 = some m.cls) (hts : ∀ w ∈ gT, w.before args s = true) (hK : zKx D cA ro sz H0 s) (hh0 : zh_ok D cA RTg ro sz H0 s.heap []) (hh : zh_ok D cA RTg ro sz H0 H locs) (hkp : zc_kept D RTg ro k.2.2.2.1 s.heap H) (hsize : ls.size = c.maxLocals) (hout : ∀ x ∈ c.exceptionTable.toList, False) (hlocks : meth.locks = false) (hR : 6 ≤ R.frames ∧ 82 ≤ R.locals ∧ 1 ≤ R.cells ∧ 6 ≤ R.slots)
    (hcl : Cond.classLink RX11 ik cls ∈ gT) (hini : Cond.initialized cls ∈ gT) (hstr : (is, text) ∈ gS) (hat : ∀ w ∈ gAt ic cls, w ∈ gT ∨ w ∈ gNg) (hfit : Bundle.fit cls = true) (hE : cls ∈ Es)
    (d0 : decode cc pc = .ok (.new ik, 3)) (d3 : decode cc (pc + 3) = .ok (.dup, 1)) (d4 : decode cc (pc + 4) = .ok (.ldc is, 2)) (d6 : decode cc (pc + 6) = .ok (.invokespecial ic, 3)) (d9 : decode cc (pc + 9) = .ok (.athrow, 1)) :
    W p l e R s m args below meth c H locs 0 0 (vx_MQ below (zy_Qc D cA RTg ro sz H0 k) (zx_XC D cA ro sz H0 k Es) args s 1 6 (zy_fr sz)) (F0 m pc ls []) := by
  intro T hT X
  have hsz : s.heap.size ≤ H.size := by
    have h1 : s.heap.size ≤ T.heap.size := X.same.2.1
    rw [hT] at h1; exact h1
  obtain ⟨sa, hsa⟩ := hK.2.2.2.1 _ hstr
  have hU : ∀ {n d : String}, vx_Zq Bundle.tN n d (fun q => sz ≤ q) s H0 → vx_Zq Bundle.tN n d (fun q => sz ≤ q) s s.heap := fun h => h.kept (fun q _ h2 => hh0.2.1 q (Nat.not_le.mp h2))
  have hS : va_S (fun q => sz ≤ q) s.heap H locs := ⟨hsz, fun q _ h2 => by rw [hh.2.1 q (Nat.not_le.mp h2), hh0.2.1 q (Nat.not_le.mp h2)], hh.2.2.1⟩
  exact vx_throwS (names := ["java/lang/RuntimeException", "java/lang/Exception"]) hx hb hl hown hfit (by decide) (hts _ hcl) (hts _ hini) hsa (fun w hw => (hat w hw).elim (hts w) (hK.ng w))
    (fun w hw => by
      rcases List.mem_cons.mp hw with g | g
      · rw [g]; exact gT_ot hcl
      · rcases List.mem_cons.mp g with g | g
        · rw [g]; exact gT_ot hini
        · exact (hat w g).elim gT_ot (gNg_ot w)) (hU hK.2.1) (hU hK.2.2.1) hS hsize d0 d3 d4 d6 d9 (fun x hx => (hout x hx).elim) (by show 2 + 3 < _; omega) (by show 0 + (13 * (2 + 1) + 43) ≤ _; omega) (by omega) (by omega) hlocks
    (fun t _ hz hq => ⟨hE, hh.grow hz hq, zh_f_grow hh hq hkp⟩) hh.2.2.1 (Nat.le_refl _) (Nat.le_refl _) T hT X
theorem zx_leafW {ik is ic : Nat} {cls text : String} (hx : p.tables.exec = Jvm.exec) (hb : c.code = cc) (hl : l.stackTraces = false) (hown : s.vm.findClass RX11 = some m.cls) (hts : ∀ w ∈ gT, w.before args s = true) (hK : zKx D cA ro sz H0 s) (hh0 : zh_ok D cA RTg ro sz H0 s.heap []) (hh : zh_ok D cA RTg ro sz H0 H locs) (hkp : zc_kept D RTg ro k.2.2.2.1 s.heap H) (hsize : ls.size = c.maxLocals) (hout : ∀ x ∈ c.exceptionTable.toList, False) (hlocks : meth.locks = false) (hR : 6 ≤ R.frames ∧ 82 ≤ R.locals ∧ 1 ≤ R.cells ∧ 6 ≤ R.slots)
    (hcl : Cond.classLink RX11 ik cls ∈ gT) (hini : Cond.initialized cls ∈ gT) (hstr : (is, text) ∈ gS) (hat : ∀ w ∈ gAt ic cls, w ∈ gT ∨ w ∈ gNg) (hfit : Bundle.fit cls = true) (hE : cls ∈ Es)
    (d0 : decode cc pc = .ok (.new ik, 3)) (d3 : decode cc (pc + 3) = .ok (.dup, 1)) (d4 : decode cc (pc + 4) = .ok (.ldc_w is, 3)) (d6 : decode cc (pc + 7) = .ok (.invokespecial ic, 3)) (d9 : decode cc (pc + 10) = .ok (.athrow, 1)) :
    W p l e R s m args below meth c H locs 0 0 (vx_MQ below (zy_Qc D cA RTg ro sz H0 k) (zx_XC D cA ro sz H0 k Es) args s 1 6 (zy_fr sz)) (F0 m pc ls []) := by
  intro T hT X
  have hsz : s.heap.size ≤ H.size := by
    have h1 : s.heap.size ≤ T.heap.size := X.same.2.1
    rw [hT] at h1; exact h1
  obtain ⟨sa, hsa⟩ := hK.2.2.2.1 _ hstr
  have hU : ∀ {n d : String}, vx_Zq Bundle.tN n d (fun q => sz ≤ q) s H0 → vx_Zq Bundle.tN n d (fun q => sz ≤ q) s s.heap := fun h => h.kept (fun q _ h2 => hh0.2.1 q (Nat.not_le.mp h2))
  have hS : va_S (fun q => sz ≤ q) s.heap H locs := ⟨hsz, fun q _ h2 => by rw [hh.2.1 q (Nat.not_le.mp h2), hh0.2.1 q (Nat.not_le.mp h2)], hh.2.2.1⟩
  exact vx_throwSW (names := ["java/lang/RuntimeException", "java/lang/Exception"]) hx hb hl hown hfit (by decide) (hts _ hcl) (hts _ hini) hsa (fun w hw => (hat w hw).elim (hts w) (hK.ng w))
    (fun w hw => by
      rcases List.mem_cons.mp hw with g | g
      · rw [g]; exact gT_ot hcl
      · rcases List.mem_cons.mp g with g | g
        · rw [g]; exact gT_ot hini
        · exact (hat w g).elim gT_ot (gNg_ot w)) (hU hK.2.1) (hU hK.2.2.1) hS hsize d0 d3 d4 d6 d9 (fun x hx => (hout x hx).elim) (by show 2 + 3 < _; omega) (by show 0 + (13 * (2 + 1) + 43) ≤ _; omega) (by omega) (by omega) hlocks
    (fun t _ hz hq => ⟨hE, hh.grow hz hq, zh_f_grow hh hq hkp⟩) hh.2.2.1 (Nat.le_refl _) (Nat.le_refl _) T hT X
end ZXL
/-- a method that returns or throws, out of its checks and its leaves -/
theorem zx_met {l : Launch} {D : va_G} {cA : Nat → ClassId} {ro : Nat → Option Nat} {sz : Nat} {H0 : Heap} {k : zc_C} {Es : List String} {y : MethodName} {ws ws' : List Cond} {rm : Room} {cc : ByteArray} {maxL : Nat} {ret : Option FieldType} {zn : String} {K : zk_K} {tb : List (Nat × Instr × Nat)} {pts : List zp_P} {rc N fuel : Nat}
    (hy : plainName y.cls = true) (hw : ws = Cond.code y cc maxL ret :: ws') (hK1 : K.1 = maxL) (hKR : K.2.1 = RTg) (haw : zy_aw k.1 ≤ maxL) (hms : K.2.2.2.2.2.2.2.1 = k.2.2.2.1) (hrc : k.2.2.2.2.2.all (fun al => zy_rk rc ret al.1) = true) (hdec : ∀ x ∈ tb, decode cc x.1 = .ok x.2) (hc : zy_ck K tb pts k rc N fuel = true)
    (hMM : ∀ (p : Program) (e : Env) (s : State) (m : MethodId) (args : Array Value) (below : List Frame) (meth : Method) (c : Code) (Q : State → Prop), p.tables.exec = Jvm.exec → c.code = cc → c.maxLocals = maxL → s.vm.findClass y.cls = some m.cls → (∀ w ∈ ws, w.before args s = true) → zKn D cA ro sz H0 s → zk_M p l e (headSpec ws rm).room s m args below meth c 0 0 Q cc D cA ro sz H0 zn K)
    (hLF : ∀ (p : Program) (e : Env) (s : State) (m : MethodId) (args : Array Value) (below : List Frame) (meth : Method) (c : Code) (pc : Nat) (H : Heap) (locs : List Loc) (ls : Array Slot), p.tables.exec = Jvm.exec → c.code = cc → s.vm.findClass y.cls = some m.cls → (∀ w ∈ ws, w.before args s = true) → zKx D cA ro sz H0 s → zh_ok D cA RTg ro sz H0 s.heap [] → zh_ok D cA RTg ro sz H0 H locs → zc_kept D RTg ro k.2.2.2.1 s.heap H → ls.size = c.maxLocals → (∀ x ∈ c.exceptionTable.toList, False) → meth.locks = false → pc ∈ K.2.2.2.2.2.2.2.2 →
      W p l e (headSpec ws rm).room s m args below meth c H locs 0 0 (vx_MQ below (zy_Qc D cA RTg ro sz H0 k) (zx_XC D cA ro sz H0 k Es) args s 1 6 (zy_fr sz)) (F0 m pc ls [])) : zx_M l D cA ro sz H0 y ws rm k Es := by
  refine vx_ofW (cc := cc) (maxL := maxL) (ret := ret) hy hw ?_
  intro p e s m args below meth c s1 B hml hex hv
  obtain ⟨vs, rfl, hh, hp, hKn⟩ := hv
  have hl := lv_entry vs (n := maxL) (Nat.le_trans (zy_aw_ok hp.1) haw)
  rw [lg_entry_eq]
  generalize (lg_sl vs ++ List.replicate (maxL - (lg_sl vs).length) Slot.unset).toArray = ls at hl ⊢
  have hts := atoms_spec (ws := ws) B.pre
  have hlocks := B.notSynchronized
  have hown := findClass_of_methodNamed B.named
  rw [← hKR] at hh hp
  refine zy_body (zn := zn) (K := K) (hMM p e s m vs.toArray below meth c _ B.exec B.bytes hml hown hts hKn.1) ⟨fun pc i H locs ls x hd hi hi0 hh' hk hal => ?_, fun pc H locs ls hpc hls hh' hk => ?_⟩ hdec hc hp hh (by rw [hK1]; exact hl)
  · refine vx_ret (W.widen (k := 1) (n := 6) (Nat.zero_le _) (Nat.zero_le _) ?_)
    rw [← hKR]
    exact zy_ret B.exec B.bytes B.returns hlocks rfl hms hrc hd hi hh' hk hal
  · rw [hKR] at hh hh' hk
    rw [hms] at hk
    exact hLF p e s m vs.toArray below meth c pc H locs ls B.exec B.bytes hown hts hKn hh hh' hk (by rw [hls, hK1, hml]) hex hlocks hpc
