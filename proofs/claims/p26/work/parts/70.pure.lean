/-! static methods that touch nothing: their answers -/
def zu_M (l : Launch) (y : MethodName) (ws : List Cond) (rm : Room) (Pv : List Value → Prop) (Kp : State → Prop) (Φ : List Value → Value → Prop) : Prop := Met l y ws rm (fun a U => ∃ vs : List Value, a = vs.toArray ∧ Pv vs ∧ Kp U) (fun a st oc t => ∃ (vs : List Value) (v : Value), a = vs.toArray ∧ oc = .returned (some v) ∧ Φ vs v ∧ t.heap = st.heap) 0 0 (fun _ => False)
def zT : State → Prop := fun _ => True
/-- what of the tables and the heap is kept by a frame, and by a warmer table -/
def zu_B (Kp : State → Prop) : Prop := (∀ (U V : State), V.vm = U.vm → V.heap = U.heap → Kp U → Kp V) ∧ ∀ (U V : State), U.WarmedH V.vm → V.heap = U.heap → Kp U → Kp V
theorem zu_BT : zu_B zT := ⟨fun _ _ _ _ _ => trivial, fun _ _ _ _ _ => trivial⟩
section ZPS
variable {p : Program} {l : Launch} {e : Env} {R : Room} {s : State} {m : MethodId} {args : Array Value} {below : List Frame} {meth : Method} {c : Code} {H : Heap} {locs : List Loc} {cells slots : Nat} {Q : State → Prop} {cc : ByteArray} {pc : Nat} {ls : Array Slot} {rest : List Value}
theorem zu_S {y : MethodName} {rm : Room} {Pv : List Value → Prop} {Kp : State → Prop} {Φ : List Value → Value → Prop} {nL maxL idx : Nat} {ret : Option FieldType} {own : String} {x0 : Cond} {bytes : ByteArray} {vs : List Value} (hx : p.tables.exec = Jvm.exec) (hb : c.code = cc) (hml : c.maxLocals = nL) (hown : s.vm.findClass own = some m.cls) (hts : ∀ w ∈ x0 :: gT, w.before args s = true) (hB : zu_B Kp) (hM : zu_M l y (gW y bytes maxL ret) rm Pv Kp Φ) (h0 : rm.cells = 0 ∧ rm.slots = 0) (hR : rm.frames + 1 ≤ R.frames ∧ 8 + (maxL + 11) + rm.locals ≤ R.locals) (hf : cells ≤ R.cells ∧ slots ≤ R.slots)
    (hc : Cond.code y bytes maxL ret ∈ gT) (hi : Cond.initialized y.cls ∈ gT) (hl : Cond.methodLink own idx y ∈ gT) (hst : Cond.static y ∈ gT) (hd : y.cls ≠ "java/lang/invoke/MethodHandle" ∧ y.cls ≠ "java/lang/invoke/VarHandle" ∧ (parseMethodDescriptor y.desc).map (fun d => d.parameters.length) = some vs.length) (hp : Pv vs) (hKp : ∀ U : State, U.heap = H → s.WarmedH U.vm → Kp U) (hsize : ls.size = nL) (hwt : (rest.map fun v => v.category).sum ≤ 8) (hdg : decode cc pc = .ok (.invokestatic idx, 3))
    (kk : ∀ v : Value, Φ vs v → W p l e R s m args below meth c H locs cells slots Q (F0 m (pc + 3) ls (v :: rest))) :
    W p l e R s m args below meth c H locs cells slots Q (F0 m pc ls (vs.reverse ++ rest)) := by
  have h2 : ∀ w ∈ gT, w.before args s = true := fun w hw => hts w (List.mem_cons_of_mem _ hw)
  have hr := va_runS (p := p) (l := l) (e := e) (R := R) (below := below) (meth := meth) (H := H) (locs := locs) (cells := cells) (slots := slots) (As := vs) (rest := rest) (g := F0 m pc ls (vs.reverse ++ rest)) ⟨hx, hb, hml, hown, hts⟩ hM ⟨callB_of vs.length hts (gT_gi hc) rfl h0.1 h0.2 (h2 _ hi) (h2 _ hl) hd hR, h2 _ hst⟩ ⟨fun a U g mk h => by
      obtain ⟨vs, h1, h3, h4⟩ := h
      exact ⟨vs, h1, h3, hB.1 U (U.calling g mk a) rfl rfl h4⟩, fun U hU hW => ⟨vs, rfl, hp, hKp U hU hW⟩⟩ rfl rfl hsize rfl (lv_room hwt) hdg hf
  intro T hT X
  obtain ⟨v, st0, t, T', L, g0, X', hL, e1, e2, hq, go⟩ := hr T hT X
  obtain ⟨vs', v', q1, q2, q3, q4⟩ := hq
  have hvs : vs' = vs := zt_arr_inj q1.symm
  subst hvs
  cases q2
  have hL0 : L = [] := by
    match L, hL with
    | [], _ => rfl
    | q :: L, hL => exact (hL q List.mem_cons_self).elim
  subst hL0
  rw [List.append_nil] at X'
  obtain ⟨tt, b1, b2⟩ := kk v' q3 T' (by rw [e1, q4, g0]) X'
  exact ⟨tt, go tt b1, b2⟩
/-- the ends -/
theorem zu_iret {y : MethodName} {ws : List Cond} {rm : Room} {Φ : List Value → Value → Prop} {ty : FieldType} {vs : List Value} {x : Int32} (hx : p.tables.exec = Jvm.exec) (hb : c.code = cc) (hr : meth.sig.returnType = some ty) (hlocks : meth.locks = false) (hn : narrow ty (.int x) = .int x) (hΦ : Φ vs (.int x)) (hd : decode cc pc = .ok (.ireturn, 1)) :
    W p l e R s m vs.toArray below meth c s.heap [] 0 0 (MQ below (fun a st oc t => ∃ (vs : List Value) (v : Value), a = vs.toArray ∧ oc = .returned (some v) ∧ Φ vs v ∧ t.heap = st.heap) vs.toArray s 0 0 (fun _ => False)) (F0 m pc ls [.int x]) :=
  W.zret hx hb hr hn (fun t ht _ => ⟨vs, _, rfl, rfl, hΦ, ht⟩) (fun q hq => by cases hq) hd
theorem zu_lret {y : MethodName} {ws : List Cond} {rm : Room} {Φ : List Value → Value → Prop} {vs : List Value} {x : Int64} (hx : p.tables.exec = Jvm.exec) (hb : c.code = cc) (hr : meth.sig.returnType = some .long) (hlocks : meth.locks = false) (hΦ : Φ vs (.long x)) (hd : decode cc pc = .ok (.lreturn, 1)) :
    W p l e R s m vs.toArray below meth c s.heap [] 0 0 (MQ below (fun a st oc t => ∃ (vs : List Value) (v : Value), a = vs.toArray ∧ oc = .returned (some v) ∧ Φ vs v ∧ t.heap = st.heap) vs.toArray s 0 0 (fun _ => False)) (F0 m pc ls [.long x]) :=
  W.lret hx hb hr (fun t ht _ => ⟨vs, _, rfl, rfl, hΦ, ht⟩) (fun q hq => by cases hq) hd
end ZPS
/-- a year that can be divided so -/
def leapI (y : Int) : Prop := y % 4 = 0 ∧ (y % 100 ≠ 0 ∨ y % 400 = 0)
def bm (j : Nat) : Int := match j with
  | 0 => 0
  | 1 => 31
  | 2 => 59
  | 3 => 90
  | 4 => 120
  | 5 => 151
  | 6 => 181
  | 7 => 212
  | 8 => 243
  | 9 => 273
  | 10 => 304
  | 11 => 334
  | _ => 365
/-- Days.BEFORE_MONTH in the heap -/
def zBM (cA : Nat → ClassId) (U : State) : Prop := ∃ (a : Nat) (cell : Cell), va_Z "MomentTexts$Days" "BEFORE_MONTH" "[I" (.ref a) (fun _ => False) U U.heap ∧ U.heap[a]? = some cell ∧ (∀ j, j < 13 → ∃ y : Int32, cell.slots[j]? = some (.int y) ∧ y.toInt = bm j) ∧ U.isArrayOf cell .int ∧ cell.vm ≠ .unknown ∧ 13 ≤ cell.slots.size ∧ cA 0 = cA 0
theorem zBM_B {cA : Nat → ClassId} : zu_B (zBM cA) := by
  refine ⟨fun U V hv hh h => ?_, fun U V hW hh h => ?_⟩
  · obtain ⟨a, z, h1, h2, h3, h4⟩ := h
    have hA : U.vm.Alike V.vm := by rw [hv]; exact Vm.Alike.refl U.vm
    exact ⟨a, z, by rw [hh]; exact va_Z.moved hA h1, by rw [hh]; exact h2, h3, State.isArrayOf_alike hA h4.1, h4.2⟩
  · obtain ⟨a, z, h1, h2, h3, h4⟩ := h
    exact ⟨a, z, by rw [hh]; exact va_Z.moved hW.alike h1, by rw [hh]; exact h2, h3, State.isArrayOf_alike hW.alike h4.1, h4.2⟩
