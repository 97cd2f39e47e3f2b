/-! catching by a row of the table, past rows that don't take it (the library's own law of this is not among the modules of a round: so it is shown here out of the base laws) -/
section CT
variable {e : Env} {f : JFrame} {a : Addr}
/-- one row that covers: it is linked; then it takes the thing, or the search goes on -/
theorem ct_row {s : State} {x : ExceptionTableEntry} {t : List ExceptionTableEntry} {c : ClassId} {cell : Cell} (b : Bool) (hx : covers x f.pc = true) (h0 : x.catchType ≠ 0)
    (hl : s.vm.ClassLinks e.platform f.method.cls x.catchType c) (hcell : s.heap[a]? = some cell) (hobj : ∀ k, cell.vm ≠ .statics k) (hk : ∃ k, s.vm.classes[cell.cls]? = some k) (hb : s.vm.assignable cell.cls c = b)
    (Q : Handler → Pre) (E : CtlPost) (d : Bool) (acts : List Action) :
    wp (findHandler.go f a (x :: t)) Q E e d acts s ↔ (match b with
      | true => Q (.found x.handlerPc) d acts (s.setVm (s.vm.noted f.method.cls x.catchType (.cls c)))
      | false => wp (findHandler.go f a t) Q E e d acts (s.setVm (s.vm.noted f.method.cls x.catchType (.cls c)))) := by
  have hal : s.vm.Alike (s.vm.noted f.method.cls x.catchType (.cls c)) := (Vm.Alike.refl s.vm).noted _ _ _
  obtain ⟨u1, u2⟩ := (resolveClass_links e.toSetting hl).op (op := VmOp.resolveClass f.method.cls x.catchType) rfl
  obtain ⟨k1, hk⟩ := hk
  obtain ⟨-, -, -, k2, -, -, -, -, -, hk2, -, -⟩ := hl.here
  obtain ⟨k3, hk3, -⟩ := hal.2.2 _ _ hk
  obtain ⟨k4, hk4, -⟩ := hal.2.2 _ _ hk2
  have hb' : (s.vm.noted f.method.cls x.catchType (.cls c)).assignable cell.cls c = b := by rw [hal.assignable]; exact hb
  simp only [covers] at hx
  cases b <;> simp [findHandler.go, hx, h0, u1, u2, hcell, hobj, hk3, hk4, hb', VmOp.dirties, VmOp.acts]
/-- a row that is passed: it doesn't cover, or it names a class that the thing is none of -/
def ct_P (s : State) (f : JFrame) (pl : Platform) (k : ClassId) (y : ExceptionTableEntry) : Prop := covers y f.pc = false ∨ (y.catchType ≠ 0 ∧ ∃ c, s.vm.ClassLinks pl f.method.cls y.catchType c ∧ s.vm.assignable k c = false)
theorem ct_go {s : State} {cell : Cell} {x : ExceptionTableEntry} {c : ClassId} {rest : List ExceptionTableEntry} (hobj : ∀ k, cell.vm ≠ .statics k) (hk : ∃ k, s.vm.classes[cell.cls]? = some k) (hx : covers x f.pc = true) (h0 : x.catchType ≠ 0) (hl : s.vm.ClassLinks e.platform f.method.cls x.catchType c) (hfit : s.vm.assignable cell.cls c = true) :
    ∀ (pre : List ExceptionTableEntry) (S : State), s.WarmedH S.vm → S.heap[a]? = some cell → (∀ y ∈ pre, ct_P s f e.platform cell.cls y) → ∃ vm', s.WarmedH vm' ∧ ∀ (Q : Handler → Pre) (E : CtlPost) (d : Bool) (acts : List Action), wp (findHandler.go f a (pre ++ x :: rest)) Q E e d acts S ↔ Q (.found x.handlerPc) d acts (S.setVm vm')
  | [], S, hW, hcell, _ => by
    obtain ⟨k1, hk⟩ := hk
    obtain ⟨k2, hk2, -⟩ := hW.alike.2.2 _ _ hk
    obtain ⟨dk, -, -, -, hd, -, -, -, -, -, -, ho⟩ := hl.here
    exact ⟨_, hW.noted hd ho (State.rightAt_cls hl), fun Q E d acts => ct_row true hx h0 (hW.classLinks hl) hcell hobj ⟨k2, hk2⟩ (by rw [hW.alike.assignable]; exact hfit) Q E d acts⟩
  | y :: ys, S, hW, hcell, hp => by
    have hys : ∀ z ∈ ys, ct_P s f e.platform cell.cls z := fun z hz => hp z (List.mem_cons_of_mem _ hz)
    cases hcov : covers y f.pc with
    | false =>
      obtain ⟨vm', h1, h2⟩ := ct_go hobj hk hx h0 hl hfit ys S hW hcell hys
      exact ⟨vm', h1, fun Q E d acts => by rw [List.cons_append, W.findHandler_go_skip hcov]; exact h2 Q E d acts⟩
    | true =>
      rcases hp y List.mem_cons_self with g | ⟨g0, c', gl, gn⟩
      · rw [hcov] at g; cases g
      · obtain ⟨k1, hk1⟩ := id hk
        obtain ⟨k2, hk2, -⟩ := hW.alike.2.2 _ _ hk1
        obtain ⟨dk, -, -, -, hd, -, -, -, -, -, -, ho⟩ := gl.here
        obtain ⟨vm', h1, h2⟩ := ct_go hobj hk hx h0 hl hfit ys (S.setVm (S.vm.noted f.method.cls y.catchType (.cls c'))) (hW.noted hd ho (State.rightAt_cls gl)) hcell hys
        exact ⟨vm', h1, fun Q E d acts => by
          rw [List.cons_append]
          exact (ct_row false hcov g0 (hW.classLinks gl) hcell hobj ⟨k2, hk2⟩ (by rw [hW.alike.assignable]; exact gn) Q E d acts).trans (h2 Q E d acts)⟩
end CT
/-- the frame goes on at the handler -/
theorem ct_step {tb : Tables} {e : Env} {s target : State} {g : JFrame} {c : Code} {below : List Frame} {a : Addr} {pc : Nat} {vm' : Vm} (h : At s g.method c below)
    (hfind : ∀ (Q : Handler → Pre) (E : CtlPost) (d : Bool) (acts : List Action), wp (findHandler g a) Q E e d acts ((s.setTop g).pushFrame (.throwing a)) ↔ Q (.found pc) d acts (((s.setTop g).pushFrame (.throwing a)).setVm vm'))
    (hrest : Steps tb e below ((s.setVm vm').setTop { g with pc := pc, stack := [.ref a] }) target) : Steps tb e below ((s.setTop g).pushFrame (.throwing a)) target := by
  obtain ⟨hgo, hw⟩ := h.throwing a
  refine Steps.head hgo hw ?_
  have h1 : (stepThrowing e ((s.setTop g).pushFrame (.throwing a)) a (.java g :: s.frames.tail)).Is ((((s.setTop g).pushFrame (.throwing a)).setVm vm').setFrames (.java { g with pc := pc, stack := [.ref a] } :: s.frames.tail)) [] := by
    simp only [stepThrowing, searchFrame, vmDo]
    generalize hr : Sem.go _ e false [] ((s.setTop g).pushFrame (.throwing a)) = res
    obtain ⟨as, rfl, ha⟩ := Sem.eq_ok_of hr (a := Handler.found pc) (s' := ((s.setTop g).pushFrame (.throwing a)).setVm vm') (acts' := []) (by simp [hfind _ _ _ _])
    exact ⟨rfl, ha⟩
  rw [stepThread_throwing (frames_entered h.top _), h1.1]
  obtain ⟨g0, hg0⟩ := Option.isSome_iff_exists.mp h.top
  obtain ⟨r, hr⟩ := State.topJava?_eq_some.mp hg0
  have hr' : (s.setVm vm').frames = .java g0 :: r := hr
  rw [State.setTop_of_frames _ hr'] at hrest
  have hsv : ∀ (u : State) (F G : List Frame), ((u.setFrames F).setVm vm').setFrames G = (u.setVm vm').setFrames G := fun u F G => by
    show ((u.setVm vm').setFrames F).setFrames G = _
    rw [State.setFrames_setFrames]
  rw [hr, List.tail_cons, State.pushFrame, hsv, State.setTop_of_frames _ hr, hsv]
  exact hrest
