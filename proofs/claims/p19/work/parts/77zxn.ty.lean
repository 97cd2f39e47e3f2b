/-! p19: methods by their types alone, in walks -/
theorem mt_post {l : Launch} {y : MethodName} {ws : List Cond} {rm : Room} {P : Array Value → State → Prop} {Q Q' : Array Value → State → Outcome → State → Prop} {mc ms : Nat} {fr : Addr → Prop} (h : Met l y ws rm P Q mc ms fr) (hq : ∀ a st oc t, P a st → Q a st oc t → Q' a st oc t) : Met l y ws rm P Q' mc ms fr := fun p e ha hf hc s m args below h1 h2 h3 h4 => by
  obtain ⟨n, o, a1, a2, a3, a4, a5⟩ := h p e ha hf hc s m args below h1 h2 h3 h4
  exact ⟨n, o, a1, a2, a3, hq _ _ _ _ h3 a4, a5⟩
def ty_QV (D : va_G) (cA : Nat → ClassId) (ro : Nat → Option Nat) (sz : Nat) (H0 : Heap) (ms : List (Nat × Nat)) : Array Value → State → Outcome → State → Prop := fun _ st oc t => oc = .returned none ∧ zh_ok D cA RTg ro sz H0 t.heap [] ∧ zc_kept D RTg ro ms st.heap t.heap
def ty_QI (D : va_G) (cA : Nat → ClassId) (ro : Nat → Option Nat) (sz : Nat) (H0 : Heap) (ms : List (Nat × Nat)) : Array Value → State → Outcome → State → Prop := fun _ st oc t => ∃ r : Int32, oc = .returned (some (.int r)) ∧ zh_ok D cA RTg ro sz H0 t.heap [] ∧ zc_kept D RTg ro ms st.heap t.heap
def ty_QL (D : va_G) (cA : Nat → ClassId) (ro : Nat → Option Nat) (sz : Nat) (H0 : Heap) (ms : List (Nat × Nat)) : Array Value → State → Outcome → State → Prop := fun _ st oc t => ∃ r : Int64, oc = .returned (some (.long r)) ∧ zh_ok D cA RTg ro sz H0 t.heap [] ∧ zc_kept D RTg ro ms st.heap t.heap
section TYD
variable {l : Launch} {D : va_G} {cA : Nat → ClassId} {ro : Nat → Option Nat} {sz : Nat} {H0 : Heap} {y : MethodName} {ws : List Cond} {rm : Room} {k : zc_C} {vs : List Value} {J : Heap → Prop} {ms : List (Nat × Nat)}
theorem ty_pre (h1 : zt_all ro vs k.1) (h2 : k.2.1 = []) (h3 : k.2.2.1 = []) (H : Heap) : zc_pre D RTg ro k H vs := by
  refine ⟨h1, fun e he => ?_, fun f hf => ?_⟩
  · rw [h2] at he; cases he
  · rw [h3] at hf; cases hf
theorem ty_any (h : zy_M l D cA RTg ro sz H0 (zKn D cA ro sz H0) y ws rm k) (hp : ∀ H, zc_pre D RTg ro k H vs) : Met l y ws rm (zs_P D cA ro sz H0 J vs) (fun _ st oc t => ∃ x, oc = .returned x ∧ zh_ok D cA RTg ro sz H0 t.heap [] ∧ zc_kept D RTg ro k.2.2.2.1 st.heap t.heap ∧ ∃ al ∈ k.2.2.2.2.2, zc_res ro al.1 x) 0 0 (zy_fr sz) :=
  mt_post (met_weak h (fun a U hP => ⟨vs, hP.1, hP.2.1, hp _, hP.2.2.1⟩)) (fun a st oc t _ hq => by
    obtain ⟨vs', x, e1, e2, e3, e4, al, e5, e6⟩ := hq
    exact ⟨x, e2, e3, e4, al, e5, e6.1⟩)
theorem ty_V (h : zy_M l D cA RTg ro sz H0 (zKn D cA ro sz H0) y ws rm k) (hp : ∀ H, zc_pre D RTg ro k H vs) (hm : k.2.2.2.1 = ms) (ha : k.2.2.2.2.2 = [(none, [], [])]) : Met l y ws rm (zs_P D cA ro sz H0 J vs) (ty_QV D cA ro sz H0 ms) 0 0 (zy_fr sz) :=
  mt_post (ty_any h hp) (fun a st oc t _ hq => by
    obtain ⟨x, e1, e2, e3, al, e4, e5⟩ := hq
    rw [ha] at e4
    rw [hm] at e3
    cases List.mem_singleton.mp e4
    cases x with
    | none => exact ⟨e1, e2, e3⟩
    | some v => exact False.elim e5)
theorem ty_I {lo hi : Int} (h : zy_M l D cA RTg ro sz H0 (zKn D cA ro sz H0) y ws rm k) (hp : ∀ H, zc_pre D RTg ro k H vs) (hm : k.2.2.2.1 = ms) (ha : k.2.2.2.2.2 = [(some (0, lo, hi), [], [])]) : Met l y ws rm (zs_P D cA ro sz H0 J vs) (ty_QI D cA ro sz H0 ms) 0 0 (zy_fr sz) :=
  mt_post (ty_any h hp) (fun a st oc t _ hq => by
    obtain ⟨x, e1, e2, e3, al, e4, e5⟩ := hq
    rw [ha] at e4
    rw [hm] at e3
    cases List.mem_singleton.mp e4
    cases x with
    | none => exact False.elim e5
    | some v =>
      obtain ⟨r, q, -, -⟩ := e5
      rw [q] at e1
      exact ⟨r, e1, e2, e3⟩)
theorem ty_L {lo hi : Int} (h : zy_M l D cA RTg ro sz H0 (zKn D cA ro sz H0) y ws rm k) (hp : ∀ H, zc_pre D RTg ro k H vs) (hm : k.2.2.2.1 = ms) (ha : k.2.2.2.2.2 = [(some (1, lo, hi), [], [])]) : Met l y ws rm (zs_P D cA ro sz H0 J vs) (ty_QL D cA ro sz H0 ms) 0 0 (zy_fr sz) :=
  mt_post (ty_any h hp) (fun a st oc t _ hq => by
    obtain ⟨x, e1, e2, e3, al, e4, e5⟩ := hq
    rw [ha] at e4
    rw [hm] at e3
    cases List.mem_singleton.mp e4
    cases x with
    | none => exact False.elim e5
    | some v =>
      obtain ⟨r, q, -, -⟩ := e5
      rw [q] at e1
      exact ⟨r, e1, e2, e3⟩)
theorem ty_i (v : Int32) : zt_ok ro (.int v) (0, (-2147483648), 2147483647) := ⟨v, rfl, (zn_i32 v).1, (zn_i32 v).2⟩
theorem ty_l (v : Int64) : zt_ok ro (.long v) (1, (-9223372036854775808), 9223372036854775807) := ⟨v, rfl, (zn_i64 v).1, (zn_i64 v).2⟩
end TYD
