/-! heap lemmas for hand-made rows; System.arraycopy -/
theorem arrV_ext {cI : ClassId} {n : Nat} {f g : Nat → Value} (h : ∀ j, j < n → f j = g j) : arrV cI n f = arrV cI n g := by
  unfold arrV
  congr 1
  exact congrArg Array.ofFn (funext (fun j => h j.val j.isLt))
section ZHS
variable {D : va_G} {cA : Nat → ClassId} {ro : Nat → Option Nat} {sz : Nat} {H0 H H1 : Heap} {locs : List Loc}
/-- an array of a role gets other contents of its type -/
theorem zh_setA {a r ti n : Nat} {t : zt_T} {z : Nat → Value} (hh : zh_ok D cA RTg ro sz H0 H locs) (ha : ro a = some r) (hr : RTg[r]? = some (1, ti, n, [t])) (hz : H1.size = H.size) (h1 : H1[a]? = some (arrV (cA ti) n z)) (hq : ∀ q : Nat, q ≠ a → H1[q]? = H[q]?) (ht : ∀ j, j < n → zt_ok ro (z j) t) {locs1 : List Loc} (hl : ∀ q ∈ locs1, sz ≤ q.base) : zh_ok D cA RTg ro sz H0 H1 locs1 := by
  have hsa : sz ≤ a := (zh_arr hh ha hr).1
  refine ⟨by rw [hz]; exact hh.1, fun q hq' => by rw [hq q (by omega)]; exact hh.2.1 q hq', hl, fun b r' hb => ?_⟩
  by_cases hab : b = a
  · subst hab
    cases ha.symm.trans hb
    refine ⟨_, hr, Or.inr hsa, z, h1, fun t' ht' => ?_⟩
    cases ht'
    exact ht
  · obtain ⟨e, h2, h3, h4⟩ := hh.2.2.2 b r' hb
    refine ⟨e, h2, h3, ?_⟩
    unfold zh_cell at h4 ⊢
    rw [hq b hab]
    exact h4
/-- fields are as they were, where an array was written -/
theorem zk_setA {a r ti n : Nat} {t : zt_T} {ms : List (Nat × Nat)} (hm : (r, 0) ∈ ms) (ha : ro a = some r) (hr : RTg[r]? = some (1, ti, n, [t])) (hq : ∀ q : Nat, q ≠ a → H1[q]? = H[q]?) : zc_kept D RTg ro ms H H1 := by
  refine ⟨?_, fun b r' kd ti' n' fs hb hr' h3 => hq b (fun g => by
    subst g
    cases ha.symm.trans hb
    exact h3 hm)⟩
  intro b r' k ci n' fs hb hr' _ _
  unfold zh_f
  by_cases hab : b = a
  · subst hab
    cases ha.symm.trans hb
    cases hr.symm.trans hr'
  · rw [hq b hab]
end ZHS
theorem zc_kept.refl {D : va_G} {RT : List zr_R} {ro : Nat → Option Nat} {ms : List (Nat × Nat)} {H : Heap} : zc_kept D RT ro ms H H := ⟨fun _ _ _ _ _ _ _ _ _ _ => rfl, fun _ _ _ _ _ _ _ _ _ => rfl⟩
theorem zc_kept.trans {D : va_G} {RT : List zr_R} {ro : Nat → Option Nat} {ms : List (Nat × Nat)} {H H1 H2 : Heap} (h1 : zc_kept D RT ro ms H H1) (h2 : zc_kept D RT ro ms H1 H2) : zc_kept D RT ro ms H H2 := ⟨fun a r k ci n fs ha hr hk hm => (h2.1 a r k ci n fs ha hr hk hm).trans (h1.1 a r k ci n fs ha hr hk hm), fun a r kd ti n fs ha hr hm => (h2.2 a r kd ti n fs ha hr hm).trans (h1.2 a r kd ti n fs ha hr hm)⟩
theorem zc_kept.mono {D : va_G} {RT : List zr_R} {ro : Nat → Option Nat} {ms ms' : List (Nat × Nat)} {H H1 : Heap} (h : zc_kept D RT ro ms H H1) (hs : ∀ x ∈ ms, x ∈ ms') : zc_kept D RT ro ms' H H1 := ⟨fun a r k ci n fs ha hr hk hm => h.1 a r k ci n fs ha hr hk (fun g => hm (hs _ g)), fun a r kd ti n fs ha hr hm => h.2 a r kd ti n fs ha hr (fun g => hm (hs _ g))⟩
def kCopy : zc_C := ([(38, 0, 0), (0, 0, 0), (40, 0, 0), (0, 0, 0), (0, 39, 39)], [], [], [(18, 0)], [], [(none, [], [])])
theorem zcopy_row {p : Program} {l : Launch} {e : Env} {R : Room} {s : State} {m : MethodId} {args : Array Value} {below : List Frame} {meth : Method} {c : Code} {cells slots : Nat} {Q : State → Prop} {cc : ByteArray} {D : va_G} {cA : Nat → ClassId} {ro : Nat → Option Nat} {sz : Nat} {H0 : Heap} {nL idx key : Nat} {own : String} {x0 : Cond}
    (hx : p.tables.exec = Jvm.exec) (hb : c.code = cc) (hml : c.maxLocals = nL) (hown : s.vm.findClass own = some m.cls) (hts : ∀ w ∈ x0 :: gT, w.before args s = true) (hKn : zKn D cA ro sz H0 s) (hR : 1 ≤ R.frames ∧ 8 + (nativeFrameWords "java/lang/System" "arraycopy" 5 + 11) ≤ R.locals)
    (hl : Cond.methodLink own idx arraycopyName ∈ gT) (hn : Cond.native arraycopyName ∈ gT) (hst : Cond.static arraycopyName ∈ gT) (hi : Cond.initialized "java/lang/System" ∈ gT) (hk : key = 4 * idx) :
    ∀ (pc j : Nat) (i : Instr), (i = .invokestatic j ∧ key = 4 * j) ∨ (i = .invokevirtual j ∧ key = 4 * j + 1) ∨ (i = .invokespecial j ∧ key = 4 * j + 2) → decode cc pc = .ok (i, 3) → zc_row D cA RTg ro sz H0 nL (fun pc H locs ls st => W p l e R s m args below meth c H locs cells slots Q (F0 m pc ls st)) pc (pc + 3) kCopy := by
  intro pc j i hij hdec
  have h2 : ∀ w ∈ gT, w.before args s = true := fun w hw => hts w (List.mem_cons_of_mem _ hw)
  rcases hij with ⟨rfl, h⟩ | ⟨rfl, h⟩ | ⟨rfl, h⟩
  · have : j = idx := by omega
    subst this
    intro H locs ls st vs hz hwt hh hp kk
    obtain ⟨v0, w1, rfl, t0, q1⟩ := zt_cons hp.1
    obtain ⟨v1, w2, rfl, ⟨i1, rfl, i1a, i1b⟩, q2⟩ := zt_cons q1
    obtain ⟨v2, w3, rfl, t2, q3⟩ := zt_cons q2
    obtain ⟨v3, w4, rfl, ⟨i3, rfl, i3a, i3b⟩, q4⟩ := zt_cons q3
    obtain ⟨v4, w5, rfl, ⟨i4, rfl, i4a, i4b⟩, q5⟩ := zt_cons q4
    cases zt_nil q5
    rcases t0 with ⟨g, -⟩ | ⟨a0, rfl, r0⟩
    · exact absurd g (by decide)
    rcases t2 with ⟨g, -⟩ | ⟨a1, rfl, r1⟩
    · exact absurd g (by decide)
    dsimp only at i1a i1b i3a i3b i4a i4b
    obtain ⟨-, z0, c0, y0⟩ := zh_arr hh r0 (show RTg[17]? = some (1, 1, 39, [(1, (-9223372036854775808), 9223372036854775807)]) from rfl)
    obtain ⟨s1, z1, c1, y1⟩ := zh_arr hh r1 (show RTg[18]? = some (1, 1, 39, [(1, (-9223372036854775808), 9223372036854775807)]) from rfl)
    have lg : ∀ z : Nat → Value, (∀ j, j < 39 → zt_ok ro (z j) (1, (-9223372036854775808), 9223372036854775807)) → ∃ f : Nat → Int64, arrV (cA 1) 39 z = arrV (cA 1) 39 (fun j => .long (f j)) := fun z hz => by
      refine ⟨fun j => match z j with
        | .long y => y
        | _ => 0, arrV_ext (fun j hj => ?_)⟩
      obtain ⟨y, e1, -, -⟩ := hz j hj
      simp only [e1]
    obtain ⟨f, ef⟩ := lg z0 y0
    obtain ⟨g, eg⟩ := lg z1 y1
    rw [ef] at c0
    rw [eg] at c1
    have p0 : (0 : Int32).toInt = 0 := by decide
    have e1 : i1 = 0 := Int32.toInt_inj.mp (by omega)
    have e3 : i3 = 0 := Int32.toInt_inj.mp (by omega)
    have e4 : i4 = 39 := Int32.toInt_inj.mp (by rw [show (39 : Int32).toInt = 39 by decide]; omega)
    subst e1 e3 e4
    intro T hT X
    have hK1 : ArrOfT s (cA 1) .long := (hKn.1.2 1 _ rfl).1
    obtain ⟨-, k0, hk0, cm0, hkk0⟩ := hK1 39 (fun j => .long (f j))
    obtain ⟨-, k1, hk1, cm1, hkk1⟩ := hK1 39 (fun j => .long (g j))
    obtain ⟨vm', X', step⟩ := X.arraycopy hx hown (h2 _ hl) (h2 _ hn) (h2 _ hst) (h2 _ hi) (src := a0) (dst := a1) (cs := arrV (cA 1) 39 (fun j => .long (f j))) (cd := arrV (cA 1) 39 (fun j => .long (g j))) (srcPos := 0) (destPos := 0) (n := 39) (by rw [hT]; exact c0) (by rw [hT]; exact c1)
      (fun _ h => by cases h) (fun _ h => by cases h) (fun h => by cases h) (fun h => by cases h) hk0 hk1 hkk0 hkk1 (by decide) (by decide) (by decide) (by decide)
      (by rw [arrV_size]; decide) (by rw [arrV_size]; decide)
      (fun vm₁ _ i hi => by
        have hi' : i < 39 := hi
        have e : (arrV (cA 1) 39 (fun j => .long (f j))).slots.getD ((0 : Int32).toNatClampNeg + i) .null = .long (f i) := by
          rw [show (0 : Int32).toNatClampNeg + i = i by show 0 + i = i; omega, Array.getD_eq_getD_getElem?, arrV_read _ _ hi']
          rfl
        rw [e]
        exact ⟨rfl, trivial⟩)
      (g := F0 m pc ls (Value.int 39 :: .int 0 :: .ref a1 :: .int 0 :: .ref a0 :: st)) rfl (by show ls.size = _; rw [hz, hml]) (rest := st) rfl (by rw [hb]; exact hdec) hR.1 (by show 2 * 0 + _ + _ ≤ _; omega)
    have e9 : copied (arrV (cA 1) 39 (fun j => .long (f j))) (arrV (cA 1) 39 (fun j => .long (g j))) 0 0 39 = arrV (cA 1) 39 (fun j => .long (va_cpy f g 0 0 39 j)) := va_copied (fun z => .long z) (cA 1) (cA 1) f g (Nat.le_refl _)
    rw [e9] at X' step
    have hl1 : a1 < H.size := (Array.getElem?_eq_some_iff.mp c1).1
    have hheap : ((T.setVm vm').setCell a1 (arrV (cA 1) 39 (fun j => .long (va_cpy f g 0 0 39 j)))).heap = H.setIfInBounds a1 (arrV (cA 1) 39 (fun j => .long (va_cpy f g 0 0 39 j))) := by rw [← hT]; rfl
    have oq : ∀ q : Nat, q ≠ a1 → (H.setIfInBounds a1 (arrV (cA 1) 39 (fun j => .long (va_cpy f g 0 0 39 j))))[q]? = H[q]? := fun q hq => by simp [Array.getElem?_setIfInBounds, Ne.symm hq]
    have hh1 := zh_setA (z := fun j => .long (va_cpy f g 0 0 39 j)) (H1 := H.setIfInBounds a1 (arrV (cA 1) 39 (fun j => .long (va_cpy f g 0 0 39 j)))) hh r1 rfl (by simp) (by simp [Array.getElem?_setIfInBounds, hl1]) oq (fun j _ => ⟨_, rfl, (zn_i64 _).1, (zn_i64 _).2⟩) (locs1 := locs ++ ((arrV (cA 1) 39 (fun j => Value.long (f j))).stretch (0 : Int32).toNatClampNeg (39 : Int32).toNatClampNeg).zipIdx.map fun q => ⟨a1, (0 : Int32).toNatClampNeg + q.2⟩) (fun q hq => by
      rcases List.mem_append.mp hq with h | h
      · exact hh.2.2.1 q h
      · obtain ⟨z, -, hz⟩ := List.mem_map.mp h
        rw [← hz]
        exact s1)
    obtain ⟨t, b1, b2⟩ := kk _ _ none hh1 (zk_setA List.mem_cons_self r1 rfl oq) ⟨_, List.mem_cons_self, trivial, trivial, fun f hf => by cases hf⟩ _ hheap X'
    exact ⟨t, step t b1, b2⟩
  · omega
  · omega
