/-! writeDuration -/
section FFR
variable {p : Program} {l : Launch} {e : Env} {R : Room} {s : State} {m : MethodId} {args : Array Value} {below : List Frame} {meth : Method} {c : Code} {H : Heap} {locs : List Loc} {cells slots : Nat} {Q : State → Prop} {cc : ByteArray} {pc : Nat} {ls : Array Slot} {rest : List Value}
theorem ff_lremP {x y : Int64} {n : Int} (hx : p.tables.exec = Jvm.exec) (hb : c.code = cc) (hd : decode cc pc = .ok (.lrem, 1)) (hp : 0 ≤ x.toInt) (hn : y.toInt = n) (h0 : 0 < n) (k : ∀ z : Int64, z.toInt = x.toInt % n → W p l e R s m args below meth c H locs cells slots Q (F0 m (pc + 1) ls (.long z :: rest))) : W p l e R s m args below meth c H locs cells slots Q (F0 m pc ls (.long y :: .long x :: rest)) := ff_lrem hx hb hd hn h0 (fun z e => k z (by rcases e with e | e; exact e.2; exact absurd hp (by omega)))
end FFR
def duN (mo da se na : Int) : Prop := mo = 0 ∧ da = 0 ∧ se = 0 ∧ na = 0
def duV (mo da se na : Int) : Prop := 0 ≤ mo ∧ mo ≤ 999999999 ∧ 0 ≤ da ∧ da ≤ 999999999 ∧ 0 ≤ se ∧ se ≤ 3599999999999 ∧ 0 ≤ na ∧ na ≤ 999999999
def duL (mo da se na : Int) : List Int := [80] ++ cnL (mo / 12) 89 ++ cnL (mo % 12) 77 ++ cnL da 68 ++ (if 0 < se ∨ 0 < na ∨ (mo = 0 ∧ da = 0 ∧ se = 0 ∧ na = 0) then [84] ++ cnL (se / 3600) 72 ++ cnL (se / 60 % 60) 77 ++ (if 0 < se % 60 ∨ 0 < na ∨ (mo = 0 ∧ da = 0 ∧ se = 0 ∧ na = 0) then scL (se % 60) na else []) else [])
theorem duL_ok (mo da se na : Int) : asc (duL mo da se na) ∧ (duL mo da se na).length ≤ 110 := by
  have l1 := (cnL_len (mo / 12) 89).1
  have l2 := (cnL_len (mo % 12) 77).1
  have l3 := (cnL_len da 68).1
  have l4 := (cnL_len (se / 3600) 72).1
  have l5 := (cnL_len (se / 60 % 60) 77).1
  have l6 := scL_len (se % 60) na
  have a0 : asc ([80] ++ cnL (mo / 12) 89 ++ cnL (mo % 12) 77 ++ cnL da 68) := asc_app (asc_app (asc_app (asc_one (by decide) (by decide)) (asc_cnL _ (by decide) (by decide))) (asc_cnL _ (by decide) (by decide))) (asc_cnL _ (by decide) (by decide))
  have a1 : asc ([84] ++ cnL (se / 3600) 72 ++ cnL (se / 60 % 60) 77) := asc_app (asc_app (asc_one (by decide) (by decide)) (asc_cnL _ (by decide) (by decide))) (asc_cnL _ (by decide) (by decide))
  unfold duL
  split
  · split
    · exact ⟨asc_app a0 (asc_app a1 (asc_scL _ _)), by simp only [List.length_append, List.length_cons, List.length_nil]; omega⟩
    · exact ⟨asc_app a0 (asc_app a1 asc_nil), by simp only [List.length_append, List.length_cons, List.length_nil]; omega⟩
  · exact ⟨asc_app a0 asc_nil, by simp only [List.length_append, List.length_cons, List.length_nil]; omega⟩
def spU (mo da se na : Int) (T O : List Int) (k r : Int) (T' O' : List Int) : Prop := T' = T ∧ ((k = 1 ∧ O' = O ∧ ¬ duV mo da se na) ∨ (k = 0 ∧ duV mo da se na ∧ O' = duL mo da se na ∧ r = (O'.length : Int)))
theorem spU_det (mo da se na : Int) (T O : List Int) : kpD (spU mo da se na T O) := by
  intro k r T1 O1 k' r' T2 O2 h h'
  obtain ⟨h1, h2⟩ := h
  obtain ⟨g1, g2⟩ := h'
  rcases h2 with ⟨a1, a2, a3⟩ | ⟨a1, a2, a3, a4⟩ <;> rcases g2 with ⟨b1, b2, b3⟩ | ⟨b1, b2, b3, b4⟩
  · exact ⟨by omega, by rw [h1, g1], by rw [a2, b2], by omega⟩
  · exact absurd b2 a3
  · exact absurd a2 b3
  · exact ⟨by omega, by rw [h1, g1], by rw [a3, b3], fun _ => by rw [a4, b4, a3, b3]⟩
theorem spU_no2 {mo da se na : Int} {T O : List Int} {r : Int} {T' O' : List Int} (h : spU mo da se na T O 2 r T' O') : False := by
  obtain ⟨-, ⟨h, -⟩ | ⟨h, -⟩⟩ := h <;> omega
