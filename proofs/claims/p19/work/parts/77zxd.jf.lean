/-! p19: a thing of the reader by its fields' numbers -/
def jF (D : va_G) (H : Heap) (a cl n : Nat) (f : fN) : Prop := ∀ k, k < n → ∃ v : Int32, zh_f D H a cl k = .int v ∧ v.toInt = f k
section JFS
variable {D : va_G} {ro : Nat → Option Nat} {H H' : Heap} {ms : List (Nat × Nat)} {a cl n : Nat} {f : fN} {fs : List zt_T}
theorem jF.kept (hr : ro a = some cl) (hR : RTg[cl]? = some (0, cl, 0, fs)) (hn : n ≤ fs.length) (h : zc_kept D RTg ro ms H H') (hm : ∀ k, k < n → (cl, k) ∉ ms) (j : jF D H a cl n f) : jF D H' a cl n f := fun k hk => by
  obtain ⟨v, h1, h2⟩ := j k hk
  exact ⟨v, (h.1 a cl k cl 0 fs hr hR (Nat.lt_of_lt_of_le hk hn) (hm k hk)).trans h1, h2⟩
theorem jF.put {k : Nat} {v : Int32} {x : Int} (hr : ro a = some cl) (hR : RTg[cl]? = some (0, cl, 0, fs)) (hn : n ≤ fs.length) (h : zc_kept D RTg ro [(cl, k)] H H') (hf : zh_f D H' a cl k = .int v) (hv : v.toInt = x) (j : jF D H a cl n f) : jF D H' a cl n (upF f k x) := fun i hi => by
  by_cases e : i = k
  · subst e
    exact ⟨v, hf, by rw [up_eq]; exact hv⟩
  · obtain ⟨w, h1, h2⟩ := j i hi
    refine ⟨w, (h.1 a cl i cl 0 fs hr hR (Nat.lt_of_lt_of_le hi hn) (fun q => e ?_)).trans h1, by rw [up_ne e]; exact h2⟩
    have q1 := List.mem_singleton.mp q
    exact congrArg Prod.snd q1
theorem jF.same (h : H'[a]? = H[a]?) (j : jF D H a cl n f) : jF D H' a cl n f := fun k hk => by
  obtain ⟨v, h1, h2⟩ := j k hk
  exact ⟨v, zh_fq h h1, h2⟩
theorem jF.eq {f' : fN} (h : ∀ k, k < n → f k = f' k) (j : jF D H a cl n f) : jF D H a cl n f' := fun k hk => by
  obtain ⟨v, h1, h2⟩ := j k hk
  exact ⟨v, h1, h2.trans (h k hk)⟩
end JFS
/-- what stays besides a date's, a time's fields and the cursor -/
def dtM : List (Nat × Nat) := [(0, 2), (0, 3), (0, 4), (1, 0), (1, 1), (1, 2), (1, 3), (1, 4), (1, 5), (1, 6), (1, 7), (1, 8), (1, 9)]
def tmM : List (Nat × Nat) := [(0, 2), (0, 3), (0, 4), (7, 0), (7, 1), (7, 2), (7, 3), (7, 4), (7, 5), (7, 6), (7, 7), (7, 8), (7, 9), (7, 10), (7, 11), (7, 12), (7, 13)]
def du_V (D : va_G) (cA : Nat → ClassId) (ro : Nat → Option Nat) (sz : Nat) (H0 : Heap) (ms : List (Nat × Nat)) (tx : Nat) (T : List Int) (dt cl n : Nat) (X : fS) : Array Value → State → Outcome → State → Prop := fun _ st oc t => oc = .returned none ∧ zh_ok D cA RTg ro sz H0 t.heap [] ∧ zc_kept D RTg ro ms st.heap t.heap ∧ jU D cA ro t.heap tx T X.2 ∧ jF D t.heap dt cl n X.1 ∧ ∀ p9 : Nat, p9 ∉ [tx, dt] → t.heap[p9]? = st.heap[p9]?
