/-! bytes: rows, digits, the texts of class and reference -/
section TZB
variable {p : Program} {l : Launch} {e : Env} {R : Room} {s : State} {m : MethodId} {args : Array Value} {below : List Frame} {meth : Method} {c : Code} {H : Heap} {locs : List Loc} {cells slots : Nat} {Q : State → Prop} {cc : ByteArray} {pc : Nat} {ls : Array Slot} {st : List Value}
variable {D : va_G} {cA : Nat → ClassId} {ro : Nat → Option Nat} {sz : Nat} {H0 : Heap}
theorem tz_bast {a r ti N : Nat} {z : Nat → Value} {j x : Int32} (hx : p.tables.exec = Jvm.exec) (hb : c.code = cc) (hA : ArrOfT s (cA ti) .byte) (hh : zh_ok D cA RTg ro sz H0 H locs) (ha : ro a = some r) (hr : RTg[r]? = some (1, ti, N, [(0, (-128), 127)])) (c1 : H[a]? = some (arrV (cA ti) N z)) (hz : ∀ i, i < N → zt_ok ro (z i) (0, (-128), 127)) (h1 : 0 ≤ j.toInt) (h2 : j.toInt < N) (hv1 : -128 ≤ x.toInt) (hv2 : x.toInt ≤ 127) (hd : decode cc pc = .ok (.bastore, 1))
    (kk : ∀ (H' : Heap) (locs' : List Loc), zh_ok D cA RTg ro sz H0 H' locs' → H'[a]? = some (arrV (cA ti) N (updV z j.toNatClampNeg (.int x))) → zc_kept D RTg ro [(r, 0)] H H' → (∀ q : Nat, q ≠ a → H'[q]? = H[q]?) → H'.size = H.size → W p l e R s m args below meth c H' locs' cells slots Q (F0 m (pc + 1) ls st)) : W p l e R s m args below meth c H locs cells slots Q (F0 m pc ls (.int x :: .int j :: .ref a :: st)) := by
  have hsa := (zh_arr hh ha hr).1
  have hnar : narrow .byte (.int x) = .int x := by
    rw [narrow_byte]
    exact congrArg Value.int (Int32.toInt_inj.mp (zn_ibx (by omega) (by omega)))
  refine W.bast hx hb c1 (hA N z) (fun h => by cases h) (by rw [arrV_size]; exact tz_in h1 h2) rfl rfl hd (fun H' e1 e2 e3 => ?_)
  rw [hnar, arrV_store] at e1
  exact kk H' _ (zh_setA hh ha hr e2 e1 e3 (tz_upd hz ⟨x, rfl, hv1, hv2⟩) (fun q hq => by
    rcases List.mem_append.mp hq with g | g
    · exact hh.2.2.1 q g
    · rw [List.mem_singleton.mp g]; exact hsa)) e1 (zk_setA List.mem_cons_self ha hr e3) e3 e2
theorem ff_i2b {x : Int32} (hx : p.tables.exec = Jvm.exec) (hb : c.code = cc) (h1 : -128 ≤ x.toInt) (h2 : x.toInt ≤ 127) (hd : decode cc pc = .ok (.i2b, 1)) (k : ∀ z : Int32, z.toInt = x.toInt → W p l e R s m args below meth c H locs cells slots Q (F0 m (pc + 1) ls (.int z :: st))) : W p l e R s m args below meth c H locs cells slots Q (F0 m pc ls (.int x :: st)) :=
  lv_i2b hx hb hd rfl (k _ (zn_ibx h1 h2))
theorem tz_alen {a r ti N : Nat} {t : zt_T} {ty : FieldType} (hx : p.tables.exec = Jvm.exec) (hb : c.code = cc) (hA : ArrOfT s (cA ti) ty) (hh : zh_ok D cA RTg ro sz H0 H locs) (ha : ro a = some r) (hr : RTg[r]? = some (1, ti, N, [t])) (hN : N ≤ 4096) (hd : decode cc pc = .ok (.arraylength, 1)) (k : ∀ z : Int32, z.toInt = (N : Int) → W p l e R s m args below meth c H locs cells slots Q (F0 m (pc + 1) ls (.int z :: st))) : W p l e R s m args below meth c H locs cells slots Q (F0 m pc ls (.ref a :: st)) := by
  obtain ⟨-, z, cz, -⟩ := zh_arr hh ha hr
  exact W.alen (n := nI N) hx hb cz (hA N z) (by rw [arrV_size] <;> rfl) rfl rfl hd (k _ (nI_toInt (by omega)))
end TZB
def jY (T : List Int) (z : Nat → Value) : Prop := ∀ i : Nat, i < T.length → ∃ v : Int32, z i = .int v ∧ T[i]? = some v.toInt
theorem jY_app {T : List Int} {z : Nat → Value} {d : Int32} {c : Int} (h : jY T z) (hc : d.toInt = c) : jY (T ++ [c]) (updV z T.length (.int d)) := by
  intro i hi
  rw [List.length_append] at hi
  have hi : i < T.length + 1 := hi
  by_cases e : i = T.length
  · subst e
    exact ⟨d, by simp [updV], by simp [hc]⟩
  · obtain ⟨v, h1, h2⟩ := h i (by omega)
    exact ⟨v, by simp [updV, e, h1], by rw [List.getElem?_append_left (by omega)]; exact h2⟩
def dvN (n : Nat) (v : Int) : Int := v / 10 ^ n
theorem dvN_zero (v : Int) : dvN 0 v = v := by simp [dvN]
theorem dvN_succ (n : Nat) (v : Int) : dvN (n + 1) v = dvN n v / 10 := by
  unfold dvN
  rw [Int.pow_succ, Int.ediv_ediv_of_nonneg (Int.pow_nonneg (by decide))]
theorem dvN_in (n : Nat) (v : Int) : dvN n (v / 10) = dvN n v / 10 := by
  rw [← dvN_succ]
  unfold dvN
  rw [Int.pow_succ, Int.mul_comm, ← Int.ediv_ediv_of_nonneg (by decide)]
def dgL : Nat → Int → List Int
  | 0, _ => []
  | n + 1, v => dgL n (v / 10) ++ [48 + v % 10]
theorem dgL_len (n : Nat) (v : Int) : (dgL n v).length = n := by
  induction n generalizing v with
  | zero => rfl
  | succ n ih => simp [dgL, ih]
theorem dgL_cons (n : Nat) (v : Int) : dgL (n + 1) v = (48 + dvN n v % 10) :: dgL n v := by
  induction n generalizing v with
  | zero => simp [dgL, dvN_zero]
  | succ n ih =>
    have h := ih (v / 10)
    rw [show dgL (n + 1 + 1) v = dgL (n + 1) (v / 10) ++ [48 + v % 10] from rfl, h, dvN_in, ← dvN_succ]
    rfl
/-- how many digits a number has -/
def ndN : Nat → Int → Nat
  | 0, _ => 1
  | f + 1, v => if v < 10 then 1 else 1 + ndN f (v / 10)
/-- behind the last byte of O stand the digits -/
theorem jY_dig {O B : List Int} {z : Nat → Value} (h : jY O z) (hB : ∀ t : Nat, t < B.length → ∃ v : Int32, z (O.length + t) = .int v ∧ B[t]? = some v.toInt) : jY (O ++ B) z := by
  intro i hi
  rw [List.length_append] at hi
  by_cases e : i < O.length
  · obtain ⟨v, h1, h2⟩ := h i e
    exact ⟨v, h1, by rw [List.getElem?_append_left e]; exact h2⟩
  · obtain ⟨v, h1, h2⟩ := hB (i - O.length) (by omega)
    rw [show O.length + (i - O.length) = i by omega] at h1
    exact ⟨v, h1, by rw [List.getElem?_append_right (by omega)]; exact h2⟩
theorem jY_up {O : List Int} {z : Nat → Value} {i : Nat} {x : Value} (h : jY O z) (hi : O.length ≤ i) : jY O (updV z i x) := by
  intro j hj
  obtain ⟨v, h1, h2⟩ := h j hj
  exact ⟨v, by simp [updV, show j ≠ i by omega, h1], h2⟩
/-- one digit more, from the right -/
theorem dg_step {z : Nat → Value} {k m : Nat} {value : Int} {c : Int32} (h : ∀ t : Nat, t < m → ∃ v : Int32, z (k + 1 + t) = .int v ∧ (dgL m value)[t]? = some v.toInt) (hc : c.toInt = 48 + dvN m value % 10) : ∀ t : Nat, t < m + 1 → ∃ v : Int32, updV z k (.int c) (k + t) = .int v ∧ (dgL (m + 1) value)[t]? = some v.toInt := by
  intro t ht
  rw [dgL_cons]
  cases t with
  | zero => exact ⟨c, by simp [updV], by simp [hc]⟩
  | succ t =>
    obtain ⟨v, h1, h2⟩ := h t (by omega)
    refine ⟨v, ?_, by simpa using h2⟩
    rw [show k + (t + 1) = k + 1 + t by omega]
    simp [updV, show k + 1 + t ≠ k by omega, h1]
def jW (D : va_G) (cA : Nat → ClassId) (ro : Nat → Option Nat) (H : Heap) (wr : Nat) (O : List Int) : Prop := ∃ (wb : Nat) (n : Int32) (z : Nat → Value), zh_f D H wr 8 0 = .ref wb ∧ ro wb = some 16 ∧ zh_f D H wr 8 1 = .int n ∧ n.toInt = (O.length : Int) ∧ H[wb]? = some (arrV (cA 2) 120 z) ∧ jY O z
def jRO (D : va_G) (cA : Nat → ClassId) (ro : Nat → Option Nat) (H : Heap) (a : Nat) (O : List Int) : Prop := ∃ (wb : Nat) (n : Int32) (z : Nat → Value), zh_f D H a 11 14 = .ref wb ∧ ro wb = some 31 ∧ zh_f D H a 11 15 = .int n ∧ n.toInt = (O.length : Int) ∧ H[wb]? = some (arrV (cA 2) 160 z) ∧ jY O z
/-- what a method of a writer gives: B behind O -/
def zs_app (D : va_G) (cA : Nat → ClassId) (ro : Nat → Option Nat) (sz : Nat) (H0 : Heap) (wr : Nat) (OB : List Int) : Array Value → State → Outcome → State → Prop := fun _ st oc t => oc = .returned none ∧ zh_ok D cA RTg ro sz H0 t.heap [] ∧ zc_kept D RTg ro [(8, 1), (16, 0)] st.heap t.heap ∧ jW D cA ro t.heap wr OB
def zs_apR (D : va_G) (cA : Nat → ClassId) (ro : Nat → Option Nat) (sz : Nat) (H0 : Heap) (a : Nat) (OB : List Int) : Array Value → State → Outcome → State → Prop := fun _ st oc t => oc = .returned none ∧ zh_ok D cA RTg ro sz H0 t.heap [] ∧ zc_kept D RTg ro [(11, 15), (31, 0)] st.heap t.heap ∧ jRO D cA ro t.heap a OB
def dsL (b : Int) : List Int := if b = 0 then [] else [45]
def yrL (y : Int) : List Int := if 0 ≤ y ∧ y ≤ 9999 then dgL 4 y else [if y < 0 then 45 else 43] ++ dgL 6 (if y < 0 then -y else y)
def mdL (m d b : Int) : List Int := dsL b ++ dgL 2 m ++ dsL b ++ dgL 2 d
def orL (o b : Int) : List Int := dsL b ++ dgL 3 o
def wkL (w wd b : Int) : List Int := dsL b ++ [87] ++ dgL 2 w ++ dsL b ++ dgL 1 wd
theorem dsL_len (b : Int) : (dsL b).length ≤ 1 := by unfold dsL; split <;> decide
theorem yrL_len (y : Int) : (yrL y).length ≤ 7 := by
  unfold yrL
  split
  · rw [dgL_len]; decide
  · rw [List.length_append, dgL_len]; exact Nat.le_refl 7
