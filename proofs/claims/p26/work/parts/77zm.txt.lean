/-! texts in: bytes of a number, rows -/
theorem bt_bv (x : BitVec 64) (n : Nat) (h : n ≤ 56) : ((x >>> n).signExtend 32).signExtend 8 = ((x.sshiftRight n).signExtend 32).signExtend 8 := by
  ext j hj
  rw [BitVec.getElem_signExtend, BitVec.getElem_signExtend]
  simp only [show j < 32 by omega, dif_pos]
  rw [BitVec.getElem_signExtend, BitVec.getElem_signExtend]
  simp only [show j < 64 by omega, dif_pos]
  rw [BitVec.getElem_ushiftRight, BitVec.getElem_sshiftRight]
  simp only [show n + j < 64 by omega, dif_pos]
  rw [BitVec.getLsbD_eq_getElem (by omega)]
theorem bt_u (x : Int64) (k : Int32) (i : Nat) (hi : i ≤ 7) (hk : k.toInt = 8 * (i : Int)) : ((x.toUInt64 >>> (k.toInt64.toUInt64 &&& Int64.toUInt64 63)).toInt64).toInt32.toInt8 = (x >>> (k.toInt64 &&& 63)).toInt32.toInt8 := by
  have e0 : ∀ j : Fin 8, (Int32.ofInt (8 * (j.val : Int))).toInt = 8 * (j.val : Int) := by decide
  have hk' : k = Int32.ofInt (8 * (i : Int)) := Int32.toInt_inj.mp (by rw [hk]; exact (e0 ⟨i, by omega⟩).symm)
  have e : ∀ j : Fin 8, (((Int32.ofInt (8 * (j.val : Int))).toInt64.toUInt64 &&& Int64.toUInt64 63).toBitVec % 64).toNat = 8 * j.val ∧ (((Int32.ofInt (8 * (j.val : Int))).toInt64 &&& 63).toBitVec.smod 64).toNat = 8 * j.val := by decide
  obtain ⟨e1, e2⟩ := e ⟨i, by omega⟩
  dsimp only at e1 e2
  rw [hk']
  apply Int8.toBitVec_inj.mp
  have h := bt_bv x.toBitVec (8 * i) (by omega)
  have s1 : (x.toUInt64 >>> ((Int32.ofInt (8 * (i : Int))).toInt64.toUInt64 &&& Int64.toUInt64 63)).toBitVec = x.toBitVec >>> (8 * i) := by
    rw [UInt64.toBitVec_shiftRight, BitVec.ushiftRight_eq', e1]
    rfl
  have s2 : (x >>> ((Int32.ofInt (8 * (i : Int))).toInt64 &&& 63)).toBitVec = x.toBitVec.sshiftRight (8 * i) := by
    rw [Int64.toBitVec_shiftRight, BitVec.sshiftRight_eq', e2]
  show (((x.toUInt64 >>> ((Int32.ofInt (8 * (i : Int))).toInt64.toUInt64 &&& Int64.toUInt64 63)).toBitVec.signExtend 32).signExtend 8) = (((x >>> ((Int32.ofInt (8 * (i : Int))).toInt64 &&& 63)).toBitVec.signExtend 32).signExtend 8)
  rw [s1, s2, h]
def btI (x : Int64) (i : Nat) : Int := ((x >>> ((Int32.ofInt (8 * (i : Int))).toInt64 &&& 63)).toInt32.toInt8.toInt32).toInt
def btL (x : Int64) : Nat → List Int
  | 0 => []
  | n + 1 => btL x n ++ [btI x n]
theorem btL_len (x : Int64) (n : Nat) : (btL x n).length = n := by
  induction n with
  | zero => rfl
  | succ n ih => simp [btL, ih]
theorem bt_k {k : Int32} {i : Nat} (hi : i ≤ 7) (hk : k.toInt = 8 * (i : Int)) : k = Int32.ofInt (8 * (i : Int)) := by
  have e0 : ∀ j : Fin 8, (Int32.ofInt (8 * (j.val : Int))).toInt = 8 * (j.val : Int) := by decide
  exact Int32.toInt_inj.mp (by rw [hk]; exact (e0 ⟨i, by omega⟩).symm)
theorem bt_c {x : Int64} {k : Int32} {i : Nat} (hi : i ≤ 7) (hk : k.toInt = 8 * (i : Int)) : (((x.toUInt64 >>> (k.toInt64.toUInt64 &&& Int64.toUInt64 63)).toInt64).toInt32.toInt8.toInt32).toInt = btI x i := by
  rw [bt_u x k i hi hk]
  unfold btI
  rw [bt_k hi hk]
theorem bt_r {x : Int64} {k : Int32} {i : Nat} (hi : i ≤ 7) (hk : k.toInt = 8 * (i : Int)) : ((x >>> (k.toInt64 &&& 63)).toInt32.toInt8.toInt32).toInt = btI x i := by
  unfold btI
  rw [bt_k hi hk]
theorem bt_bd (x : Int64) (i : Nat) : -128 ≤ btI x i ∧ btI x i ≤ 127 := by
  unfold btI
  rw [Int8.toInt_toInt32]
  exact ⟨Int8.le_toInt _, Int8.toInt_le _⟩
section TZY
variable {p : Program} {l : Launch} {e : Env} {R : Room} {s : State} {m : MethodId} {args : Array Value} {below : List Frame} {meth : Method} {c : Code} {H : Heap} {locs : List Loc} {cells slots : Nat} {Q : State → Prop} {cc : ByteArray} {pc : Nat} {ls : Array Slot} {st : List Value} {cA : Nat → ClassId}
theorem tz_byC {x : Int64} {k : Int32} {i : Nat} (hx : p.tables.exec = Jvm.exec) (hb : c.code = cc) (hi : i ≤ 7) (hk : k.toInt = 8 * (i : Int)) (d0 : decode cc pc = .ok (.lushr, 1)) (d1 : decode cc (pc + 1) = .ok (.l2i, 1)) (d2 : decode cc (pc + 2) = .ok (.i2b, 1)) (kk : ∀ z : Int32, z.toInt = btI x i ∧ -128 ≤ z.toInt ∧ z.toInt ≤ 127 → W p l e R s m args below meth c H locs cells slots Q (F0 m (pc + 3) ls (.int z :: st))) : W p l e R s m args below meth c H locs cells slots Q (F0 m pc ls (.int k :: .long x :: st)) := by
  refine lv_lushr hx hb d0 rfl ?_
  refine lv_l2i hx hb d1 rfl ?_
  refine lv_i2b hx hb d2 rfl ?_
  have h := bt_c (x := x) hi hk
  have b := bt_bd x i
  exact kk _ ⟨h, by rw [h]; exact b.1, by rw [h]; exact b.2⟩
theorem tz_byR {x : Int64} {k : Int32} {i : Nat} (hx : p.tables.exec = Jvm.exec) (hb : c.code = cc) (hi : i ≤ 7) (hk : k.toInt = 8 * (i : Int)) (d0 : decode cc pc = .ok (.lshr, 1)) (d1 : decode cc (pc + 1) = .ok (.l2i, 1)) (d2 : decode cc (pc + 2) = .ok (.i2b, 1)) (kk : ∀ z : Int32, z.toInt = btI x i ∧ -128 ≤ z.toInt ∧ z.toInt ≤ 127 → W p l e R s m args below meth c H locs cells slots Q (F0 m (pc + 3) ls (.int z :: st))) : W p l e R s m args below meth c H locs cells slots Q (F0 m pc ls (.int k :: .long x :: st)) := by
  refine lv_lshr hx hb d0 rfl ?_
  refine lv_l2i hx hb d1 rfl ?_
  refine lv_i2b hx hb d2 rfl ?_
  have h := bt_r (x := x) hi hk
  have b := bt_bd x i
  exact kk _ ⟨h, by rw [h]; exact b.1, by rw [h]; exact b.2⟩
theorem tz_bald {a ti N : Nat} {z : Nat → Value} {j : Int32} (hx : p.tables.exec = Jvm.exec) (hb : c.code = cc) (hA : ArrOfT s (cA ti) .byte) (c1 : H[a]? = some (arrV (cA ti) N z)) (h1 : 0 ≤ j.toInt) (h2 : j.toInt < N) (hd : decode cc pc = .ok (.baload, 1))
    (kk : W p l e R s m args below meth c H locs cells slots Q (F0 m (pc + 1) ls (z j.toNatClampNeg :: st))) : W p l e R s m args below meth c H locs cells slots Q (F0 m pc ls (.int j :: .ref a :: st)) :=
  W.bald hx hb c1 (hA N z) (fun h => by cases h) (by rw [arrV_size]; exact tz_in h1 h2) (arrV_read _ _ (Nat.not_le.mp fun q => tz_in h1 h2 (Or.inr q))) rfl rfl hd kk
theorem an_255 {x y : Int32} (h0 : 0 ≤ x.toInt) (h1 : x.toInt ≤ 127) (hy : y.toInt = 255) : (x &&& y).toInt = x.toInt := by
  have e : ∀ n : Fin 128, (Int32.ofInt (n.val : Int)).toInt = (n.val : Int) ∧ (Int32.ofInt (n.val : Int) &&& 255).toInt = (n.val : Int) := by decide
  have hy' : y = 255 := Int32.toInt_inj.mp (by rw [hy]; decide)
  obtain ⟨e1, e2⟩ := e ⟨x.toInt.toNat, by omega⟩
  dsimp only at e1 e2
  have hx' : x = Int32.ofInt ((x.toInt.toNat : Nat) : Int) := Int32.toInt_inj.mp (by rw [e1]; omega)
  rw [hy', hx', e2, ← hx']
  omega
end TZY
def spT (x : Int64) (n : Int) (T O : List Int) (k r : Int) (T' O' : List Int) : Prop := O' = O ∧ ((k = 1 ∧ T' = T ∧ (n < 0 ∨ 8 < n)) ∨ (k = 2 ∧ T' = T ∧ 0 ≤ n ∧ n ≤ 8 ∧ 120 < (T.length : Int) + n) ∨ (k = 0 ∧ 0 ≤ n ∧ n ≤ 8 ∧ (T.length : Int) + n ≤ 120 ∧ T' = T ++ btL x n.toNat ∧ r = (T.length : Int) + n))
theorem spT_det (x : Int64) (n : Int) (T O : List Int) : kpD (spT x n T O) := by
  intro k r T1 O1 k' r' T2 O2 h h'
  obtain ⟨h1, h2⟩ := h
  obtain ⟨g1, g2⟩ := h'
  rcases h2 with ⟨a1, a2, a3⟩ | ⟨a1, a2, a3⟩ | ⟨a1, a3, a4, a5, a2, a6⟩ <;> rcases g2 with ⟨b1, b2, b3⟩ | ⟨b1, b2, b3⟩ | ⟨b1, b3, b4, b5, b2, b6⟩ <;> first | (exfalso; omega) | (exact ⟨by omega, by rw [a2, b2], by rw [h1, g1], by omega⟩)
def spP (T O : List Int) (k r : Int) (T' O' : List Int) : Prop := k = 0 ∧ T' = O ∧ O' = O ∧ r = (O.length : Int)
theorem spP_det (T O : List Int) : kpD (spP T O) := by
  intro k r T1 O1 k' r' T2 O2 h h'
  exact ⟨by rw [h.1, h'.1], by rw [h.2.1, h'.2.1], by rw [h.2.2.1, h'.2.2.1], fun _ => by rw [h.2.2.2, h'.2.2.2]⟩
def spC (T O : List Int) (k r : Int) (T' O' : List Int) : Prop := k = 0 ∧ T' = [] ∧ O' = O ∧ r = (T.length : Int)
theorem spC_det (T O : List Int) : kpD (spC T O) := by
  intro k r T1 O1 k' r' T2 O2 h h'
  exact ⟨by rw [h.1, h'.1], by rw [h.2.1, h'.2.1], by rw [h.2.2.1, h'.2.2.1], fun _ => by rw [h.2.2.2, h'.2.2.2]⟩
def spO (i : Int) (T O : List Int) (k r : Int) (T' O' : List Int) : Prop := T' = T ∧ O' = O ∧ ((k = 1 ∧ (i < 0 ∨ (O.length : Int) ≤ i)) ∨ (k = 0 ∧ 0 ≤ i ∧ i < (O.length : Int) ∧ O[i.toNat]? = some r))
theorem spO_det (i : Int) (T O : List Int) : kpD (spO i T O) := by
  intro k r T1 O1 k' r' T2 O2 h h'
  obtain ⟨h1, h2, h3⟩ := h
  obtain ⟨g1, g2, g3⟩ := h'
  rcases h3 with ⟨a1, a2⟩ | ⟨a1, a2, a3, a4⟩ <;> rcases g3 with ⟨b1, b2⟩ | ⟨b1, b2, b3, b4⟩
  · exact ⟨by omega, by rw [h1, g1], by rw [h2, g2], by omega⟩
  · exfalso; omega
  · exfalso; omega
  · exact ⟨by omega, by rw [h1, g1], by rw [h2, g2], fun _ => Option.some.inj (a4.symm.trans b4)⟩
def zs_apT (D : va_G) (cA : Nat → ClassId) (ro : Nat → Option Nat) (sz : Nat) (H0 : Heap) (tx : Nat) (T' : List Int) : Array Value → State → Outcome → State → Prop := fun _ st oc t => oc = .returned none ∧ zh_ok D cA RTg ro sz H0 t.heap [] ∧ zc_kept D RTg ro [(0, 1), (12, 0)] st.heap t.heap ∧ jTx D cA ro t.heap tx T'
