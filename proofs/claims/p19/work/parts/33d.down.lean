/-! down, by hand: for every divisor above 0 -/
theorem zt_cons {ro : Nat → Option Nat} {vs : List Value} {t : zt_T} {ts : List zt_T} (h : zt_all ro vs (t :: ts)) : ∃ (x : Value) (xs : List Value), vs = x :: xs ∧ zt_ok ro x t ∧ zt_all ro xs ts := by
  match vs, h with
  | x :: xs, h => exact ⟨x, xs, rfl, h.1, h.2⟩
theorem zt_nil {ro : Nat → Option Nat} {vs : List Value} (h : zt_all ro vs []) : vs = [] := by
  match vs, h with
  | [], _ => rfl
def kdn (b : Int) : zc_C := ([(1, (-9223372036854775808), 9223372036854775807), (1, b, b)], [], [], [], [], [(some (1, (-9223372036854775808), 9223372036854775807), [], [([(2, b), (0, (-1))], 0), ([(0, 1), (2, (-b))], (-(b - 1)))])])
def tX12_down : List (Nat × Instr × Nat) := [(0, .lload_n 0, 1), (1, .lload_n 2, 1), (2, .ldiv, 1), (3, .lstore 4, 2), (5, .lload_n 0, 1), (6, .lload_n 2, 1), (7, .lrem, 1), (8, .lconst 0, 1), (9, .lcmp, 1), (10, .ifCond .ge 10, 3), (13, .lload 4, 2), (15, .lconst 1, 1), (16, .lsub, 1), (17, .goto 5, 3), (20, .lload 4, 2), (22, .lreturn, 1)]
theorem eX12_down : ∀ x ∈ tX12_down, decode cX12_down x.1 = .ok x.2 := by decide +kernel
def K0 (n : Nat) : zk_K := (n, RTg, [], [], [], [], [], [], [])
theorem dn_a {b x q r : Int} (h : 0 < b) (hq : q = x.tdiv b) (hr : r = x - x.tdiv b * b) : (r < 0 → b * (q - 1) + ((-1) * x + 0) + 0 ≤ 0 ∧ 1 * x + ((-b) * (q - 1) + 0) + -(b - 1) ≤ 0) ∧ (0 ≤ r → b * q + ((-1) * x + 0) + 0 ≤ 0 ∧ 1 * x + ((-b) * q + 0) + -(b - 1) ≤ 0) := by
  have h1 := zn_tm (x := x) h
  rw [← hq] at h1 hr
  rw [Int.mul_comm q b] at h1 hr
  rw [Int.mul_sub, Int.neg_mul, Int.mul_sub, Int.neg_mul]
  refine ⟨fun g => ⟨by omega, by omega⟩, fun g => ⟨by omega, by omega⟩⟩
theorem zdown (l : Launch) (D : va_G) (cA : Nat → ClassId) (ro : Nat → Option Nat) (sz : Nat) (H0 : Heap) (b : Int) (hb0 : 0 < b) : zy_M l D cA RTg ro sz H0 (zKn D cA ro sz H0) yX12_down (gW yX12_down cX12_down 6 (some .long)) { frames := 0, cells := 0, slots := 0, locals := 0 } (kdn b) := by
  refine zy_ofW (cc := cX12_down) (maxL := 6) (ret := some .long) (by decide +kernel) rfl ?_
  intro p e s m args below meth c s1 B hml hv
  obtain ⟨vs, rfl, hh, hp, hKn⟩ := hv
  obtain ⟨x0, xs, rfl, ⟨x, rfl, -, -⟩, h1⟩ := zt_cons hp.1
  obtain ⟨y0, ys, rfl, ⟨y, rfl, y1, y2⟩, h2⟩ := zt_cons h1
  cases zt_nil h2
  have hl := lv_entry [Value.long x, Value.long y] (n := 6) (show 4 ≤ 6 by decide)
  rw [lg_entry_eq]
  generalize (lg_sl [Value.long x, Value.long y] ++ List.replicate (6 - (lg_sl [Value.long x, Value.long y]).length) Slot.unset).toArray = ls at hl ⊢
  have hx := B.exec
  have hb := B.bytes
  have d : ∀ {a : Nat × Instr × Nat}, a ∈ tX12_down → decode cX12_down a.1 = .ok a.2 := fun {a} h => eX12_down a h
  have hy : y.toInt = b := by dsimp only at y1 y2; omega
  have hy0 : ¬ y = 0 := fun g => by
    rw [g] at hy
    have : (0 : Int64).toInt = 0 := by decide
    omega
  have hdiv : (x / y).toInt = x.toInt.tdiv b := by rw [zn_divL (by omega), hy]
  have hrem : (x - x / y * y).toInt = x.toInt - x.toInt.tdiv b * b := by rw [zn_remL (by omega), hy]
  obtain ⟨f1, f2⟩ := dn_a hb0 hdiv hrem
  have z0 : (Int64.ofNat 0).toInt = 0 := by decide
  have z1 : (Int64.ofNat 1).toInt = 1 := by decide
  have i0 : (0 : Int32).toInt = 0 := by decide
  have hcm := zn_sg (x - x / y * y) (Int64.ofNat 0)
  rw [z0, Int.sub_zero] at hcm
  refine lv_lload_n hx hb (d (a := (0, .lload_n 0, 1)) (List.mem_of_getElem? (i := 0) rfl)) rfl (lv_at hl 0 rfl) ?_
  refine lv_lload_n hx hb (d (a := (1, .lload_n 2, 1)) (List.mem_of_getElem? (i := 1) rfl)) rfl (lv_at hl 1 rfl) ?_
  refine lv_ldiv hx hb (d (a := (2, .ldiv, 1)) (List.mem_of_getElem? (i := 2) rfl)) hy0 ?_
  refine lv_lstore hx hb (d (a := (3, .lstore 4, 2)) (List.mem_of_getElem? (i := 3) rfl)) hl (by decide) rfl (fun ls2 hl2 => ?_)
  refine lv_lload_n hx hb (d (a := (5, .lload_n 0, 1)) (List.mem_of_getElem? (i := 4) rfl)) rfl (lv_at hl2 1 rfl) ?_
  refine lv_lload_n hx hb (d (a := (6, .lload_n 2, 1)) (List.mem_of_getElem? (i := 5) rfl)) rfl (lv_at hl2 2 rfl) ?_
  refine lv_lrem hx hb (d (a := (7, .lrem, 1)) (List.mem_of_getElem? (i := 6) rfl)) hy0 ?_
  refine lv_lconst (v := Int64.ofNat 0) hx hb (d (a := (8, .lconst 0, 1)) (List.mem_of_getElem? (i := 7) rfl)) rfl ?_
  refine W.lcmp hx hb (d (a := (9, .lcmp, 1)) (List.mem_of_getElem? (i := 8) rfl)) ?_
  have fin : ∀ z : Int64, (b * z.toInt + ((-1) * x.toInt + 0) + 0 ≤ 0 ∧ 1 * x.toInt + ((-b) * z.toInt + 0) + -(b - 1) ≤ 0) → W p l e (headSpec (gW yX12_down cX12_down 6 (some .long)) { frames := 0, cells := 0, slots := 0, locals := 0 }).room s m [Value.long x, Value.long y].toArray below meth c s.heap [] 0 0 (MQ below (zy_Qc D cA RTg ro sz H0 (kdn b)) [Value.long x, Value.long y].toArray s 0 0 (zy_fr sz)) (F0 m 22 ls2 (some (Value.long z)).toList) := by
    intro z hz
    refine zy_ret (K := K0 6) (rc := 2) (ret := some .long) hx hb B.returns B.notSynchronized rfl rfl rfl (d (a := (22, .lreturn, 1)) (List.mem_of_getElem? (i := 15) rfl)) rfl hh ⟨fun _ _ _ _ _ _ _ _ _ _ => rfl, fun _ _ _ _ _ _ _ _ _ => rfl⟩ ⟨_, List.mem_cons_self, ⟨z, rfl, (zn_i64 z).1, (zn_i64 z).2⟩, trivial, fun f hf => ?_⟩
    rcases List.mem_cons.mp hf with rfl | hf
    · exact hz.1
    · rcases List.mem_cons.mp hf with rfl | hf
      · exact hz.2
      · cases hf
  refine lv_if_ge hx hb (d (a := (10, .ifCond .ge 10, 3)) (List.mem_of_getElem? (i := 9) rfl)) (tgt := 20) rfl (fun hc => ?_) (fun hc => ?_)
  · have hc := Int32.le_iff_toInt_le.mp hc
    rw [hcm, i0] at hc
    refine lv_lload hx hb (d (a := (20, .lload 4, 2)) (List.mem_of_getElem? (i := 14) rfl)) (lv_at hl2 0 rfl) ?_
    exact fin _ (f2 (Int.sign_nonneg_iff.mp hc))
  · have hc : ¬ (0 : Int) ≤ (x - x / y * y).toInt.sign := fun g => hc (Int32.le_iff_toInt_le.mpr (by rw [hcm, i0]; exact g))
    have hneg : (x - x / y * y).toInt < 0 := by
      rcases Int.lt_or_le (x - x / y * y).toInt 0 with g | g
      · exact g
      · exact absurd (Int.sign_nonneg_iff.mpr g) hc
    refine lv_lload hx hb (d (a := (13, .lload 4, 2)) (List.mem_of_getElem? (i := 10) rfl)) (lv_at hl2 0 rfl) ?_
    refine lv_lconst (v := Int64.ofNat 1) hx hb (d (a := (15, .lconst 1, 1)) (List.mem_of_getElem? (i := 11) rfl)) rfl ?_
    refine lv_lsub hx hb (d (a := (16, .lsub, 1)) (List.mem_of_getElem? (i := 12) rfl)) ?_
    refine lv_goto hx hb (d (a := (17, .goto 5, 3)) (List.mem_of_getElem? (i := 13) rfl)) (tgt := 22) rfl ?_
    have hq := f1 hneg
    have hz : (x / y - Int64.ofNat 1).toInt = (x / y).toInt - 1 := by
      have h3 := zn_i64 (x / y)
      have h4 := zn_i64 x
      have h5 := zn_tle (x := x.toInt) hb0
      rw [← hdiv] at h5
      have : (x / y).toInt ≠ -9223372036854775808 := fun g => by
        rw [g] at hq
        have h6 : b * (-9223372036854775808 - 1) ≤ 1 * (-9223372036854775808 - 1) := Int.mul_le_mul_of_nonpos_right (by omega) (by omega)
        have h7 := hq.2
        rw [Int.neg_mul] at h7
        omega
      rw [zn_subL (by rw [z1]; omega) (by rw [z1]; omega), z1]
    refine fin _ ?_
    rw [hz]
    exact hq
def kX12_down__400 : zc_C := kdn 400
def kX12_down__146097 : zc_C := kdn 146097
def kX12_down__12 : zc_C := kdn 12
def kX12_down__1440 : zc_C := kdn 1440
def kX12_down__60 : zc_C := kdn 60
theorem mX12_down__400 (l : Launch) (D : va_G) (cA : Nat → ClassId) (ro : Nat → Option Nat) (sz : Nat) (H0 : Heap) : zy_M l D cA RTg ro sz H0 (zKn D cA ro sz H0) yX12_down (gW yX12_down cX12_down 6 (some .long)) { frames := 0, cells := 0, slots := 0, locals := 0 } kX12_down__400 := zdown l D cA ro sz H0 400 (by decide)
theorem mX12_down__146097 (l : Launch) (D : va_G) (cA : Nat → ClassId) (ro : Nat → Option Nat) (sz : Nat) (H0 : Heap) : zy_M l D cA RTg ro sz H0 (zKn D cA ro sz H0) yX12_down (gW yX12_down cX12_down 6 (some .long)) { frames := 0, cells := 0, slots := 0, locals := 0 } kX12_down__146097 := zdown l D cA ro sz H0 146097 (by decide)
theorem mX12_down__12 (l : Launch) (D : va_G) (cA : Nat → ClassId) (ro : Nat → Option Nat) (sz : Nat) (H0 : Heap) : zy_M l D cA RTg ro sz H0 (zKn D cA ro sz H0) yX12_down (gW yX12_down cX12_down 6 (some .long)) { frames := 0, cells := 0, slots := 0, locals := 0 } kX12_down__12 := zdown l D cA ro sz H0 12 (by decide)
theorem mX12_down__1440 (l : Launch) (D : va_G) (cA : Nat → ClassId) (ro : Nat → Option Nat) (sz : Nat) (H0 : Heap) : zy_M l D cA RTg ro sz H0 (zKn D cA ro sz H0) yX12_down (gW yX12_down cX12_down 6 (some .long)) { frames := 0, cells := 0, slots := 0, locals := 0 } kX12_down__1440 := zdown l D cA ro sz H0 1440 (by decide)
theorem mX12_down__60 (l : Launch) (D : va_G) (cA : Nat → ClassId) (ro : Nat → Option Nat) (sz : Nat) (H0 : Heap) : zy_M l D cA RTg ro sz H0 (zKn D cA ro sz H0) yX12_down (gW yX12_down cX12_down 6 (some .long)) { frames := 0, cells := 0, slots := 0, locals := 0 } kX12_down__60 := zdown l D cA ro sz H0 60 (by decide)
