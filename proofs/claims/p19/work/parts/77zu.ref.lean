/-! the reference's reader: at, fault, bad number -/
def vOK (T : List Int) (g : uS) : Prop := 0 ≤ g.1 ∧ g.1 ≤ (T.length : Int) ∧ -1 ≤ g.2.1 ∧ g.2.1 ≤ (T.length : Int)
def jQ (D : va_G) (H : Heap) (a : Nat) (g : uS) : Prop := ∃ av fv bv : Int32, zh_f D H a 11 29 = .int av ∧ zh_f D H a 11 30 = .int fv ∧ zh_f D H a 11 31 = .int bv ∧ av.toInt = g.1 ∧ fv.toInt = g.2.1 ∧ bv.toInt = g.2.2
def jV (D : va_G) (cA : Nat → ClassId) (ro : Nat → Option Nat) (H : Heap) (a : Nat) (T : List Int) (g : uS) : Prop := jRT D cA ro H a T ∧ jQ D H a g ∧ vOK T g
def vM : List (Nat × Nat) := [(11, 29), (11, 30), (11, 31)]
def tM : List (Nat × Nat) := [(11, 29), (11, 30), (11, 31), (11, 33)]
def eM : List (Nat × Nat) := [(11, 29), (11, 30), (11, 31), (11, 33), (35, 0)]
theorem jV.kept {D : va_G} {cA : Nat → ClassId} {ro : Nat → Option Nat} {H H' : Heap} {ms : List (Nat × Nat)} {a : Nat} {T : List Int} {g : uS} (ha : ro a = some 11) (h : zc_kept D RTg ro ms H H') (hm : ∀ y ∈ [(11, 12), (11, 13), (11, 29), (11, 30), (11, 31), (30, 0)], y ∉ ms) (j : jV D cA ro H a T g) : jV D cA ro H' a T g := by
  obtain ⟨j1, ⟨av, fv, bv, a1, a2, a3, a4⟩, j3⟩ := j
  exact ⟨j1.kept ha h (hm _ (by decide)) (hm _ (by decide)) (hm _ (by decide)), ⟨av, fv, bv, (h.1 a 11 29 11 0 fsX12 ha rfl (by decide) (hm _ (by decide))).trans a1, (h.1 a 11 30 11 0 fsX12 ha rfl (by decide) (hm _ (by decide))).trans a2, (h.1 a 11 31 11 0 fsX12 ha rfl (by decide) (hm _ (by decide))).trans a3, a4⟩, j3⟩
def kv_Q (D : va_G) (cA : Nat → ClassId) (ro : Nat → Option Nat) (sz : Nat) (H0 : Heap) (ms : List (Nat × Nat)) (a : Nat) (T : List Int) (x : Int × uS) : Array Value → State → Outcome → State → Prop := fun _ st oc t => ∃ r : Int32, oc = .returned (some (.int r)) ∧ r.toInt = x.1 ∧ zh_ok D cA RTg ro sz H0 t.heap [] ∧ zc_kept D RTg ro ms st.heap t.heap ∧ jV D cA ro t.heap a T x.2
def kv_V (D : va_G) (cA : Nat → ClassId) (ro : Nat → Option Nat) (sz : Nat) (H0 : Heap) (ms : List (Nat × Nat)) (a : Nat) (T : List Int) (x : uS) : Array Value → State → Outcome → State → Prop := fun _ st oc t => oc = .returned none ∧ zh_ok D cA RTg ro sz H0 t.heap [] ∧ zc_kept D RTg ro ms st.heap t.heap ∧ jV D cA ro t.heap a T x
theorem flG_ok {T : List Int} {g : uS} (h : vOK T g) : vOK T (flG g) := by
  unfold vOK flG at *
  dsimp only
  split <;> omega
theorem bdG_ok {T : List Int} {g : uS} {p : Int} (h : vOK T g) : vOK T (bdG p g) := h
theorem adG_ok {T : List Int} {g : uS} (h : vOK T g) (hl : 0 ≤ byI T g.1) : vOK T (g.1 + 1, g.2) := by
  have := byI_lt h.1 hl
  unfold vOK at *
  dsimp only
  omega
theorem tkG_01 (T : List Int) (c : Int) (g : uS) : ((tkG T c g).1 = 1 ∧ (tkG T c g).2 = (g.1 + 1, g.2) ∧ g.2.1 < 0) ∨ ((tkG T c g).1 = 0 ∧ (tkG T c g).2 = g) := by
  unfold tkG
  split
  · rename_i q; exact Or.inl ⟨rfl, rfl, q.1⟩
  · exact Or.inr ⟨rfl, rfl⟩
theorem dgG_up {T : List Int} (n : Nat) : ∀ {v M : Int} {r : uS}, 0 ≤ v → v ≤ M → 0 ≤ (dgG T n v r).1 ∧ (dgG T n v r).1 ≤ M * 10 ^ n + (10 ^ n - 1) := by
  induction n with
  | zero => intro v M r h1 h2; exact ⟨h1, by show v ≤ M * 10 ^ 0 + (10 ^ 0 - 1); rw [Int.pow_zero]; omega⟩
  | succ n ih =>
    intro v M r h1 h2
    have hp : (1 : Int) ≤ 10 ^ n := by
      have := Int.pow_pos (m := n) (show (0 : Int) < 10 by decide)
      omega
    have e : (10 : Int) ^ (n + 1) = 10 ^ n * 10 := Int.pow_succ _ _
    have e2 : M * (10 ^ n * 10) = M * 10 * 10 ^ n := by rw [Int.mul_comm (10 ^ n) 10, Int.mul_assoc]
    have hm : M * 1 ≤ M * (10 ^ n * 10) := Int.mul_le_mul_of_nonneg_left (by omega) (by omega)
    have hm2 : M * 10 ^ n ≤ M * 10 * 10 ^ n := by
      rw [← e2]
      exact Int.mul_le_mul_of_nonneg_left (by omega) (by omega)
    show 0 ≤ (if _ then (if _ then _ else _) else _ : Int × uS).1 ∧ (if _ then (if _ then _ else _) else _ : Int × uS).1 ≤ _
    rw [e, e2]
    split
    · split
      · rename_i q
        obtain ⟨q1, q2⟩ := ih (v := 10 * v + byI T r.1 - 48) (r := (r.1 + 1, r.2)) (M := M * 10 + 9) (by have := q.1; omega) (by have := q.2; omega)
        refine ⟨q1, Int.le_trans q2 ?_⟩
        rw [Int.add_mul]
        omega
      · obtain ⟨q1, q2⟩ := ih (v := v) (r := flG r) (M := M) h1 h2
        exact ⟨q1, by omega⟩
    · rw [e2] at hm
      exact ⟨h1, by show v ≤ _; omega⟩
theorem dgG_u1 {T : List Int} {r : uS} : 0 ≤ (dgG T 1 0 r).1 ∧ (dgG T 1 0 r).1 ≤ 9 := dgG_up 1 (M := 0) (by decide) (by decide)
theorem dgG_u2 {T : List Int} {r : uS} : 0 ≤ (dgG T 2 0 r).1 ∧ (dgG T 2 0 r).1 ≤ 99 := dgG_up 2 (M := 0) (by decide) (by decide)
/-! the rest of a time, from its joins on -/
def t169 (mn hp : Int) (h m : Int) (g : uS) : (Int × Int) × uS := ((if mn = 1 then -(60 * h + m) else 60 * h + m, hp), g)
def t124 (T : List Int) (mn hp h : Int) (g : uS) : (Int × Int) × uS := if (tkG T 58 g).1 = 1 then t169 mn hp h (mnG T (tkG T 58 g).2).1 (mnG T (tkG T 58 g).2).2 else t169 mn hp h 0 (tkG T 58 g).2
def t103 (T : List Int) (mn hp most h : Int) (g : uS) : (Int × Int) × uS := t124 T mn hp h (if g.2.1 < 0 ∧ most < h then bdG hp g else g)
def t58 (T : List Int) (mn most : Int) (g : uS) : (Int × Int) × uS := if (dgG T 1 0 g).2.2.1 < 0 ∧ isD (byI T (dgG T 1 0 g).2.1) then t103 T mn g.1 most (10 * (dgG T 1 0 g).1 + (dgG T 1 0 (dgG T 1 0 g).2).1) (dgG T 1 0 (dgG T 1 0 g).2).2 else t103 T mn g.1 most (dgG T 1 0 g).1 (dgG T 1 0 g).2
def c24 (T : List Int) (h : Int) (g : uS) : Int × uS := if (tkG T 58 g).1 = 1 then (60 * h + (mnG T (tkG T 58 g).2).1, (mnG T (tkG T 58 g).2).2) else (60 * h + 0, (tkG T 58 g).2)
theorem t124_eq (T : List Int) (mn hp h : Int) (g : uS) : t124 T mn hp h g = ((if mn = 1 then -(c24 T h g).1 else (c24 T h g).1, hp), (c24 T h g).2) := by
  unfold t124 t169 c24
  by_cases k : (tkG T 58 g).1 = 1
  · rw [if_pos k, if_pos k]
  · rw [if_neg k, if_neg k]
theorem hr_yes {T : List Int} {most : Int} {g : uS} (h : (dgG T 1 0 g).2.2.1 < 0 ∧ isD (byI T (dgG T 1 0 g).2.1)) : hrG T most g = (10 * (dgG T 1 0 g).1 + (dgG T 1 0 (dgG T 1 0 g).2).1, if (dgG T 1 0 (dgG T 1 0 g).2).2.2.1 < 0 ∧ most < 10 * (dgG T 1 0 g).1 + (dgG T 1 0 (dgG T 1 0 g).2).1 then bdG g.1 (dgG T 1 0 (dgG T 1 0 g).2).2 else (dgG T 1 0 (dgG T 1 0 g).2).2) := by
  unfold hrG
  dsimp only
  rw [if_pos h]
theorem hr_no {T : List Int} {most : Int} {g : uS} (h : ¬ ((dgG T 1 0 g).2.2.1 < 0 ∧ isD (byI T (dgG T 1 0 g).2.1))) : hrG T most g = ((dgG T 1 0 g).1, if (dgG T 1 0 g).2.2.1 < 0 ∧ most < (dgG T 1 0 g).1 then bdG g.1 (dgG T 1 0 g).2 else (dgG T 1 0 g).2) := by
  unfold hrG
  dsimp only
  rw [if_neg h]
theorem tmG_58 (T : List Int) (sg most : Int) (r : uS) : tmG T sg most r = t58 T (sgG T sg r).1 most (sgG T sg r).2 := by
  show ((if (sgG T sg r).1 = 1 then -(c24 T (hrG T most (sgG T sg r).2).1 (hrG T most (sgG T sg r).2).2).1 else (c24 T (hrG T most (sgG T sg r).2).1 (hrG T most (sgG T sg r).2).2).1, (sgG T sg r).2.1), (c24 T (hrG T most (sgG T sg r).2).1 (hrG T most (sgG T sg r).2).2).2) = t58 T (sgG T sg r).1 most (sgG T sg r).2
  generalize (sgG T sg r).2 = g
  generalize (sgG T sg r).1 = mn
  unfold t58 t103
  by_cases h : (dgG T 1 0 g).2.2.1 < 0 ∧ isD (byI T (dgG T 1 0 g).2.1)
  · rw [if_pos h, t124_eq, hr_yes h]
  · rw [if_neg h, t124_eq, hr_no h]
theorem t169_up {mn hp h m : Int} {g : uS} (h1 : 0 ≤ h ∧ h ≤ 99) (h2 : 0 ≤ m ∧ m ≤ 99) : -6039 ≤ (t169 mn hp h m g).1.1 ∧ (t169 mn hp h m g).1.1 ≤ 6039 := by
  unfold t169
  dsimp only
  split <;> omega
theorem t124_up {T : List Int} {mn hp h : Int} {g : uS} (h1 : 0 ≤ h ∧ h ≤ 99) : -6039 ≤ (t124 T mn hp h g).1.1 ∧ (t124 T mn hp h g).1.1 ≤ 6039 := by
  unfold t124
  split
  · exact t169_up h1 (dgG_u2 (T := T))
  · exact t169_up h1 (by decide)
theorem tmG_up (T : List Int) (sg most : Int) (r : uS) : -6039 ≤ (tmG T sg most r).1.1 ∧ (tmG T sg most r).1.1 ≤ 6039 := by
  rw [tmG_58]
  unfold t58
  have a1 := dgG_u1 (T := T) (r := (sgG T sg r).2)
  have a2 := dgG_u1 (T := T) (r := (dgG T 1 0 (sgG T sg r).2).2)
  split
  · exact t124_up (by omega)
  · exact t124_up (by omega)
theorem utL_up {T : List Int} (n : Nat) : ∀ {v M : Int} {r : uS}, 0 ≤ v → v ≤ M → 0 ≤ (utL T n v r).1 ∧ (utL T n v r).1 ≤ M * 10 ^ n + (10 ^ n - 1) := by
  induction n with
  | zero => intro v M r h1 h2; exact ⟨h1, by show v ≤ M * 10 ^ 0 + (10 ^ 0 - 1); rw [Int.pow_zero]; omega⟩
  | succ n ih =>
    intro v M r h1 h2
    have hp : (1 : Int) ≤ 10 ^ n := by
      have := Int.pow_pos (m := n) (show (0 : Int) < 10 by decide)
      omega
    have e : (10 : Int) ^ (n + 1) = 10 ^ n * 10 := Int.pow_succ _ _
    have e2 : M * (10 ^ n * 10) = M * 10 * 10 ^ n := by rw [Int.mul_comm (10 ^ n) 10, Int.mul_assoc]
    have hm : M * 1 ≤ M * (10 ^ n * 10) := Int.mul_le_mul_of_nonneg_left (by omega) (by omega)
    show 0 ≤ (if _ then _ else _ : Int × uS).1 ∧ (if _ then _ else _ : Int × uS).1 ≤ _
    rw [e, e2]
    split
    · have a := dgG_u1 (T := T) (r := r)
      obtain ⟨q1, q2⟩ := ih (v := 10 * v + (dgG T 1 0 r).1) (r := (dgG T 1 0 r).2) (M := M * 10 + 9) (by omega) (by omega)
      refine ⟨q1, Int.le_trans q2 ?_⟩
      rw [Int.add_mul]
      omega
    · rw [e2] at hm
      exact ⟨h1, by show v ≤ _; omega⟩
theorem utG_up {T : List Int} (n : Nat) {lo hi : Int} {r : uS} : 0 ≤ (utG T (n + 1) lo hi r).1 ∧ (utG T (n + 1) lo hi r).1 ≤ 9 * 10 ^ n + (10 ^ n - 1) := by
  have a := dgG_u1 (T := T) (r := r)
  exact utL_up n a.1 a.2
theorem utG_3 {T : List Int} {n : Nat} (hn : n < 3) {lo hi : Int} {r : uS} : 0 ≤ (utG T (n + 1) lo hi r).1 ∧ (utG T (n + 1) lo hi r).1 ≤ 999 := by
  have h := utG_up (T := T) n (lo := lo) (hi := hi) (r := r)
  match n, hn, h with
  | 0, _, h => exact ⟨h.1, Int.le_trans h.2 (by decide)⟩
  | 1, _, h => exact ⟨h.1, Int.le_trans h.2 (by decide)⟩
  | 2, _, h => exact ⟨h.1, Int.le_trans h.2 (by decide)⟩
theorem utG_eq (T : List Int) (n : Nat) (lo hi : Int) (r : uS) : utG T (n + 1) lo hi r = ((utL T n (dgG T 1 0 r).1 (dgG T 1 0 r).2).1, if (utL T n (dgG T 1 0 r).1 (dgG T 1 0 r).2).2.2.1 < 0 ∧ ¬ (lo ≤ (utL T n (dgG T 1 0 r).1 (dgG T 1 0 r).2).1 ∧ (utL T n (dgG T 1 0 r).1 (dgG T 1 0 r).2).1 ≤ hi) then bdG r.1 (utL T n (dgG T 1 0 r).1 (dgG T 1 0 r).2).2 else (utL T n (dgG T 1 0 r).1 (dgG T 1 0 r).2).2) := rfl
theorem nameG_eq (T : List Int) (g : uS) : nameG T g = if (tkG T 60 g).1 = 1 then exG T 62 (f3G (nlG T 1 8 0 (tkG T 60 g).2)) else f3G (nlG T 0 8 0 (tkG T 60 g).2) := rfl
set_option maxRecDepth 100000 in
set_option maxHeartbeats 4000000 in
theorem hX12_isDigit (l : Launch) (c0 : Int32)  : zu_M l yX12_isDigit (gW yX12_isDigit cX12_isDigit 1 (some .boolean)) { frames := 0, cells := 0, slots := 0, locals := 0 } (fun vs => vs = [.int c0]) zT (fun _ w => ∃ r : Int32, w = .int r ∧ ((r.toInt = 1 ∧ isD c0.toInt) ∨ (r.toInt = 0 ∧ ¬ isD c0.toInt))) := by
  refine zy_ofW (cc := cX12_isDigit) (maxL := 1) (ret := (some .boolean)) (by decide +kernel) rfl ?_
  intro p e s m args below meth c s1 B hml hv
  obtain ⟨vs, rfl, rfl, hKp⟩ := hv
  have hx := B.exec
  have hb := B.bytes
  have hr := B.returns
  have hlk := B.notSynchronized
  have hts0 := atoms_spec (ws := gW yX12_isDigit cX12_isDigit 1 (some .boolean)) B.pre
  have h2 : ∀ w ∈ gT, w.before ([.int c0] : List Value).toArray s = true := fun w hw => hts0 w (List.mem_cons_of_mem _ hw)
  have hown : s.vm.findClass RX12 = some m.cls := findClass_of_methodNamed B.named
  have hl := lv_entry [.int c0] (n := 1) (Nat.le_of_ble_eq_true rfl)
  rw [lg_entry_eq]
  generalize (lg_sl [.int c0] ++ List.replicate (1 - (lg_sl [.int c0]).length) Slot.unset).toArray = ls at hl ⊢
  have b_c0 := zn_i32 c0
  refine lv_iload_n hx hb (eX12_isDigit (0, .iload_n 0, 1) (List.mem_of_getElem? (i := 0) rfl)) rfl (lv_at hl 0 rfl) ?_
  refine ff_bipush hx hb (eX12_isDigit (1, .bipush 48, 2) (List.mem_of_getElem? (i := 1) rfl)) (by decide) (by decide) (fun v1 e1 => ?_)
  refine ff_icmp_lt hx hb (eX12_isDigit (3, .if_icmp .lt 13, 3) (List.mem_of_getElem? (i := 2) rfl)) (tgt := 16) rfl (fun c2 => ?_) (fun c2 => ?_)
  · skip
    refine ff_iconst hx hb (eX12_isDigit (16, .iconst 0, 1) (List.mem_of_getElem? (i := 8) rfl)) (by decide) (by decide) (fun v3 e3 => ?_)
    exact zu_iret (y := yX12_isDigit) (ws := []) (rm := {}) hx hb hr hlk (zn_bool (by omega) (by omega)) ⟨_, rfl, by (unfold isD; omega)⟩ (eX12_isDigit (17, .ireturn, 1) (List.mem_of_getElem? (i := 9) rfl))
  · skip
    refine lv_iload_n hx hb (eX12_isDigit (6, .iload_n 0, 1) (List.mem_of_getElem? (i := 3) rfl)) rfl (lv_at hl 0 rfl) ?_
    refine ff_bipush hx hb (eX12_isDigit (7, .bipush 57, 2) (List.mem_of_getElem? (i := 4) rfl)) (by decide) (by decide) (fun v4 e4 => ?_)
    refine ff_icmp_gt hx hb (eX12_isDigit (9, .if_icmp .gt 7, 3) (List.mem_of_getElem? (i := 5) rfl)) (tgt := 16) rfl (fun c5 => ?_) (fun c5 => ?_)
    · skip
      refine ff_iconst hx hb (eX12_isDigit (16, .iconst 0, 1) (List.mem_of_getElem? (i := 8) rfl)) (by decide) (by decide) (fun v6 e6 => ?_)
      exact zu_iret (y := yX12_isDigit) (ws := []) (rm := {}) hx hb hr hlk (zn_bool (by omega) (by omega)) ⟨_, rfl, by (unfold isD; omega)⟩ (eX12_isDigit (17, .ireturn, 1) (List.mem_of_getElem? (i := 9) rfl))
    · skip
      refine ff_iconst hx hb (eX12_isDigit (12, .iconst 1, 1) (List.mem_of_getElem? (i := 6) rfl)) (by decide) (by decide) (fun v7 e7 => ?_)
      refine lv_goto hx hb (eX12_isDigit (13, .goto 4, 3) (List.mem_of_getElem? (i := 7) rfl)) (tgt := 17) rfl ?_
      exact zu_iret (y := yX12_isDigit) (ws := []) (rm := {}) hx hb hr hlk (zn_bool (by omega) (by omega)) ⟨_, rfl, by (unfold isD; omega)⟩ (eX12_isDigit (17, .ireturn, 1) (List.mem_of_getElem? (i := 9) rfl))
set_option maxRecDepth 100000 in
set_option maxHeartbeats 4000000 in
theorem hX12_isLetter (l : Launch) (c0 : Int32)  : zu_M l yX12_isLetter (gW yX12_isLetter cX12_isLetter 1 (some .boolean)) { frames := 0, cells := 0, slots := 0, locals := 0 } (fun vs => vs = [.int c0]) zT (fun _ w => ∃ r : Int32, w = .int r ∧ ((r.toInt = 1 ∧ isT c0.toInt) ∨ (r.toInt = 0 ∧ ¬ isT c0.toInt))) := by
  refine zy_ofW (cc := cX12_isLetter) (maxL := 1) (ret := (some .boolean)) (by decide +kernel) rfl ?_
  intro p e s m args below meth c s1 B hml hv
  obtain ⟨vs, rfl, rfl, hKp⟩ := hv
  have hx := B.exec
  have hb := B.bytes
  have hr := B.returns
  have hlk := B.notSynchronized
  have hts0 := atoms_spec (ws := gW yX12_isLetter cX12_isLetter 1 (some .boolean)) B.pre
  have h2 : ∀ w ∈ gT, w.before ([.int c0] : List Value).toArray s = true := fun w hw => hts0 w (List.mem_cons_of_mem _ hw)
  have hown : s.vm.findClass RX12 = some m.cls := findClass_of_methodNamed B.named
  have hl := lv_entry [.int c0] (n := 1) (Nat.le_of_ble_eq_true rfl)
  rw [lg_entry_eq]
  generalize (lg_sl [.int c0] ++ List.replicate (1 - (lg_sl [.int c0]).length) Slot.unset).toArray = ls at hl ⊢
  have b_c0 := zn_i32 c0
  refine lv_iload_n hx hb (eX12_isLetter (0, .iload_n 0, 1) (List.mem_of_getElem? (i := 0) rfl)) rfl (lv_at hl 0 rfl) ?_
  refine ff_bipush hx hb (eX12_isLetter (1, .bipush 97, 2) (List.mem_of_getElem? (i := 1) rfl)) (by decide) (by decide) (fun v1 e1 => ?_)
  refine ff_icmp_lt hx hb (eX12_isLetter (3, .if_icmp .lt 9, 3) (List.mem_of_getElem? (i := 2) rfl)) (tgt := 12) rfl (fun c2 => ?_) (fun c2 => ?_)
  · skip
    refine lv_iload_n hx hb (eX12_isLetter (12, .iload_n 0, 1) (List.mem_of_getElem? (i := 6) rfl)) rfl (lv_at hl 0 rfl) ?_
    refine ff_bipush hx hb (eX12_isLetter (13, .bipush 65, 2) (List.mem_of_getElem? (i := 7) rfl)) (by decide) (by decide) (fun v3 e3 => ?_)
    refine ff_icmp_lt hx hb (eX12_isLetter (15, .if_icmp .lt 13, 3) (List.mem_of_getElem? (i := 8) rfl)) (tgt := 28) rfl (fun c4 => ?_) (fun c4 => ?_)
    · skip
      refine ff_iconst hx hb (eX12_isLetter (28, .iconst 0, 1) (List.mem_of_getElem? (i := 14) rfl)) (by decide) (by decide) (fun v5 e5 => ?_)
      exact zu_iret (y := yX12_isLetter) (ws := []) (rm := {}) hx hb hr hlk (zn_bool (by omega) (by omega)) ⟨_, rfl, by (unfold isT; omega)⟩ (eX12_isLetter (29, .ireturn, 1) (List.mem_of_getElem? (i := 15) rfl))
    · skip
      refine lv_iload_n hx hb (eX12_isLetter (18, .iload_n 0, 1) (List.mem_of_getElem? (i := 9) rfl)) rfl (lv_at hl 0 rfl) ?_
      refine ff_bipush hx hb (eX12_isLetter (19, .bipush 90, 2) (List.mem_of_getElem? (i := 10) rfl)) (by decide) (by decide) (fun v6 e6 => ?_)
      refine ff_icmp_gt hx hb (eX12_isLetter (21, .if_icmp .gt 7, 3) (List.mem_of_getElem? (i := 11) rfl)) (tgt := 28) rfl (fun c7 => ?_) (fun c7 => ?_)
      · skip
        refine ff_iconst hx hb (eX12_isLetter (28, .iconst 0, 1) (List.mem_of_getElem? (i := 14) rfl)) (by decide) (by decide) (fun v8 e8 => ?_)
        exact zu_iret (y := yX12_isLetter) (ws := []) (rm := {}) hx hb hr hlk (zn_bool (by omega) (by omega)) ⟨_, rfl, by (unfold isT; omega)⟩ (eX12_isLetter (29, .ireturn, 1) (List.mem_of_getElem? (i := 15) rfl))
      · skip
        refine ff_iconst hx hb (eX12_isLetter (24, .iconst 1, 1) (List.mem_of_getElem? (i := 12) rfl)) (by decide) (by decide) (fun v9 e9 => ?_)
        refine lv_goto hx hb (eX12_isLetter (25, .goto 4, 3) (List.mem_of_getElem? (i := 13) rfl)) (tgt := 29) rfl ?_
        exact zu_iret (y := yX12_isLetter) (ws := []) (rm := {}) hx hb hr hlk (zn_bool (by omega) (by omega)) ⟨_, rfl, by (unfold isT; omega)⟩ (eX12_isLetter (29, .ireturn, 1) (List.mem_of_getElem? (i := 15) rfl))
  · skip
    refine lv_iload_n hx hb (eX12_isLetter (6, .iload_n 0, 1) (List.mem_of_getElem? (i := 3) rfl)) rfl (lv_at hl 0 rfl) ?_
    refine ff_bipush hx hb (eX12_isLetter (7, .bipush 122, 2) (List.mem_of_getElem? (i := 4) rfl)) (by decide) (by decide) (fun v10 e10 => ?_)
    refine ff_icmp_le hx hb (eX12_isLetter (9, .if_icmp .le 15, 3) (List.mem_of_getElem? (i := 5) rfl)) (tgt := 24) rfl (fun c11 => ?_) (fun c11 => ?_)
    · skip
      refine ff_iconst hx hb (eX12_isLetter (24, .iconst 1, 1) (List.mem_of_getElem? (i := 12) rfl)) (by decide) (by decide) (fun v12 e12 => ?_)
      refine lv_goto hx hb (eX12_isLetter (25, .goto 4, 3) (List.mem_of_getElem? (i := 13) rfl)) (tgt := 29) rfl ?_
      exact zu_iret (y := yX12_isLetter) (ws := []) (rm := {}) hx hb hr hlk (zn_bool (by omega) (by omega)) ⟨_, rfl, by (unfold isT; omega)⟩ (eX12_isLetter (29, .ireturn, 1) (List.mem_of_getElem? (i := 15) rfl))
    · skip
      refine lv_iload_n hx hb (eX12_isLetter (12, .iload_n 0, 1) (List.mem_of_getElem? (i := 6) rfl)) rfl (lv_at hl 0 rfl) ?_
      refine ff_bipush hx hb (eX12_isLetter (13, .bipush 65, 2) (List.mem_of_getElem? (i := 7) rfl)) (by decide) (by decide) (fun v13 e13 => ?_)
      refine ff_icmp_lt hx hb (eX12_isLetter (15, .if_icmp .lt 13, 3) (List.mem_of_getElem? (i := 8) rfl)) (tgt := 28) rfl (fun c14 => ?_) (fun c14 => ?_)
      · skip
        refine ff_iconst hx hb (eX12_isLetter (28, .iconst 0, 1) (List.mem_of_getElem? (i := 14) rfl)) (by decide) (by decide) (fun v15 e15 => ?_)
        exact zu_iret (y := yX12_isLetter) (ws := []) (rm := {}) hx hb hr hlk (zn_bool (by omega) (by omega)) ⟨_, rfl, by (unfold isT; omega)⟩ (eX12_isLetter (29, .ireturn, 1) (List.mem_of_getElem? (i := 15) rfl))
      · skip
        refine lv_iload_n hx hb (eX12_isLetter (18, .iload_n 0, 1) (List.mem_of_getElem? (i := 9) rfl)) rfl (lv_at hl 0 rfl) ?_
        refine ff_bipush hx hb (eX12_isLetter (19, .bipush 90, 2) (List.mem_of_getElem? (i := 10) rfl)) (by decide) (by decide) (fun v16 e16 => ?_)
        refine ff_icmp_gt hx hb (eX12_isLetter (21, .if_icmp .gt 7, 3) (List.mem_of_getElem? (i := 11) rfl)) (tgt := 28) rfl (fun c17 => ?_) (fun c17 => ?_)
        · skip
          refine ff_iconst hx hb (eX12_isLetter (28, .iconst 0, 1) (List.mem_of_getElem? (i := 14) rfl)) (by decide) (by decide) (fun v18 e18 => ?_)
          exact zu_iret (y := yX12_isLetter) (ws := []) (rm := {}) hx hb hr hlk (zn_bool (by omega) (by omega)) ⟨_, rfl, by (unfold isT; omega)⟩ (eX12_isLetter (29, .ireturn, 1) (List.mem_of_getElem? (i := 15) rfl))
        · skip
          refine ff_iconst hx hb (eX12_isLetter (24, .iconst 1, 1) (List.mem_of_getElem? (i := 12) rfl)) (by decide) (by decide) (fun v19 e19 => ?_)
          refine lv_goto hx hb (eX12_isLetter (25, .goto 4, 3) (List.mem_of_getElem? (i := 13) rfl)) (tgt := 29) rfl ?_
          exact zu_iret (y := yX12_isLetter) (ws := []) (rm := {}) hx hb hr hlk (zn_bool (by omega) (by omega)) ⟨_, rfl, by (unfold isT; omega)⟩ (eX12_isLetter (29, .ireturn, 1) (List.mem_of_getElem? (i := 15) rfl))
set_option maxRecDepth 100000 in
set_option maxHeartbeats 4000000 in
theorem hX12_begin_ (l : Launch) (D : va_G) (cA : Nat → ClassId) (ro : Nat → Option Nat) (sz : Nat) (H0 : Heap) (a : Nat)  (T : List Int) (ha : ro a = some 11)  : Met l yX12_begin_ (gW yX12_begin_ cX12_begin_ 1 none) { frames := 0, cells := 0, slots := 0, locals := 0 } (zs_P D cA ro sz H0 (fun H => jRT D cA ro H a T) [.ref a]) (kv_V D cA ro sz H0 vM a T (0, -1, 1000)) 0 0 (zy_fr sz) := by
  refine zy_ofW (cc := cX12_begin_) (maxL := 1) (ret := none) (by decide +kernel) rfl ?_
  intro p e s m args below meth c s1 B hml hv
  obtain ⟨rfl, hh, hKn, hJ⟩ := hv
  have hx := B.exec
  have hb := B.bytes
  have hr := B.returns
  have hlk := B.notSynchronized
  have hts0 := atoms_spec (ws := gW yX12_begin_ cX12_begin_ 1 none) B.pre
  have h2 : ∀ w ∈ gT, w.before ([.ref a] : List Value).toArray s = true := fun w hw => hts0 w (List.mem_cons_of_mem _ hw)
  have hown : s.vm.findClass RX12 = some m.cls := findClass_of_methodNamed B.named
  have hl := lv_entry [.ref a] (n := 1) (Nat.le_of_ble_eq_true rfl)
  rw [lg_entry_eq]
  generalize (lg_sl [.ref a] ++ List.replicate (1 - (lg_sl [.ref a]).length) Slot.unset).toArray = ls at hl ⊢
  have hD := zD_all h2 hKn.1
  have hcl11 := fun (idx k : Nat) (t : zt_T) (h : (idx, 11, k) ∈ gfX12) (hk : fsX12[k]? = some t) => zf_clause (ro := ro) (ms := vM) h2 hown hKn.1 gfX12_ok (by decide +kernel) idx 11 k 11 0 fsX12 t h rfl hk
  have kp0 : zc_kept D RTg ro vM s.heap s.heap := zc_kept.refl
  have hjt := hJ
  obtain ⟨tb, n, z, f12, r0, f13, hn, hc, hz⟩ := id hjt
  refine lv_aload_n hx hb (eX12_begin_ (0, .aload_n 0, 1) (List.mem_of_getElem? (i := 0) rfl)) rfl (lv_at hl 0 rfl) ?_
  refine ff_iconst hx hb (eX12_begin_ (1, .iconst 0, 1) (List.mem_of_getElem? (i := 1) rfl)) (by decide) (by decide) (fun v1 e1 => ?_)
  refine tz_put (r := 11) (k := 29) (t := (0, 0, 120)) hx hb hD hh ha rfl rfl ((hcl11 293 29 (0, 0, 120) (by decide) rfl).2 (by decide)) (tz_i (by omega) (by omega)) (eX12_begin_ (2, .putfield 293, 3) (List.mem_of_getElem? (i := 2) rfl)) (fun H2 lo2 hh2 hf2 hk2 _ hq2 => ?_)
  have mf2_a_12 := (hk2.1 a 11 12 11 0 fsX12 ha rfl (by decide) (by decide)).trans f12
  have mf2_a_13 := (hk2.1 a 11 13 11 0 fsX12 ha rfl (by decide) (by decide)).trans f13
  have kp2 := kp0.trans (hk2.mono (ms' := vM) (fun x hx => by cases List.mem_singleton.mp hx; decide))
  have jm2 := (hJ).kept ha hk2 (by decide) (by decide) (by decide)
  refine lv_aload_n hx hb (eX12_begin_ (5, .aload_n 0, 1) (List.mem_of_getElem? (i := 3) rfl)) rfl (lv_at hl 0 rfl) ?_
  refine ff_iconst hx hb (eX12_begin_ (6, .iconst (-1), 1) (List.mem_of_getElem? (i := 4) rfl)) (by decide) (by decide) (fun v3 e3 => ?_)
  refine tz_put (r := 11) (k := 30) (t := (0, (-1), 120)) hx hb hD hh2 ha rfl rfl ((hcl11 296 30 (0, (-1), 120) (by decide) rfl).2 (by decide)) (tz_i (by omega) (by omega)) (eX12_begin_ (7, .putfield 296, 3) (List.mem_of_getElem? (i := 5) rfl)) (fun H4 lo4 hh4 hf4 hk4 _ hq4 => ?_)
  have mf4_a_12 := (hk4.1 a 11 12 11 0 fsX12 ha rfl (by decide) (by decide)).trans mf2_a_12
  have mf4_a_13 := (hk4.1 a 11 13 11 0 fsX12 ha rfl (by decide) (by decide)).trans mf2_a_13
  have mf4_a_29 := (hk4.1 a 11 29 11 0 fsX12 ha rfl (by decide) (by decide)).trans hf2
  have kp4 := kp2.trans (hk4.mono (ms' := vM) (fun x hx => by cases List.mem_singleton.mp hx; decide))
  have jm4 := (jm2).kept ha hk4 (by decide) (by decide) (by decide)
  refine lv_aload_n hx hb (eX12_begin_ (10, .aload_n 0, 1) (List.mem_of_getElem? (i := 6) rfl)) rfl (lv_at hl 0 rfl) ?_
  refine ff_sipush hx hb (eX12_begin_ (11, .sipush 1000, 3) (List.mem_of_getElem? (i := 7) rfl)) (by decide) (by decide) (fun v5 e5 => ?_)
  refine tz_put (r := 11) (k := 31) (t := (0, (-2147483648), 2147483647)) hx hb hD hh4 ha rfl rfl ((hcl11 299 31 (0, (-2147483648), 2147483647) (by decide) rfl).2 (by decide)) (tz_i (zn_i32 _).1 (zn_i32 _).2) (eX12_begin_ (14, .putfield 299, 3) (List.mem_of_getElem? (i := 8) rfl)) (fun H6 lo6 hh6 hf6 hk6 _ hq6 => ?_)
  have mf6_a_12 := (hk6.1 a 11 12 11 0 fsX12 ha rfl (by decide) (by decide)).trans mf4_a_12
  have mf6_a_13 := (hk6.1 a 11 13 11 0 fsX12 ha rfl (by decide) (by decide)).trans mf4_a_13
  have mf6_a_29 := (hk6.1 a 11 29 11 0 fsX12 ha rfl (by decide) (by decide)).trans mf4_a_29
  have mf6_a_30 := (hk6.1 a 11 30 11 0 fsX12 ha rfl (by decide) (by decide)).trans hf4
  have kp6 := kp4.trans (hk6.mono (ms' := vM) (fun x hx => by cases List.mem_singleton.mp hx; decide))
  have jm6 := (jm4).kept ha hk6 (by decide) (by decide) (by decide)
  have hfin : ((0, -1, 1000) : uS) = (0, -1, 1000) := rfl
  exact W.vret hx hb hr (fun t ht hW => ⟨rfl, by rw [ht]; exact hh6.l0, by rw [ht]; exact kp6, by rw [ht, hfin]; exact ⟨jm6, ⟨_, _, _, mf6_a_29, mf6_a_30, hf6, by omega, by omega, by omega⟩, by unfold vOK; dsimp only; omega⟩⟩) hh6.2.2.1 (eX12_begin_ (17, .return_, 1) (List.mem_of_getElem? (i := 9) rfl))
set_option maxRecDepth 100000 in
set_option maxHeartbeats 4000000 in
theorem hX12_sign (l : Launch) (D : va_G) (cA : Nat → ClassId) (ro : Nat → Option Nat) (sz : Nat) (H0 : Heap) (a : Nat)  (T : List Int) (sg : uS) (ha : ro a = some 11)  : Met l yX12_sign (gW yX12_sign cX12_sign 1 (some .int)) { frames := 0, cells := 0, slots := 0, locals := 0 } (zs_P D cA ro sz H0 (fun H => jV D cA ro H a T sg) [.ref a]) (fun _ st oc t => t.heap = st.heap ∧ ∃ r : Int32, oc = .returned (some (.int r)) ∧ r.toInt = byI T sg.1) 0 0 (zy_fr sz) := by
  refine zy_ofW (cc := cX12_sign) (maxL := 1) (ret := (some .int)) (by decide +kernel) rfl ?_
  intro p e s m args below meth c s1 B hml hv
  obtain ⟨rfl, hh, hKn, hJ⟩ := hv
  have hx := B.exec
  have hb := B.bytes
  have hr := B.returns
  have hlk := B.notSynchronized
  have hts0 := atoms_spec (ws := gW yX12_sign cX12_sign 1 (some .int)) B.pre
  have h2 : ∀ w ∈ gT, w.before ([.ref a] : List Value).toArray s = true := fun w hw => hts0 w (List.mem_cons_of_mem _ hw)
  have hown : s.vm.findClass RX12 = some m.cls := findClass_of_methodNamed B.named
  have hl := lv_entry [.ref a] (n := 1) (Nat.le_of_ble_eq_true rfl)
  rw [lg_entry_eq]
  generalize (lg_sl [.ref a] ++ List.replicate (1 - (lg_sl [.ref a]).length) Slot.unset).toArray = ls at hl ⊢
  have hD := zD_all h2 hKn.1
  have hcl11 := fun (idx k : Nat) (t : zt_T) (h : (idx, 11, k) ∈ gfX12) (hk : fsX12[k]? = some t) => zf_clause (ro := ro) (ms := []) h2 hown hKn.1 gfX12_ok (by decide +kernel) idx 11 k 11 0 fsX12 t h rfl hk
  have kp0 : zc_kept D RTg ro [] s.heap s.heap := zc_kept.refl
  obtain ⟨hjt, ⟨av, fv, bv, f29, f30, f31, hav, hfv, hbv⟩, hu⟩ := id hJ
  obtain ⟨tb, n, z, f12, r0, f13, hn, hc, hz⟩ := id hjt
  obtain ⟨n9, g9, n1, n2⟩ := zh_fT (k := 13) (t := (0, 0, 120)) hh ha (show RTg[11]? = some (0, 11, 0, fsX12) from rfl) rfl
  cases f13.symm.trans g9
  dsimp only at n1 n2
  clear g9
  obtain ⟨-, z9, c9, hy9⟩ := zh_arr hh r0 (show RTg[30]? = some (1, 2, 120, [(0, (-128), 127)]) from rfl)
  have hy : ∀ i, i < 120 → zt_ok ro (z i) (0, (-128), 127) := zs_arr (hc.symm.trans c9) hy9
  obtain ⟨u1, u2, u3, u4⟩ := id hu
  refine lv_aload_n hx hb (eX12_sign (0, .aload_n 0, 1) (List.mem_of_getElem? (i := 0) rfl)) rfl (lv_at hl 0 rfl) ?_
  refine tz_get (r := 11) (k := 29) (t := (0, 0, 120)) hx hb hh ha rfl rfl (hcl11 293 29 (0, 0, 120) (by decide) rfl).1 f29 (eX12_sign (1, .getfield 293, 3) (List.mem_of_getElem? (i := 1) rfl)) ?_
  refine lv_aload_n hx hb (eX12_sign (4, .aload_n 0, 1) (List.mem_of_getElem? (i := 2) rfl)) rfl (lv_at hl 0 rfl) ?_
  refine tz_get (r := 11) (k := 13) (t := (0, 0, 120)) hx hb hh ha rfl rfl (hcl11 302 13 (0, 0, 120) (by decide) rfl).1 f13 (eX12_sign (5, .getfield 302, 3) (List.mem_of_getElem? (i := 3) rfl)) ?_
  refine ff_icmp_ge hx hb (eX12_sign (8, .if_icmp .ge 19, 3) (List.mem_of_getElem? (i := 4) rfl)) (tgt := 27) rfl (fun c1 => ?_) (fun c1 => ?_)
  · skip
    refine ff_iconst hx hb (eX12_sign (27, .iconst (-1), 1) (List.mem_of_getElem? (i := 13) rfl)) (by decide) (by decide) (fun v2 e2 => ?_)
    exact W.zret hx hb hr rfl (fun t ht hW => ⟨ht, _, rfl, by rw [byI_end (by omega)]; omega⟩) hh.2.2.1 (eX12_sign (28, .ireturn, 1) (List.mem_of_getElem? (i := 14) rfl))
  · skip
    refine lv_aload_n hx hb (eX12_sign (11, .aload_n 0, 1) (List.mem_of_getElem? (i := 5) rfl)) rfl (lv_at hl 0 rfl) ?_
    refine tz_get (r := 11) (k := 12) (t := (64, 0, 0)) hx hb hh ha rfl rfl (hcl11 40 12 (64, 0, 0) (by decide) rfl).1 f12 (eX12_sign (12, .getfield 40, 3) (List.mem_of_getElem? (i := 6) rfl)) ?_
    refine lv_aload_n hx hb (eX12_sign (15, .aload_n 0, 1) (List.mem_of_getElem? (i := 7) rfl)) rfl (lv_at hl 0 rfl) ?_
    refine tz_get (r := 11) (k := 29) (t := (0, 0, 120)) hx hb hh ha rfl rfl (hcl11 293 29 (0, 0, 120) (by decide) rfl).1 f29 (eX12_sign (16, .getfield 293, 3) (List.mem_of_getElem? (i := 8) rfl)) ?_
    refine tz_bald hx hb (zAr hKn.1 2 (by decide)) hc (by omega) (by omega) (eX12_sign (19, .baload, 1) (List.mem_of_getElem? (i := 9) rfl)) ?_
    obtain ⟨v3, hz3, hT3⟩ := hz sg.1.toNat (by omega)
    obtain ⟨y3, hy3, l3, m3⟩ := hy sg.1.toNat (by omega)
    cases hz3.symm.trans hy3
    dsimp only at l3 m3
    have hby := byI_at hT3
    rw [show av.toNatClampNeg = sg.1.toNat by show av.toInt.toNat = _; omega, hz3]
    refine ff_sipush hx hb (eX12_sign (20, .sipush 255, 3) (List.mem_of_getElem? (i := 10) rfl)) (by decide) (by decide) (fun v4 e4 => ?_)
    refine lv_iand hx hb (eX12_sign (23, .iand, 1) (List.mem_of_getElem? (i := 11) rfl)) ?_
    have h256 := an_256 (x := v3) (y := v4) (by omega) (by omega) (by omega)
    generalize v3 &&& v4 = v5 at h256 ⊢
    refine lv_goto hx hb (eX12_sign (24, .goto 4, 3) (List.mem_of_getElem? (i := 12) rfl)) (tgt := 28) rfl ?_
    exact W.zret hx hb hr rfl (fun t ht hW => ⟨ht, _, rfl, by omega⟩) hh.2.2.1 (eX12_sign (28, .ireturn, 1) (List.mem_of_getElem? (i := 14) rfl))
set_option maxRecDepth 100000 in
set_option maxHeartbeats 4000000 in
theorem hX12_isGood (l : Launch) (D : va_G) (cA : Nat → ClassId) (ro : Nat → Option Nat) (sz : Nat) (H0 : Heap) (a : Nat)  (T : List Int) (sg : uS) (ha : ro a = some 11)  : Met l yX12_isGood (gW yX12_isGood cX12_isGood 1 (some .boolean)) { frames := 0, cells := 0, slots := 0, locals := 0 } (zs_P D cA ro sz H0 (fun H => jV D cA ro H a T sg) [.ref a]) (fun _ st oc t => t.heap = st.heap ∧ ∃ r : Int32, oc = .returned (some (.int r)) ∧ ((r.toInt = 1 ∧ sg.2.1 < 0) ∨ (r.toInt = 0 ∧ 0 ≤ sg.2.1))) 0 0 (zy_fr sz) := by
  refine zy_ofW (cc := cX12_isGood) (maxL := 1) (ret := (some .boolean)) (by decide +kernel) rfl ?_
  intro p e s m args below meth c s1 B hml hv
  obtain ⟨rfl, hh, hKn, hJ⟩ := hv
  have hx := B.exec
  have hb := B.bytes
  have hr := B.returns
  have hlk := B.notSynchronized
  have hts0 := atoms_spec (ws := gW yX12_isGood cX12_isGood 1 (some .boolean)) B.pre
  have h2 : ∀ w ∈ gT, w.before ([.ref a] : List Value).toArray s = true := fun w hw => hts0 w (List.mem_cons_of_mem _ hw)
  have hown : s.vm.findClass RX12 = some m.cls := findClass_of_methodNamed B.named
  have hl := lv_entry [.ref a] (n := 1) (Nat.le_of_ble_eq_true rfl)
  rw [lg_entry_eq]
  generalize (lg_sl [.ref a] ++ List.replicate (1 - (lg_sl [.ref a]).length) Slot.unset).toArray = ls at hl ⊢
  have hD := zD_all h2 hKn.1
  have hcl11 := fun (idx k : Nat) (t : zt_T) (h : (idx, 11, k) ∈ gfX12) (hk : fsX12[k]? = some t) => zf_clause (ro := ro) (ms := []) h2 hown hKn.1 gfX12_ok (by decide +kernel) idx 11 k 11 0 fsX12 t h rfl hk
  have kp0 : zc_kept D RTg ro [] s.heap s.heap := zc_kept.refl
  obtain ⟨hjt, ⟨av, fv, bv, f29, f30, f31, hav, hfv, hbv⟩, hu⟩ := id hJ
  obtain ⟨tb, n, z, f12, r0, f13, hn, hc, hz⟩ := id hjt
  obtain ⟨n9, g9, n1, n2⟩ := zh_fT (k := 13) (t := (0, 0, 120)) hh ha (show RTg[11]? = some (0, 11, 0, fsX12) from rfl) rfl
  cases f13.symm.trans g9
  dsimp only at n1 n2
  clear g9
  obtain ⟨-, z9, c9, hy9⟩ := zh_arr hh r0 (show RTg[30]? = some (1, 2, 120, [(0, (-128), 127)]) from rfl)
  have hy : ∀ i, i < 120 → zt_ok ro (z i) (0, (-128), 127) := zs_arr (hc.symm.trans c9) hy9
  obtain ⟨u1, u2, u3, u4⟩ := id hu
  refine lv_aload_n hx hb (eX12_isGood (0, .aload_n 0, 1) (List.mem_of_getElem? (i := 0) rfl)) rfl (lv_at hl 0 rfl) ?_
  refine tz_get (r := 11) (k := 30) (t := (0, (-1), 120)) hx hb hh ha rfl rfl (hcl11 296 30 (0, (-1), 120) (by decide) rfl).1 f30 (eX12_isGood (1, .getfield 296, 3) (List.mem_of_getElem? (i := 1) rfl)) ?_
  refine ff_if_ge hx hb (eX12_isGood (4, .ifCond .ge 7, 3) (List.mem_of_getElem? (i := 2) rfl)) (tgt := 11) rfl (fun c1 => ?_) (fun c1 => ?_)
  · skip
    refine ff_iconst hx hb (eX12_isGood (11, .iconst 0, 1) (List.mem_of_getElem? (i := 5) rfl)) (by decide) (by decide) (fun v2 e2 => ?_)
    exact W.zret hx hb hr (zn_bool (by omega) (by omega)) (fun t ht hW => ⟨ht, _, rfl, by omega⟩) hh.2.2.1 (eX12_isGood (12, .ireturn, 1) (List.mem_of_getElem? (i := 6) rfl))
  · skip
    refine ff_iconst hx hb (eX12_isGood (7, .iconst 1, 1) (List.mem_of_getElem? (i := 3) rfl)) (by decide) (by decide) (fun v3 e3 => ?_)
    refine lv_goto hx hb (eX12_isGood (8, .goto 4, 3) (List.mem_of_getElem? (i := 4) rfl)) (tgt := 12) rfl ?_
    exact W.zret hx hb hr (zn_bool (by omega) (by omega)) (fun t ht hW => ⟨ht, _, rfl, by omega⟩) hh.2.2.1 (eX12_isGood (12, .ireturn, 1) (List.mem_of_getElem? (i := 6) rfl))
set_option maxRecDepth 100000 in
set_option maxHeartbeats 4000000 in
theorem hX12_fail (l : Launch) (D : va_G) (cA : Nat → ClassId) (ro : Nat → Option Nat) (sz : Nat) (H0 : Heap) (a : Nat)  (T : List Int) (sg : uS) (ha : ro a = some 11)  : Met l yX12_fail (gW yX12_fail cX12_fail 1 none) { frames := 0, cells := 0, slots := 0, locals := 0 } (zs_P D cA ro sz H0 (fun H => jV D cA ro H a T sg) [.ref a]) (kv_V D cA ro sz H0 vM a T (flG sg)) 0 0 (zy_fr sz) := by
  refine zy_ofW (cc := cX12_fail) (maxL := 1) (ret := none) (by decide +kernel) rfl ?_
  intro p e s m args below meth c s1 B hml hv
  obtain ⟨rfl, hh, hKn, hJ⟩ := hv
  have hx := B.exec
  have hb := B.bytes
  have hr := B.returns
  have hlk := B.notSynchronized
  have hts0 := atoms_spec (ws := gW yX12_fail cX12_fail 1 none) B.pre
  have h2 : ∀ w ∈ gT, w.before ([.ref a] : List Value).toArray s = true := fun w hw => hts0 w (List.mem_cons_of_mem _ hw)
  have hown : s.vm.findClass RX12 = some m.cls := findClass_of_methodNamed B.named
  have hl := lv_entry [.ref a] (n := 1) (Nat.le_of_ble_eq_true rfl)
  rw [lg_entry_eq]
  generalize (lg_sl [.ref a] ++ List.replicate (1 - (lg_sl [.ref a]).length) Slot.unset).toArray = ls at hl ⊢
  have hD := zD_all h2 hKn.1
  have hcl11 := fun (idx k : Nat) (t : zt_T) (h : (idx, 11, k) ∈ gfX12) (hk : fsX12[k]? = some t) => zf_clause (ro := ro) (ms := vM) h2 hown hKn.1 gfX12_ok (by decide +kernel) idx 11 k 11 0 fsX12 t h rfl hk
  have kp0 : zc_kept D RTg ro vM s.heap s.heap := zc_kept.refl
  obtain ⟨hjt, ⟨av, fv, bv, f29, f30, f31, hav, hfv, hbv⟩, hu⟩ := id hJ
  obtain ⟨tb, n, z, f12, r0, f13, hn, hc, hz⟩ := id hjt
  obtain ⟨n9, g9, n1, n2⟩ := zh_fT (k := 13) (t := (0, 0, 120)) hh ha (show RTg[11]? = some (0, 11, 0, fsX12) from rfl) rfl
  cases f13.symm.trans g9
  dsimp only at n1 n2
  clear g9
  obtain ⟨-, z9, c9, hy9⟩ := zh_arr hh r0 (show RTg[30]? = some (1, 2, 120, [(0, (-128), 127)]) from rfl)
  have hy : ∀ i, i < 120 → zt_ok ro (z i) (0, (-128), 127) := zs_arr (hc.symm.trans c9) hy9
  obtain ⟨u1, u2, u3, u4⟩ := id hu
  refine lv_aload_n hx hb (eX12_fail (0, .aload_n 0, 1) (List.mem_of_getElem? (i := 0) rfl)) rfl (lv_at hl 0 rfl) ?_
  refine lv_aload_n hx hb (eX12_fail (1, .aload_n 0, 1) (List.mem_of_getElem? (i := 1) rfl)) rfl (lv_at hl 0 rfl) ?_
  refine tz_get (r := 11) (k := 30) (t := (0, (-1), 120)) hx hb hh ha rfl rfl (hcl11 296 30 (0, (-1), 120) (by decide) rfl).1 f30 (eX12_fail (2, .getfield 296, 3) (List.mem_of_getElem? (i := 2) rfl)) ?_
  refine ff_if_ge hx hb (eX12_fail (5, .ifCond .ge 10, 3) (List.mem_of_getElem? (i := 3) rfl)) (tgt := 15) rfl (fun c1 => ?_) (fun c1 => ?_)
  · skip
    refine lv_aload_n hx hb (eX12_fail (15, .aload_n 0, 1) (List.mem_of_getElem? (i := 7) rfl)) rfl (lv_at hl 0 rfl) ?_
    refine tz_get (r := 11) (k := 30) (t := (0, (-1), 120)) hx hb hh ha rfl rfl (hcl11 296 30 (0, (-1), 120) (by decide) rfl).1 f30 (eX12_fail (16, .getfield 296, 3) (List.mem_of_getElem? (i := 8) rfl)) ?_
    refine tz_put (r := 11) (k := 30) (t := (0, (-1), 120)) hx hb hD hh ha rfl rfl ((hcl11 296 30 (0, (-1), 120) (by decide) rfl).2 (by decide)) (tz_i (by omega) (by omega)) (eX12_fail (19, .putfield 296, 3) (List.mem_of_getElem? (i := 9) rfl)) (fun H2 lo2 hh2 hf2 hk2 _ hq2 => ?_)
    have mf2_a_12 := (hk2.1 a 11 12 11 0 fsX12 ha rfl (by decide) (by decide)).trans f12
    have mf2_a_13 := (hk2.1 a 11 13 11 0 fsX12 ha rfl (by decide) (by decide)).trans f13
    have mf2_a_29 := (hk2.1 a 11 29 11 0 fsX12 ha rfl (by decide) (by decide)).trans f29
    have mf2_a_31 := (hk2.1 a 11 31 11 0 fsX12 ha rfl (by decide) (by decide)).trans f31
    have mc2_tb := (hk2.2 tb 30 0 2 120 _ r0 rfl (by decide)).trans hc
    have kp2 := kp0.trans (hk2.mono (ms' := vM) (fun x hx => by cases List.mem_singleton.mp hx; decide))
    have jm2 := (hJ.1).kept ha hk2 (by decide) (by decide) (by decide)
    have hfin : flG sg = flG sg := rfl
    exact W.vret hx hb hr (fun t ht hW => ⟨rfl, by rw [ht]; exact hh2.l0, by rw [ht]; exact kp2, by rw [ht, hfin]; exact ⟨jm2, ⟨_, _, _, mf2_a_29, hf2, mf2_a_31, hav, by unfold flG; dsimp only; split <;> omega, hbv⟩, flG_ok hu⟩⟩) hh2.2.2.1 (eX12_fail (22, .return_, 1) (List.mem_of_getElem? (i := 10) rfl))
  · skip
    refine lv_aload_n hx hb (eX12_fail (8, .aload_n 0, 1) (List.mem_of_getElem? (i := 4) rfl)) rfl (lv_at hl 0 rfl) ?_
    refine tz_get (r := 11) (k := 29) (t := (0, 0, 120)) hx hb hh ha rfl rfl (hcl11 293 29 (0, 0, 120) (by decide) rfl).1 f29 (eX12_fail (9, .getfield 293, 3) (List.mem_of_getElem? (i := 5) rfl)) ?_
    refine lv_goto hx hb (eX12_fail (12, .goto 7, 3) (List.mem_of_getElem? (i := 6) rfl)) (tgt := 19) rfl ?_
    refine tz_put (r := 11) (k := 30) (t := (0, (-1), 120)) hx hb hD hh ha rfl rfl ((hcl11 296 30 (0, (-1), 120) (by decide) rfl).2 (by decide)) (tz_i (by omega) (by omega)) (eX12_fail (19, .putfield 296, 3) (List.mem_of_getElem? (i := 9) rfl)) (fun H3 lo3 hh3 hf3 hk3 _ hq3 => ?_)
    have mf3_a_12 := (hk3.1 a 11 12 11 0 fsX12 ha rfl (by decide) (by decide)).trans f12
    have mf3_a_13 := (hk3.1 a 11 13 11 0 fsX12 ha rfl (by decide) (by decide)).trans f13
    have mf3_a_29 := (hk3.1 a 11 29 11 0 fsX12 ha rfl (by decide) (by decide)).trans f29
    have mf3_a_31 := (hk3.1 a 11 31 11 0 fsX12 ha rfl (by decide) (by decide)).trans f31
    have mc3_tb := (hk3.2 tb 30 0 2 120 _ r0 rfl (by decide)).trans hc
    have kp3 := kp0.trans (hk3.mono (ms' := vM) (fun x hx => by cases List.mem_singleton.mp hx; decide))
    have jm3 := (hJ.1).kept ha hk3 (by decide) (by decide) (by decide)
    have hfin : flG sg = flG sg := rfl
    exact W.vret hx hb hr (fun t ht hW => ⟨rfl, by rw [ht]; exact hh3.l0, by rw [ht]; exact kp3, by rw [ht, hfin]; exact ⟨jm3, ⟨_, _, _, mf3_a_29, hf3, mf3_a_31, hav, by unfold flG; dsimp only; split <;> omega, hbv⟩, flG_ok hu⟩⟩) hh3.2.2.1 (eX12_fail (22, .return_, 1) (List.mem_of_getElem? (i := 10) rfl))
set_option maxRecDepth 100000 in
set_option maxHeartbeats 4000000 in
theorem hX12_bad (l : Launch) (D : va_G) (cA : Nat → ClassId) (ro : Nat → Option Nat) (sz : Nat) (H0 : Heap) (a : Nat) (p0 : Int32) (k0 : Int) (T : List Int) (sg : uS) (ha : ro a = some 11) (hk0 : p0.toInt = k0) : Met l yX12_bad (gW yX12_bad cX12_bad 2 none) { frames := 0, cells := 0, slots := 0, locals := 0 } (zs_P D cA ro sz H0 (fun H => jV D cA ro H a T sg) [.ref a, .int p0]) (kv_V D cA ro sz H0 vM a T (bdG k0 sg)) 0 0 (zy_fr sz) := by
  refine zy_ofW (cc := cX12_bad) (maxL := 2) (ret := none) (by decide +kernel) rfl ?_
  intro p e s m args below meth c s1 B hml hv
  obtain ⟨rfl, hh, hKn, hJ⟩ := hv
  have hx := B.exec
  have hb := B.bytes
  have hr := B.returns
  have hlk := B.notSynchronized
  have hts0 := atoms_spec (ws := gW yX12_bad cX12_bad 2 none) B.pre
  have h2 : ∀ w ∈ gT, w.before ([.ref a, .int p0] : List Value).toArray s = true := fun w hw => hts0 w (List.mem_cons_of_mem _ hw)
  have hown : s.vm.findClass RX12 = some m.cls := findClass_of_methodNamed B.named
  have hl := lv_entry [.ref a, .int p0] (n := 2) (Nat.le_of_ble_eq_true rfl)
  rw [lg_entry_eq]
  generalize (lg_sl [.ref a, .int p0] ++ List.replicate (2 - (lg_sl [.ref a, .int p0]).length) Slot.unset).toArray = ls at hl ⊢
  have b_p0 := zn_i32 p0
  have hD := zD_all h2 hKn.1
  have hcl11 := fun (idx k : Nat) (t : zt_T) (h : (idx, 11, k) ∈ gfX12) (hk : fsX12[k]? = some t) => zf_clause (ro := ro) (ms := vM) h2 hown hKn.1 gfX12_ok (by decide +kernel) idx 11 k 11 0 fsX12 t h rfl hk
  have kp0 : zc_kept D RTg ro vM s.heap s.heap := zc_kept.refl
  obtain ⟨hjt, ⟨av, fv, bv, f29, f30, f31, hav, hfv, hbv⟩, hu⟩ := id hJ
  obtain ⟨tb, n, z, f12, r0, f13, hn, hc, hz⟩ := id hjt
  obtain ⟨n9, g9, n1, n2⟩ := zh_fT (k := 13) (t := (0, 0, 120)) hh ha (show RTg[11]? = some (0, 11, 0, fsX12) from rfl) rfl
  cases f13.symm.trans g9
  dsimp only at n1 n2
  clear g9
  obtain ⟨-, z9, c9, hy9⟩ := zh_arr hh r0 (show RTg[30]? = some (1, 2, 120, [(0, (-128), 127)]) from rfl)
  have hy : ∀ i, i < 120 → zt_ok ro (z i) (0, (-128), 127) := zs_arr (hc.symm.trans c9) hy9
  obtain ⟨u1, u2, u3, u4⟩ := id hu
  refine lv_aload_n hx hb (eX12_bad (0, .aload_n 0, 1) (List.mem_of_getElem? (i := 0) rfl)) rfl (lv_at hl 0 rfl) ?_
  refine lv_iload_n hx hb (eX12_bad (1, .iload_n 1, 1) (List.mem_of_getElem? (i := 1) rfl)) rfl (lv_at hl 1 rfl) ?_
  refine lv_aload_n hx hb (eX12_bad (2, .aload_n 0, 1) (List.mem_of_getElem? (i := 2) rfl)) rfl (lv_at hl 0 rfl) ?_
  refine tz_get (r := 11) (k := 31) (t := (0, (-2147483648), 2147483647)) hx hb hh ha rfl rfl (hcl11 299 31 (0, (-2147483648), 2147483647) (by decide) rfl).1 f31 (eX12_bad (3, .getfield 299, 3) (List.mem_of_getElem? (i := 3) rfl)) ?_
  refine ff_icmp_ge hx hb (eX12_bad (6, .if_icmp .ge 7, 3) (List.mem_of_getElem? (i := 4) rfl)) (tgt := 13) rfl (fun c1 => ?_) (fun c1 => ?_)
  · skip
    refine lv_aload_n hx hb (eX12_bad (13, .aload_n 0, 1) (List.mem_of_getElem? (i := 7) rfl)) rfl (lv_at hl 0 rfl) ?_
    refine tz_get (r := 11) (k := 31) (t := (0, (-2147483648), 2147483647)) hx hb hh ha rfl rfl (hcl11 299 31 (0, (-2147483648), 2147483647) (by decide) rfl).1 f31 (eX12_bad (14, .getfield 299, 3) (List.mem_of_getElem? (i := 8) rfl)) ?_
    refine tz_put (r := 11) (k := 31) (t := (0, (-2147483648), 2147483647)) hx hb hD hh ha rfl rfl ((hcl11 299 31 (0, (-2147483648), 2147483647) (by decide) rfl).2 (by decide)) (tz_i (zn_i32 _).1 (zn_i32 _).2) (eX12_bad (17, .putfield 299, 3) (List.mem_of_getElem? (i := 9) rfl)) (fun H2 lo2 hh2 hf2 hk2 _ hq2 => ?_)
    have mf2_a_12 := (hk2.1 a 11 12 11 0 fsX12 ha rfl (by decide) (by decide)).trans f12
    have mf2_a_13 := (hk2.1 a 11 13 11 0 fsX12 ha rfl (by decide) (by decide)).trans f13
    have mf2_a_29 := (hk2.1 a 11 29 11 0 fsX12 ha rfl (by decide) (by decide)).trans f29
    have mf2_a_30 := (hk2.1 a 11 30 11 0 fsX12 ha rfl (by decide) (by decide)).trans f30
    have mc2_tb := (hk2.2 tb 30 0 2 120 _ r0 rfl (by decide)).trans hc
    have kp2 := kp0.trans (hk2.mono (ms' := vM) (fun x hx => by cases List.mem_singleton.mp hx; decide))
    have jm2 := (hJ.1).kept ha hk2 (by decide) (by decide) (by decide)
    have hfin : bdG k0 sg = bdG k0 sg := rfl
    exact W.vret hx hb hr (fun t ht hW => ⟨rfl, by rw [ht]; exact hh2.l0, by rw [ht]; exact kp2, by rw [ht, hfin]; exact ⟨jm2, ⟨_, _, _, mf2_a_29, mf2_a_30, hf2, hav, hfv, by unfold bdG; dsimp only; split <;> omega⟩, bdG_ok hu⟩⟩) hh2.2.2.1 (eX12_bad (20, .return_, 1) (List.mem_of_getElem? (i := 10) rfl))
  · skip
    refine lv_iload_n hx hb (eX12_bad (9, .iload_n 1, 1) (List.mem_of_getElem? (i := 5) rfl)) rfl (lv_at hl 1 rfl) ?_
    refine lv_goto hx hb (eX12_bad (10, .goto 7, 3) (List.mem_of_getElem? (i := 6) rfl)) (tgt := 17) rfl ?_
    refine tz_put (r := 11) (k := 31) (t := (0, (-2147483648), 2147483647)) hx hb hD hh ha rfl rfl ((hcl11 299 31 (0, (-2147483648), 2147483647) (by decide) rfl).2 (by decide)) (tz_i (zn_i32 _).1 (zn_i32 _).2) (eX12_bad (17, .putfield 299, 3) (List.mem_of_getElem? (i := 9) rfl)) (fun H3 lo3 hh3 hf3 hk3 _ hq3 => ?_)
    have mf3_a_12 := (hk3.1 a 11 12 11 0 fsX12 ha rfl (by decide) (by decide)).trans f12
    have mf3_a_13 := (hk3.1 a 11 13 11 0 fsX12 ha rfl (by decide) (by decide)).trans f13
    have mf3_a_29 := (hk3.1 a 11 29 11 0 fsX12 ha rfl (by decide) (by decide)).trans f29
    have mf3_a_30 := (hk3.1 a 11 30 11 0 fsX12 ha rfl (by decide) (by decide)).trans f30
    have mc3_tb := (hk3.2 tb 30 0 2 120 _ r0 rfl (by decide)).trans hc
    have kp3 := kp0.trans (hk3.mono (ms' := vM) (fun x hx => by cases List.mem_singleton.mp hx; decide))
    have jm3 := (hJ.1).kept ha hk3 (by decide) (by decide) (by decide)
    have hfin : bdG k0 sg = bdG k0 sg := rfl
    exact W.vret hx hb hr (fun t ht hW => ⟨rfl, by rw [ht]; exact hh3.l0, by rw [ht]; exact kp3, by rw [ht, hfin]; exact ⟨jm3, ⟨_, _, _, mf3_a_29, mf3_a_30, hf3, hav, hfv, by unfold bdG; dsimp only; split <;> omega⟩, bdG_ok hu⟩⟩) hh3.2.2.1 (eX12_bad (20, .return_, 1) (List.mem_of_getElem? (i := 10) rfl))
set_option maxRecDepth 100000 in
set_option maxHeartbeats 4000000 in
theorem hX12_takes (l : Launch) (D : va_G) (cA : Nat → ClassId) (ro : Nat → Option Nat) (sz : Nat) (H0 : Heap) (a : Nat) (c0 : Int32) (k0 : Int) (T : List Int) (sg : uS) (ha : ro a = some 11) (hk0 : c0.toInt = k0) (hk1 : 0 ≤ k0) : Met l yX12_takes (gW yX12_takes cX12_takes 3 (some .boolean)) { frames := 1, cells := 0, slots := 0, locals := 20 } (zs_P D cA ro sz H0 (fun H => jV D cA ro H a T sg) [.ref a, .int c0]) (kv_Q D cA ro sz H0 vM a T (tkG T k0 sg)) 0 0 (zy_fr sz) := by
  refine zy_ofW (cc := cX12_takes) (maxL := 3) (ret := (some .boolean)) (by decide +kernel) rfl ?_
  intro p e s m args below meth c s1 B hml hv
  obtain ⟨rfl, hh, hKn, hJ⟩ := hv
  have hx := B.exec
  have hb := B.bytes
  have hr := B.returns
  have hlk := B.notSynchronized
  have hts0 := atoms_spec (ws := gW yX12_takes cX12_takes 3 (some .boolean)) B.pre
  have h2 : ∀ w ∈ gT, w.before ([.ref a, .int c0] : List Value).toArray s = true := fun w hw => hts0 w (List.mem_cons_of_mem _ hw)
  have hown : s.vm.findClass RX12 = some m.cls := findClass_of_methodNamed B.named
  have hl := lv_entry [.ref a, .int c0] (n := 3) (Nat.le_of_ble_eq_true rfl)
  rw [lg_entry_eq]
  generalize (lg_sl [.ref a, .int c0] ++ List.replicate (3 - (lg_sl [.ref a, .int c0]).length) Slot.unset).toArray = ls at hl ⊢
  have b_c0 := zn_i32 c0
  have hD := zD_all h2 hKn.1
  have hcl11 := fun (idx k : Nat) (t : zt_T) (h : (idx, 11, k) ∈ gfX12) (hk : fsX12[k]? = some t) => zf_clause (ro := ro) (ms := vM) h2 hown hKn.1 gfX12_ok (by decide +kernel) idx 11 k 11 0 fsX12 t h rfl hk
  have kp0 : zc_kept D RTg ro vM s.heap s.heap := zc_kept.refl
  obtain ⟨hjt, ⟨av, fv, bv, f29, f30, f31, hav, hfv, hbv⟩, hu⟩ := id hJ
  obtain ⟨tb, n, z, f12, r0, f13, hn, hc, hz⟩ := id hjt
  obtain ⟨n9, g9, n1, n2⟩ := zh_fT (k := 13) (t := (0, 0, 120)) hh ha (show RTg[11]? = some (0, 11, 0, fsX12) from rfl) rfl
  cases f13.symm.trans g9
  dsimp only at n1 n2
  clear g9
  obtain ⟨-, z9, c9, hy9⟩ := zh_arr hh r0 (show RTg[30]? = some (1, 2, 120, [(0, (-128), 127)]) from rfl)
  have hy : ∀ i, i < 120 → zt_ok ro (z i) (0, (-128), 127) := zs_arr (hc.symm.trans c9) hy9
  obtain ⟨u1, u2, u3, u4⟩ := id hu
  refine lv_aload_n hx hb (eX12_takes (0, .aload_n 0, 1) (List.mem_of_getElem? (i := 0) rfl)) rfl (lv_at hl 0 rfl) ?_
  refine tz_rowV (As := []) (st := []) (b := a) (C := RX12) (Ts := gT) hx hb hml hown h2 (fun _ h => h) (hX12_isGood l D cA ro sz H0 a T (sg) ha) ⟨rfl, rfl⟩ ⟨by decide, by decide⟩ ⟨by decide, by decide⟩ (tb_8 17 rfl rfl) (tb_1 12 rfl rfl) (tb_8 14 rfl rfl) (tb_8 16 rfl rfl) (tb_0 31 rfl rfl) (show yX12_isGood.cls ≠ "java/lang/invoke/MethodHandle" ∧ yX12_isGood.cls ≠ "java/lang/invoke/VarHandle" ∧ (parseMethodDescriptor yX12_isGood.desc).map (fun d => d.parameters.length) = some 0 by decide +kernel) zs_blind (zs_ob hh ha (show RTg[11]? = some (0, 11, 0, fsX12) from rfl) (zCX12 hKn.1)) (fun U hU hW => ⟨rfl, by rw [hU]; exact hh.l0, zKb s U hW.alike hKn, by rw [hU]; exact hJ⟩) hh.2.2.1 hl.1 (Nat.le_of_ble_eq_true rfl) (eX12_takes (1, .invokevirtual 305, 3) (List.mem_of_getElem? (i := 1) rfl)) (fun r1 s1 t1 lo1 g1 f1 l1 => ?_)
  obtain ⟨z1, v1, q1, e1⟩ := f1
  cases q1
  rw [z1, g1]
  have hh1 : zh_ok D cA RTg ro sz H0 s.heap lo1 := ⟨hh.1, hh.2.1, l1, hh.2.2.2⟩
  refine W.eq (g2 := F0 m 4 ls [.int v1]) rfl ?_
  refine ff_if_eq hx hb (eX12_takes (4, .ifCond .eq 15, 3) (List.mem_of_getElem? (i := 2) rfl)) (tgt := 19) rfl (fun c2 => ?_) (fun c2 => ?_)
  · skip
    refine ff_iconst hx hb (eX12_takes (19, .iconst 0, 1) (List.mem_of_getElem? (i := 9) rfl)) (by decide) (by decide) (fun v3 e3 => ?_)
    refine lv_istore_n hx hb (eX12_takes (20, .istore_n 2, 1) (List.mem_of_getElem? (i := 10) rfl)) rfl hl (by decide) rfl (fun ls4 hl4 => ?_)
    refine lv_aload_n hx hb (eX12_takes (21, .aload_n 0, 1) (List.mem_of_getElem? (i := 11) rfl)) rfl (lv_at hl4 1 rfl) ?_
    refine lv_dup hx hb (eX12_takes (22, .dup, 1) (List.mem_of_getElem? (i := 12) rfl)) rfl ?_
    refine tz_get (r := 11) (k := 29) (t := (0, 0, 120)) hx hb hh1 ha rfl rfl (hcl11 293 29 (0, 0, 120) (by decide) rfl).1 f29 (eX12_takes (23, .getfield 293, 3) (List.mem_of_getElem? (i := 13) rfl)) ?_
    refine lv_iload_n hx hb (eX12_takes (26, .iload_n 2, 1) (List.mem_of_getElem? (i := 14) rfl)) rfl (lv_at hl4 0 rfl) ?_
    refine ff_if_eq hx hb (eX12_takes (27, .ifCond .eq 7, 3) (List.mem_of_getElem? (i := 15) rfl)) (tgt := 34) rfl (fun c5 => ?_) (fun c5 => (by exfalso; omega))
    refine ff_iconst hx hb (eX12_takes (34, .iconst 0, 1) (List.mem_of_getElem? (i := 18) rfl)) (by decide) (by decide) (fun v6 e6 => ?_)
    refine ff_iadd hx hb (eX12_takes (35, .iadd, 1) (List.mem_of_getElem? (i := 19) rfl)) (by omega) (by omega) (fun v7 e7 => ?_)
    have hlt8 : 0 ≤ v7.toInt ∧ v7.toInt ≤ 120 := by first | omega | (have h9 := byI_lt (T := T) (a := sg.1) (by omega) (by first | omega | exact isD_nn hdg | exact isN_nn hN); omega)
    refine tz_put (r := 11) (k := 29) (t := (0, 0, 120)) hx hb hD hh1 ha rfl rfl ((hcl11 293 29 (0, 0, 120) (by decide) rfl).2 (by decide)) (tz_i (by omega) (by omega)) (eX12_takes (36, .putfield 293, 3) (List.mem_of_getElem? (i := 20) rfl)) (fun H9 lo9 hh9 hf9 hk9 _ hq9 => ?_)
    have mf9_a_12 := (hk9.1 a 11 12 11 0 fsX12 ha rfl (by decide) (by decide)).trans f12
    have mf9_a_13 := (hk9.1 a 11 13 11 0 fsX12 ha rfl (by decide) (by decide)).trans f13
    have mf9_a_30 := (hk9.1 a 11 30 11 0 fsX12 ha rfl (by decide) (by decide)).trans f30
    have mf9_a_31 := (hk9.1 a 11 31 11 0 fsX12 ha rfl (by decide) (by decide)).trans f31
    have mc9_tb := (hk9.2 tb 30 0 2 120 _ r0 rfl (by decide)).trans hc
    have kp9 := kp0.trans (hk9.mono (ms' := vM) (fun x hx => by cases List.mem_singleton.mp hx; decide))
    have jm9 := (hJ.1).kept ha hk9 (by decide) (by decide) (by decide)
    refine lv_iload_n hx hb (eX12_takes (39, .iload_n 2, 1) (List.mem_of_getElem? (i := 21) rfl)) rfl (lv_at hl4 0 rfl) ?_
    have hfin : tkG T k0 sg = (0, sg) := by unfold tkG; rw [if_neg (by omega)]
    exact W.zret hx hb hr (zn_bool (by omega) (by omega)) (fun t ht hW => ⟨_, rfl, by rw [hfin] <;> exact by show _ = (0 : Int); omega, by rw [ht]; exact hh9.l0, by rw [ht]; exact kp9, by rw [ht, hfin]; exact ⟨jm9, ⟨_, _, _, hf9, mf9_a_30, mf9_a_31, by show _ = sg.1; omega, hfv, hbv⟩, hu⟩⟩) hh9.2.2.1 (eX12_takes (40, .ireturn, 1) (List.mem_of_getElem? (i := 22) rfl))
  · skip
    refine lv_aload_n hx hb (eX12_takes (7, .aload_n 0, 1) (List.mem_of_getElem? (i := 3) rfl)) rfl (lv_at hl 0 rfl) ?_
    refine tz_rowV (As := []) (st := []) (b := a) (C := RX12) (Ts := gT) hx hb hml hown h2 (fun _ h => h) (hX12_sign l D cA ro sz H0 a T (sg) ha) ⟨rfl, rfl⟩ ⟨by decide, by decide⟩ ⟨by decide, by decide⟩ (tb_8 21 rfl rfl) (tb_1 12 rfl rfl) (tb_8 18 rfl rfl) (tb_8 20 rfl rfl) (tb_0 32 rfl rfl) (show yX12_sign.cls ≠ "java/lang/invoke/MethodHandle" ∧ yX12_sign.cls ≠ "java/lang/invoke/VarHandle" ∧ (parseMethodDescriptor yX12_sign.desc).map (fun d => d.parameters.length) = some 0 by decide +kernel) zs_blind (zs_ob hh1 ha (show RTg[11]? = some (0, 11, 0, fsX12) from rfl) (zCX12 hKn.1)) (fun U hU hW => ⟨rfl, by rw [hU]; exact hh1.l0, zKb s U hW.alike hKn, by rw [hU]; exact hJ⟩) hh1.2.2.1 hl.1 (Nat.le_of_ble_eq_true rfl) (eX12_takes (8, .invokevirtual 309, 3) (List.mem_of_getElem? (i := 4) rfl)) (fun r10 s10 t10 lo10 g10 f10 l10 => ?_)
    obtain ⟨z10, v10, q10, e10⟩ := f10
    cases q10
    rw [z10, g10]
    have hh10 : zh_ok D cA RTg ro sz H0 s.heap lo10 := ⟨hh1.1, hh1.2.1, l10, hh1.2.2.2⟩
    refine W.eq (g2 := F0 m 11 ls [.int v10]) rfl ?_
    refine lv_iload_n hx hb (eX12_takes (11, .iload_n 1, 1) (List.mem_of_getElem? (i := 5) rfl)) rfl (lv_at hl 1 rfl) ?_
    refine ff_icmp_ne hx hb (eX12_takes (12, .if_icmp .ne 7, 3) (List.mem_of_getElem? (i := 6) rfl)) (tgt := 19) rfl (fun c11 => ?_) (fun c11 => ?_)
    · skip
      refine ff_iconst hx hb (eX12_takes (19, .iconst 0, 1) (List.mem_of_getElem? (i := 9) rfl)) (by decide) (by decide) (fun v12 e12 => ?_)
      refine lv_istore_n hx hb (eX12_takes (20, .istore_n 2, 1) (List.mem_of_getElem? (i := 10) rfl)) rfl hl (by decide) rfl (fun ls13 hl13 => ?_)
      refine lv_aload_n hx hb (eX12_takes (21, .aload_n 0, 1) (List.mem_of_getElem? (i := 11) rfl)) rfl (lv_at hl13 1 rfl) ?_
      refine lv_dup hx hb (eX12_takes (22, .dup, 1) (List.mem_of_getElem? (i := 12) rfl)) rfl ?_
      refine tz_get (r := 11) (k := 29) (t := (0, 0, 120)) hx hb hh10 ha rfl rfl (hcl11 293 29 (0, 0, 120) (by decide) rfl).1 f29 (eX12_takes (23, .getfield 293, 3) (List.mem_of_getElem? (i := 13) rfl)) ?_
      refine lv_iload_n hx hb (eX12_takes (26, .iload_n 2, 1) (List.mem_of_getElem? (i := 14) rfl)) rfl (lv_at hl13 0 rfl) ?_
      refine ff_if_eq hx hb (eX12_takes (27, .ifCond .eq 7, 3) (List.mem_of_getElem? (i := 15) rfl)) (tgt := 34) rfl (fun c14 => ?_) (fun c14 => (by exfalso; omega))
      refine ff_iconst hx hb (eX12_takes (34, .iconst 0, 1) (List.mem_of_getElem? (i := 18) rfl)) (by decide) (by decide) (fun v15 e15 => ?_)
      refine ff_iadd hx hb (eX12_takes (35, .iadd, 1) (List.mem_of_getElem? (i := 19) rfl)) (by omega) (by omega) (fun v16 e16 => ?_)
      have hlt17 : 0 ≤ v16.toInt ∧ v16.toInt ≤ 120 := by first | omega | (have h9 := byI_lt (T := T) (a := sg.1) (by omega) (by first | omega | exact isD_nn hdg | exact isN_nn hN); omega)
      refine tz_put (r := 11) (k := 29) (t := (0, 0, 120)) hx hb hD hh10 ha rfl rfl ((hcl11 293 29 (0, 0, 120) (by decide) rfl).2 (by decide)) (tz_i (by omega) (by omega)) (eX12_takes (36, .putfield 293, 3) (List.mem_of_getElem? (i := 20) rfl)) (fun H18 lo18 hh18 hf18 hk18 _ hq18 => ?_)
      have mf18_a_12 := (hk18.1 a 11 12 11 0 fsX12 ha rfl (by decide) (by decide)).trans f12
      have mf18_a_13 := (hk18.1 a 11 13 11 0 fsX12 ha rfl (by decide) (by decide)).trans f13
      have mf18_a_30 := (hk18.1 a 11 30 11 0 fsX12 ha rfl (by decide) (by decide)).trans f30
      have mf18_a_31 := (hk18.1 a 11 31 11 0 fsX12 ha rfl (by decide) (by decide)).trans f31
      have mc18_tb := (hk18.2 tb 30 0 2 120 _ r0 rfl (by decide)).trans hc
      have kp18 := kp0.trans (hk18.mono (ms' := vM) (fun x hx => by cases List.mem_singleton.mp hx; decide))
      have jm18 := (hJ.1).kept ha hk18 (by decide) (by decide) (by decide)
      refine lv_iload_n hx hb (eX12_takes (39, .iload_n 2, 1) (List.mem_of_getElem? (i := 21) rfl)) rfl (lv_at hl13 0 rfl) ?_
      have hfin : tkG T k0 sg = (0, sg) := by unfold tkG; rw [if_neg (by omega)]
      exact W.zret hx hb hr (zn_bool (by omega) (by omega)) (fun t ht hW => ⟨_, rfl, by rw [hfin] <;> exact by show _ = (0 : Int); omega, by rw [ht]; exact hh18.l0, by rw [ht]; exact kp18, by rw [ht, hfin]; exact ⟨jm18, ⟨_, _, _, hf18, mf18_a_30, mf18_a_31, by show _ = sg.1; omega, hfv, hbv⟩, hu⟩⟩) hh18.2.2.1 (eX12_takes (40, .ireturn, 1) (List.mem_of_getElem? (i := 22) rfl))
    · skip
      refine ff_iconst hx hb (eX12_takes (15, .iconst 1, 1) (List.mem_of_getElem? (i := 7) rfl)) (by decide) (by decide) (fun v19 e19 => ?_)
      refine lv_goto hx hb (eX12_takes (16, .goto 4, 3) (List.mem_of_getElem? (i := 8) rfl)) (tgt := 20) rfl ?_
      refine lv_istore_n hx hb (eX12_takes (20, .istore_n 2, 1) (List.mem_of_getElem? (i := 10) rfl)) rfl hl (by decide) rfl (fun ls20 hl20 => ?_)
      refine lv_aload_n hx hb (eX12_takes (21, .aload_n 0, 1) (List.mem_of_getElem? (i := 11) rfl)) rfl (lv_at hl20 1 rfl) ?_
      refine lv_dup hx hb (eX12_takes (22, .dup, 1) (List.mem_of_getElem? (i := 12) rfl)) rfl ?_
      refine tz_get (r := 11) (k := 29) (t := (0, 0, 120)) hx hb hh10 ha rfl rfl (hcl11 293 29 (0, 0, 120) (by decide) rfl).1 f29 (eX12_takes (23, .getfield 293, 3) (List.mem_of_getElem? (i := 13) rfl)) ?_
      refine lv_iload_n hx hb (eX12_takes (26, .iload_n 2, 1) (List.mem_of_getElem? (i := 14) rfl)) rfl (lv_at hl20 0 rfl) ?_
      refine ff_if_eq hx hb (eX12_takes (27, .ifCond .eq 7, 3) (List.mem_of_getElem? (i := 15) rfl)) (tgt := 34) rfl (fun c21 => (by exfalso; omega)) (fun c21 => ?_)
      refine ff_iconst hx hb (eX12_takes (30, .iconst 1, 1) (List.mem_of_getElem? (i := 16) rfl)) (by decide) (by decide) (fun v22 e22 => ?_)
      refine lv_goto hx hb (eX12_takes (31, .goto 4, 3) (List.mem_of_getElem? (i := 17) rfl)) (tgt := 35) rfl ?_
      refine ff_iadd hx hb (eX12_takes (35, .iadd, 1) (List.mem_of_getElem? (i := 19) rfl)) (by omega) (by omega) (fun v23 e23 => ?_)
      have hlt24 : 0 ≤ v23.toInt ∧ v23.toInt ≤ 120 := by first | omega | (have h9 := byI_lt (T := T) (a := sg.1) (by omega) (by first | omega | exact isD_nn hdg | exact isN_nn hN); omega)
      refine tz_put (r := 11) (k := 29) (t := (0, 0, 120)) hx hb hD hh10 ha rfl rfl ((hcl11 293 29 (0, 0, 120) (by decide) rfl).2 (by decide)) (tz_i (by omega) (by omega)) (eX12_takes (36, .putfield 293, 3) (List.mem_of_getElem? (i := 20) rfl)) (fun H25 lo25 hh25 hf25 hk25 _ hq25 => ?_)
      have mf25_a_12 := (hk25.1 a 11 12 11 0 fsX12 ha rfl (by decide) (by decide)).trans f12
      have mf25_a_13 := (hk25.1 a 11 13 11 0 fsX12 ha rfl (by decide) (by decide)).trans f13
      have mf25_a_30 := (hk25.1 a 11 30 11 0 fsX12 ha rfl (by decide) (by decide)).trans f30
      have mf25_a_31 := (hk25.1 a 11 31 11 0 fsX12 ha rfl (by decide) (by decide)).trans f31
      have mc25_tb := (hk25.2 tb 30 0 2 120 _ r0 rfl (by decide)).trans hc
      have kp25 := kp0.trans (hk25.mono (ms' := vM) (fun x hx => by cases List.mem_singleton.mp hx; decide))
      have jm25 := (hJ.1).kept ha hk25 (by decide) (by decide) (by decide)
      refine lv_iload_n hx hb (eX12_takes (39, .iload_n 2, 1) (List.mem_of_getElem? (i := 21) rfl)) rfl (lv_at hl20 0 rfl) ?_
      have hfin : tkG T k0 sg = (1, (sg.1 + 1, sg.2)) := by unfold tkG; rw [if_pos (by omega)]
      exact W.zret hx hb hr (zn_bool (by omega) (by omega)) (fun t ht hW => ⟨_, rfl, by rw [hfin] <;> exact by show _ = (1 : Int); omega, by rw [ht]; exact hh25.l0, by rw [ht]; exact kp25, by rw [ht, hfin]; exact ⟨jm25, ⟨_, _, _, hf25, mf25_a_30, mf25_a_31, by show _ = sg.1 + 1; omega, hfv, hbv⟩, adG_ok hu (by omega)⟩⟩) hh25.2.2.1 (eX12_takes (40, .ireturn, 1) (List.mem_of_getElem? (i := 22) rfl))
set_option maxRecDepth 100000 in
set_option maxHeartbeats 4000000 in
theorem hX12_expect (l : Launch) (D : va_G) (cA : Nat → ClassId) (ro : Nat → Option Nat) (sz : Nat) (H0 : Heap) (a : Nat) (c0 : Int32) (k0 : Int) (T : List Int) (sg : uS) (ha : ro a = some 11) (hk0 : c0.toInt = k0) (hk1 : 0 ≤ k0) : Met l yX12_expect (gW yX12_expect cX12_expect 2 none) { frames := 2, cells := 0, slots := 0, locals := 42 } (zs_P D cA ro sz H0 (fun H => jV D cA ro H a T sg) [.ref a, .int c0]) (kv_V D cA ro sz H0 vM a T (exG T k0 sg)) 0 0 (zy_fr sz) := by
  refine zy_ofW (cc := cX12_expect) (maxL := 2) (ret := none) (by decide +kernel) rfl ?_
  intro p e s m args below meth c s1 B hml hv
  obtain ⟨rfl, hh, hKn, hJ⟩ := hv
  have hx := B.exec
  have hb := B.bytes
  have hr := B.returns
  have hlk := B.notSynchronized
  have hts0 := atoms_spec (ws := gW yX12_expect cX12_expect 2 none) B.pre
  have h2 : ∀ w ∈ gT, w.before ([.ref a, .int c0] : List Value).toArray s = true := fun w hw => hts0 w (List.mem_cons_of_mem _ hw)
  have hown : s.vm.findClass RX12 = some m.cls := findClass_of_methodNamed B.named
  have hl := lv_entry [.ref a, .int c0] (n := 2) (Nat.le_of_ble_eq_true rfl)
  rw [lg_entry_eq]
  generalize (lg_sl [.ref a, .int c0] ++ List.replicate (2 - (lg_sl [.ref a, .int c0]).length) Slot.unset).toArray = ls at hl ⊢
  have b_c0 := zn_i32 c0
  have hD := zD_all h2 hKn.1
  have hcl11 := fun (idx k : Nat) (t : zt_T) (h : (idx, 11, k) ∈ gfX12) (hk : fsX12[k]? = some t) => zf_clause (ro := ro) (ms := vM) h2 hown hKn.1 gfX12_ok (by decide +kernel) idx 11 k 11 0 fsX12 t h rfl hk
  have kp0 : zc_kept D RTg ro vM s.heap s.heap := zc_kept.refl
  obtain ⟨hjt, ⟨av, fv, bv, f29, f30, f31, hav, hfv, hbv⟩, hu⟩ := id hJ
  obtain ⟨tb, n, z, f12, r0, f13, hn, hc, hz⟩ := id hjt
  obtain ⟨n9, g9, n1, n2⟩ := zh_fT (k := 13) (t := (0, 0, 120)) hh ha (show RTg[11]? = some (0, 11, 0, fsX12) from rfl) rfl
  cases f13.symm.trans g9
  dsimp only at n1 n2
  clear g9
  obtain ⟨-, z9, c9, hy9⟩ := zh_arr hh r0 (show RTg[30]? = some (1, 2, 120, [(0, (-128), 127)]) from rfl)
  have hy : ∀ i, i < 120 → zt_ok ro (z i) (0, (-128), 127) := zs_arr (hc.symm.trans c9) hy9
  obtain ⟨u1, u2, u3, u4⟩ := id hu
  refine lv_aload_n hx hb (eX12_expect (0, .aload_n 0, 1) (List.mem_of_getElem? (i := 0) rfl)) rfl (lv_at hl 0 rfl) ?_
  refine tz_rowV (As := []) (st := []) (b := a) (C := RX12) (Ts := gT) hx hb hml hown h2 (fun _ h => h) (hX12_isGood l D cA ro sz H0 a T (sg) ha) ⟨rfl, rfl⟩ ⟨by decide, by decide⟩ ⟨by decide, by decide⟩ (tb_8 17 rfl rfl) (tb_1 12 rfl rfl) (tb_8 14 rfl rfl) (tb_8 16 rfl rfl) (tb_0 31 rfl rfl) (show yX12_isGood.cls ≠ "java/lang/invoke/MethodHandle" ∧ yX12_isGood.cls ≠ "java/lang/invoke/VarHandle" ∧ (parseMethodDescriptor yX12_isGood.desc).map (fun d => d.parameters.length) = some 0 by decide +kernel) zs_blind (zs_ob hh ha (show RTg[11]? = some (0, 11, 0, fsX12) from rfl) (zCX12 hKn.1)) (fun U hU hW => ⟨rfl, by rw [hU]; exact hh.l0, zKb s U hW.alike hKn, by rw [hU]; exact hJ⟩) hh.2.2.1 hl.1 (Nat.le_of_ble_eq_true rfl) (eX12_expect (1, .invokevirtual 305, 3) (List.mem_of_getElem? (i := 1) rfl)) (fun r1 s1 t1 lo1 g1 f1 l1 => ?_)
  obtain ⟨z1, v1, q1, e1⟩ := f1
  cases q1
  rw [z1, g1]
  have hh1 : zh_ok D cA RTg ro sz H0 s.heap lo1 := ⟨hh.1, hh.2.1, l1, hh.2.2.2⟩
  refine W.eq (g2 := F0 m 4 ls [.int v1]) rfl ?_
  refine ff_if_eq hx hb (eX12_expect (4, .ifCond .eq 15, 3) (List.mem_of_getElem? (i := 2) rfl)) (tgt := 19) rfl (fun c2 => ?_) (fun c2 => ?_)
  · skip
    have hfin : exG T k0 sg = sg := by unfold exG; rw [if_neg (by omega)]
    exact W.vret hx hb hr (fun t ht hW => ⟨rfl, by rw [ht]; exact hh1.l0, by rw [ht]; exact kp0, by rw [ht, hfin]; exact hJ⟩) hh1.2.2.1 (eX12_expect (19, .return_, 1) (List.mem_of_getElem? (i := 9) rfl))
  · skip
    refine lv_aload_n hx hb (eX12_expect (7, .aload_n 0, 1) (List.mem_of_getElem? (i := 3) rfl)) rfl (lv_at hl 0 rfl) ?_
    refine lv_iload_n hx hb (eX12_expect (8, .iload_n 1, 1) (List.mem_of_getElem? (i := 4) rfl)) rfl (lv_at hl 1 rfl) ?_
    refine tz_rowV (As := [.int c0]) (st := []) (b := a) (C := RX12) (Ts := gT) hx hb hml hown h2 (fun _ h => h) (hX12_takes l D cA ro sz H0 a c0 k0 T sg ha hk0 hk1) ⟨rfl, rfl⟩ ⟨by decide, by decide⟩ ⟨by decide, by decide⟩ (tb_8 13 rfl rfl) (tb_1 12 rfl rfl) (tb_8 10 rfl rfl) (tb_8 12 rfl rfl) (tb_0 30 rfl rfl) (show yX12_takes.cls ≠ "java/lang/invoke/MethodHandle" ∧ yX12_takes.cls ≠ "java/lang/invoke/VarHandle" ∧ (parseMethodDescriptor yX12_takes.desc).map (fun d => d.parameters.length) = some 1 by decide +kernel) zs_blind (zs_ob hh1 ha (show RTg[11]? = some (0, 11, 0, fsX12) from rfl) (zCX12 hKn.1)) (fun U hU hW => ⟨rfl, by rw [hU]; exact hh1.l0, zKb s U hW.alike hKn, by rw [hU]; exact hJ⟩) hh1.2.2.1 hl.1 (Nat.le_of_ble_eq_true rfl) (eX12_expect (9, .invokevirtual 313, 3) (List.mem_of_getElem? (i := 5) rfl)) (fun r3 s3 t3 lo3 g3 f3 l3 => ?_)
    obtain ⟨v3, q3, e3, z3, c3, j3⟩ := f3
    cases q3
    rw [g3] at c3
    have hh3 : zh_ok D cA RTg ro sz H0 t3.heap lo3 := ⟨z3.1, z3.2.1, l3, z3.2.2.2⟩
    have kp3 := kp0.trans (c3.mono (ms' := vM) (by decide))
    have kf3 := tkG_01 T k0 sg
    generalize hx3 : tkG T k0 sg = x3 at j3 e3 kf3
    have uu3 := j3.2.2
    unfold vOK at uu3
    have mf3_a_12 := (c3.1 a 11 12 11 0 fsX12 ha rfl (by decide) (by decide)).trans f12
    have mf3_a_13 := (c3.1 a 11 13 11 0 fsX12 ha rfl (by decide) (by decide)).trans f13
    refine W.eq (g2 := F0 m 12 ls [.int v3]) rfl ?_
    refine ff_if_ne hx hb (eX12_expect (12, .ifCond .ne 7, 3) (List.mem_of_getElem? (i := 6) rfl)) (tgt := 19) rfl (fun c4 => ?_) (fun c4 => ?_)
    · skip
      have hfin : exG T k0 sg = x3.2 := by unfold exG; rw [if_pos (by omega), hx3, if_pos (by omega)]
      exact W.vret hx hb hr (fun t ht hW => ⟨rfl, by rw [ht]; exact hh3.l0, by rw [ht]; exact kp3, by rw [ht, hfin]; exact j3⟩) hh3.2.2.1 (eX12_expect (19, .return_, 1) (List.mem_of_getElem? (i := 9) rfl))
    · skip
      refine lv_aload_n hx hb (eX12_expect (15, .aload_n 0, 1) (List.mem_of_getElem? (i := 7) rfl)) rfl (lv_at hl 0 rfl) ?_
      refine tz_rowV (As := []) (st := []) (b := a) (C := RX12) (Ts := gT) hx hb hml hown h2 (fun _ h => h) (hX12_fail l D cA ro sz H0 a T (x3.2) ha) ⟨rfl, rfl⟩ ⟨by decide, by decide⟩ ⟨by decide, by decide⟩ (tb_8 31 rfl rfl) (tb_1 12 rfl rfl) (tb_8 28 rfl rfl) (tb_8 30 rfl rfl) (tb_0 33 rfl rfl) (show yX12_fail.cls ≠ "java/lang/invoke/MethodHandle" ∧ yX12_fail.cls ≠ "java/lang/invoke/VarHandle" ∧ (parseMethodDescriptor yX12_fail.desc).map (fun d => d.parameters.length) = some 0 by decide +kernel) zs_blind (zs_ob hh3 ha (show RTg[11]? = some (0, 11, 0, fsX12) from rfl) (zCX12 hKn.1)) (fun U hU hW => ⟨rfl, by rw [hU]; exact hh3.l0, zKb s U hW.alike hKn, by rw [hU]; exact j3⟩) hh3.2.2.1 hl.1 (Nat.le_of_ble_eq_true rfl) (eX12_expect (16, .invokevirtual 316, 3) (List.mem_of_getElem? (i := 8) rfl)) (fun r5 s5 t5 lo5 g5 f5 l5 => ?_)
      obtain ⟨q5, z5, c5, j5⟩ := f5
      cases q5
      rw [g5] at c5
      have hh5 : zh_ok D cA RTg ro sz H0 t5.heap lo5 := ⟨z5.1, z5.2.1, l5, z5.2.2.2⟩
      have kp5 := kp3.trans (c5.mono (ms' := vM) (by decide))
      generalize hx5 : flG x3.2 = x5 at j5
      have uu5 := j5.2.2
      unfold vOK at uu5
      have mf5_a_12 := (c5.1 a 11 12 11 0 fsX12 ha rfl (by decide) (by decide)).trans mf3_a_12
      have mf5_a_13 := (c5.1 a 11 13 11 0 fsX12 ha rfl (by decide) (by decide)).trans mf3_a_13
      refine W.eq (g2 := F0 m 19 ls []) rfl ?_
      have hfin : exG T k0 sg = x5 := by unfold exG; rw [if_pos (by omega), hx3, if_neg (by omega), hx5]
      exact W.vret hx hb hr (fun t ht hW => ⟨rfl, by rw [ht]; exact hh5.l0, by rw [ht]; exact kp5, by rw [ht, hfin]; exact j5⟩) hh5.2.2.1 (eX12_expect (19, .return_, 1) (List.mem_of_getElem? (i := 9) rfl))
set_option maxRecDepth 100000 in
set_option maxHeartbeats 4000000 in
theorem hX12_digits (l : Launch) (D : va_G) (cA : Nat → ClassId) (ro : Nat → Option Nat) (sz : Nat) (H0 : Heap) (a : Nat) (nd : Int32) (m0 : Nat) (T : List Int) (sg : uS) (ha : ro a = some 11) (hm0 : nd.toInt = (m0 : Int)) (hm2 : m0 ≤ 2) : Met l yX12_digits (gW yX12_digits cX12_digits 4 (some .int)) { frames := 1, cells := 0, slots := 0, locals := 20 } (zs_P D cA ro sz H0 (fun H => jV D cA ro H a T sg) [.ref a, .int nd]) (kv_Q D cA ro sz H0 vM a T (dgG T m0 0 sg)) 0 0 (zy_fr sz) := by
  refine zy_ofW (cc := cX12_digits) (maxL := 4) (ret := (some .int)) (by decide +kernel) rfl ?_
  intro p e s m args below meth c s1 B hml hv
  obtain ⟨rfl, hh, hKn, hJ⟩ := hv
  have hx := B.exec
  have hb := B.bytes
  have hr := B.returns
  have hlk := B.notSynchronized
  have hts0 := atoms_spec (ws := gW yX12_digits cX12_digits 4 (some .int)) B.pre
  have h2 : ∀ w ∈ gT, w.before ([.ref a, .int nd] : List Value).toArray s = true := fun w hw => hts0 w (List.mem_cons_of_mem _ hw)
  have hown : s.vm.findClass RX12 = some m.cls := findClass_of_methodNamed B.named
  have hl := lv_entry [.ref a, .int nd] (n := 4) (Nat.le_of_ble_eq_true rfl)
  rw [lg_entry_eq]
  generalize (lg_sl [.ref a, .int nd] ++ List.replicate (4 - (lg_sl [.ref a, .int nd]).length) Slot.unset).toArray = ls at hl ⊢
  have b_nd := zn_i32 nd
  have hD := zD_all h2 hKn.1
  have hcl11 := fun (idx k : Nat) (t : zt_T) (h : (idx, 11, k) ∈ gfX12) (hk : fsX12[k]? = some t) => zf_clause (ro := ro) (ms := vM) h2 hown hKn.1 gfX12_ok (by decide +kernel) idx 11 k 11 0 fsX12 t h rfl hk
  have kp0 : zc_kept D RTg ro vM s.heap s.heap := zc_kept.refl
  obtain ⟨hjt, ⟨av, fv, bv, f29, f30, f31, hav, hfv, hbv⟩, hu⟩ := id hJ
  obtain ⟨tb, n, z, f12, r0, f13, hn, hc, hz⟩ := id hjt
  obtain ⟨n9, g9, n1, n2⟩ := zh_fT (k := 13) (t := (0, 0, 120)) hh ha (show RTg[11]? = some (0, 11, 0, fsX12) from rfl) rfl
  cases f13.symm.trans g9
  dsimp only at n1 n2
  clear g9
  obtain ⟨-, z9, c9, hy9⟩ := zh_arr hh r0 (show RTg[30]? = some (1, 2, 120, [(0, (-128), 127)]) from rfl)
  have hy : ∀ i, i < 120 → zt_ok ro (z i) (0, (-128), 127) := zs_arr (hc.symm.trans c9) hy9
  obtain ⟨u1, u2, u3, u4⟩ := id hu
  refine ff_iconst hx hb (eX12_digits (0, .iconst 0, 1) (List.mem_of_getElem? (i := 0) rfl)) (by decide) (by decide) (fun v1 e1 => ?_)
  refine lv_istore_n hx hb (eX12_digits (1, .istore_n 2, 1) (List.mem_of_getElem? (i := 1) rfl)) rfl hl (by decide) rfl (fun ls2 hl2 => ?_)
  refine ff_iconst hx hb (eX12_digits (2, .iconst 0, 1) (List.mem_of_getElem? (i := 2) rfl)) (by decide) (by decide) (fun v3 e3 => ?_)
  refine lv_istore_n hx hb (eX12_digits (3, .istore_n 3, 1) (List.mem_of_getElem? (i := 3) rfl)) rfl hl2 (by decide) rfl (fun ls4 hl4 => ?_)
  have loop : ∀ (n0 : Nat) (i : Int) (iv vv : Int32) (g : uS) (ls : Array Slot) (H : Heap) (lo0 : List Loc), i + n0 = m0 → iv.toInt = i → 0 ≤ i → (0 ≤ vv.toInt ∧ (i = 0 → vv.toInt ≤ 0) ∧ (i = 1 → vv.toInt ≤ 9) ∧ vv.toInt ≤ 99) → dgG T n0 vv.toInt g = dgG T m0 0 sg → zh_ok D cA RTg ro sz H0 H lo0 → zc_kept D RTg ro vM s.heap H → jV D cA ro H a T g → lv_has ls 4 [(2, .int vv), (3, .int iv), (0, .ref a), (1, .int nd)] → W p l e (headSpec (gW yX12_digits cX12_digits 4 (some .int)) { frames := 1, cells := 0, slots := 0, locals := 20 }).room s m ([.ref a, .int nd] : List Value).toArray below meth c H lo0 0 0 (MQ below (kv_Q D cA ro sz H0 vM a T (dgG T m0 0 sg)) ([.ref a, .int nd] : List Value).toArray s 0 0 (zy_fr sz)) (F0 m 4 ls []) := by
    intro n0
    induction n0 with
    | zero =>
      intro i iv vv g ls H lo0 hi hiv hi0 hvv htot hh0 kpl jl hl
      have hul := jl.2.2
      unfold vOK at hul
      have hbb := byI_bd T g.1
      refine lv_iload_n hx hb (eX12_digits (4, .iload_n 3, 1) (List.mem_of_getElem? (i := 4) rfl)) rfl (lv_at hl 1 rfl) ?_
      refine lv_iload_n hx hb (eX12_digits (5, .iload_n 1, 1) (List.mem_of_getElem? (i := 5) rfl)) rfl (lv_at hl 3 rfl) ?_
      refine ff_icmp_ge hx hb (eX12_digits (6, .if_icmp .ge 56, 3) (List.mem_of_getElem? (i := 6) rfl)) (tgt := 62) rfl (fun c5 => ?_) (fun c5 => (by exfalso; omega))
      refine lv_iload_n hx hb (eX12_digits (62, .iload_n 2, 1) (List.mem_of_getElem? (i := 34) rfl)) rfl (lv_at hl 0 rfl) ?_
      have hfin : dgG T m0 0 sg = (vv.toInt, g) := by rw [← htot]; rfl
      exact W.zret hx hb hr rfl (fun t ht hW => ⟨_, rfl, by rw [hfin] <;> exact rfl, by rw [ht]; exact hh0.l0, by rw [ht]; exact kpl, by rw [ht, hfin]; exact jl⟩) hh0.2.2.1 (eX12_digits (63, .ireturn, 1) (List.mem_of_getElem? (i := 35) rfl))
    | succ n0 ih =>
      intro i iv vv g ls H lo0 hi hiv hi0 hvv htot hh0 kpl jl hl
      have hul := jl.2.2
      unfold vOK at hul
      have hbb := byI_bd T g.1
      refine lv_iload_n hx hb (eX12_digits (4, .iload_n 3, 1) (List.mem_of_getElem? (i := 4) rfl)) rfl (lv_at hl 1 rfl) ?_
      refine lv_iload_n hx hb (eX12_digits (5, .iload_n 1, 1) (List.mem_of_getElem? (i := 5) rfl)) rfl (lv_at hl 3 rfl) ?_
      refine ff_icmp_ge hx hb (eX12_digits (6, .if_icmp .ge 56, 3) (List.mem_of_getElem? (i := 6) rfl)) (tgt := 62) rfl (fun c6 => (by exfalso; omega)) (fun c6 => ?_)
      refine lv_aload_n hx hb (eX12_digits (9, .aload_n 0, 1) (List.mem_of_getElem? (i := 7) rfl)) rfl (lv_at hl 2 rfl) ?_
      refine tz_rowV (As := []) (st := []) (b := a) (C := RX12) (Ts := gT) hx hb hml hown h2 (fun _ h => h) (hX12_isGood l D cA ro sz H0 a T (g) ha) ⟨rfl, rfl⟩ ⟨by decide, by decide⟩ ⟨by decide, by decide⟩ (tb_8 17 rfl rfl) (tb_1 12 rfl rfl) (tb_8 14 rfl rfl) (tb_8 16 rfl rfl) (tb_0 31 rfl rfl) (show yX12_isGood.cls ≠ "java/lang/invoke/MethodHandle" ∧ yX12_isGood.cls ≠ "java/lang/invoke/VarHandle" ∧ (parseMethodDescriptor yX12_isGood.desc).map (fun d => d.parameters.length) = some 0 by decide +kernel) zs_blind (zs_ob hh0 ha (show RTg[11]? = some (0, 11, 0, fsX12) from rfl) (zCX12 hKn.1)) (fun U hU hW => ⟨rfl, by rw [hU]; exact hh0.l0, zKb s U hW.alike hKn, by rw [hU]; exact jl⟩) hh0.2.2.1 hl.1 (Nat.le_of_ble_eq_true rfl) (eX12_digits (10, .invokevirtual 305, 3) (List.mem_of_getElem? (i := 8) rfl)) (fun r7 s7 t7 lo7 g7 f7 l7 => ?_)
      obtain ⟨z7, v7, q7, e7⟩ := f7
      cases q7
      rw [z7, g7]
      have hh7 : zh_ok D cA RTg ro sz H0 H lo7 := ⟨hh0.1, hh0.2.1, l7, hh0.2.2.2⟩
      refine W.eq (g2 := F0 m 13 ls [.int v7]) rfl ?_
      refine ff_if_eq hx hb (eX12_digits (13, .ifCond .eq 49, 3) (List.mem_of_getElem? (i := 9) rfl)) (tgt := 62) rfl (fun c8 => ?_) (fun c8 => ?_)
      · skip
        refine lv_iload_n hx hb (eX12_digits (62, .iload_n 2, 1) (List.mem_of_getElem? (i := 34) rfl)) rfl (lv_at hl 0 rfl) ?_
        have hfin : dgG T m0 0 sg = (vv.toInt, g) := by rw [← htot]; show (if _ then (if _ then _ else _) else _ : Int × uS) = _; rw [if_neg (by omega)]
        exact W.zret hx hb hr rfl (fun t ht hW => ⟨_, rfl, by rw [hfin] <;> exact rfl, by rw [ht]; exact hh7.l0, by rw [ht]; exact kpl, by rw [ht, hfin]; exact jl⟩) hh7.2.2.1 (eX12_digits (63, .ireturn, 1) (List.mem_of_getElem? (i := 35) rfl))
      · skip
        refine lv_aload_n hx hb (eX12_digits (16, .aload_n 0, 1) (List.mem_of_getElem? (i := 10) rfl)) rfl (lv_at hl 2 rfl) ?_
        refine tz_rowV (As := []) (st := []) (b := a) (C := RX12) (Ts := gT) hx hb hml hown h2 (fun _ h => h) (hX12_sign l D cA ro sz H0 a T (g) ha) ⟨rfl, rfl⟩ ⟨by decide, by decide⟩ ⟨by decide, by decide⟩ (tb_8 21 rfl rfl) (tb_1 12 rfl rfl) (tb_8 18 rfl rfl) (tb_8 20 rfl rfl) (tb_0 32 rfl rfl) (show yX12_sign.cls ≠ "java/lang/invoke/MethodHandle" ∧ yX12_sign.cls ≠ "java/lang/invoke/VarHandle" ∧ (parseMethodDescriptor yX12_sign.desc).map (fun d => d.parameters.length) = some 0 by decide +kernel) zs_blind (zs_ob hh7 ha (show RTg[11]? = some (0, 11, 0, fsX12) from rfl) (zCX12 hKn.1)) (fun U hU hW => ⟨rfl, by rw [hU]; exact hh7.l0, zKb s U hW.alike hKn, by rw [hU]; exact jl⟩) hh7.2.2.1 hl.1 (Nat.le_of_ble_eq_true rfl) (eX12_digits (17, .invokevirtual 309, 3) (List.mem_of_getElem? (i := 11) rfl)) (fun r9 s9 t9 lo9 g9 f9 l9 => ?_)
        obtain ⟨z9, v9, q9, e9⟩ := f9
        cases q9
        rw [z9, g9]
        have hh9 : zh_ok D cA RTg ro sz H0 H lo9 := ⟨hh7.1, hh7.2.1, l9, hh7.2.2.2⟩
        refine W.eq (g2 := F0 m 20 ls [.int v9]) rfl ?_
        refine zu_S (vs := [.int v9]) (rest := []) hx hb hml hown hts0 zu_BT (hX12_isDigit l v9) ⟨rfl, rfl⟩ ⟨by decide, by decide⟩ ⟨by decide, by decide⟩ (tb_8 27 rfl rfl) (tb_1 12 rfl rfl) (tb_8 25 rfl rfl) (tb_8 26 rfl rfl) (show yX12_isDigit.cls ≠ "java/lang/invoke/MethodHandle" ∧ yX12_isDigit.cls ≠ "java/lang/invoke/VarHandle" ∧ (parseMethodDescriptor yX12_isDigit.desc).map (fun d => d.parameters.length) = some 1 by decide +kernel) rfl (fun _ _ _ => trivial) hl.1 (Nat.le_of_ble_eq_true rfl) (eX12_digits (20, .invokestatic 319, 3) (List.mem_of_getElem? (i := 12) rfl)) (fun w10 f10 => ?_)
        obtain ⟨v10, rfl, e10⟩ := f10
        refine ff_if_eq hx hb (eX12_digits (23, .ifCond .eq 29, 3) (List.mem_of_getElem? (i := 13) rfl)) (tgt := 52) rfl (fun c11 => ?_) (fun c11 => ?_)
        · have hdn : ¬ isD (byI T g.1) := by rcases e10 with h | h; exfalso; omega; rw [← e9]; exact h.2
          refine lv_aload_n hx hb (eX12_digits (52, .aload_n 0, 1) (List.mem_of_getElem? (i := 30) rfl)) rfl (lv_at hl 2 rfl) ?_
          refine tz_rowV (As := []) (st := []) (b := a) (C := RX12) (Ts := gT) hx hb hml hown h2 (fun _ h => h) (hX12_fail l D cA ro sz H0 a T (g) ha) ⟨rfl, rfl⟩ ⟨by decide, by decide⟩ ⟨by decide, by decide⟩ (tb_8 31 rfl rfl) (tb_1 12 rfl rfl) (tb_8 28 rfl rfl) (tb_8 30 rfl rfl) (tb_0 33 rfl rfl) (show yX12_fail.cls ≠ "java/lang/invoke/MethodHandle" ∧ yX12_fail.cls ≠ "java/lang/invoke/VarHandle" ∧ (parseMethodDescriptor yX12_fail.desc).map (fun d => d.parameters.length) = some 0 by decide +kernel) zs_blind (zs_ob hh9 ha (show RTg[11]? = some (0, 11, 0, fsX12) from rfl) (zCX12 hKn.1)) (fun U hU hW => ⟨rfl, by rw [hU]; exact hh9.l0, zKb s U hW.alike hKn, by rw [hU]; exact jl⟩) hh9.2.2.1 hl.1 (Nat.le_of_ble_eq_true rfl) (eX12_digits (53, .invokevirtual 316, 3) (List.mem_of_getElem? (i := 31) rfl)) (fun r12 s12 t12 lo12 g12 f12 l12 => ?_)
          obtain ⟨q12, z12, c12, j12⟩ := f12
          cases q12
          rw [g12] at c12
          have hh12 : zh_ok D cA RTg ro sz H0 t12.heap lo12 := ⟨z12.1, z12.2.1, l12, z12.2.2.2⟩
          have kp12 := kpl.trans (c12.mono (ms' := vM) (by decide))
          generalize hx12 : flG g = x12 at j12
          have uu12 := j12.2.2
          unfold vOK at uu12
          refine W.eq (g2 := F0 m 56 ls []) rfl ?_
          refine ff_iinc (k := 1) hx hb (eX12_digits (56, .iinc 3 1, 3) (List.mem_of_getElem? (i := 32) rfl)) hl rfl (by decide) (by decide) (by decide) (by omega) (by omega) (fun v13 e13 ls13 hl13 => ?_)
          refine lv_goto hx hb (eX12_digits (59, .goto (-55), 3) (List.mem_of_getElem? (i := 33) rfl)) (tgt := 4) rfl ?_
          exact ih (i + 1) v13 vv x12 ls13 _ _ (by omega) (by omega) (by omega) (by omega) (by rw [← htot]; show _ = (if _ then (if _ then _ else _) else _ : Int × uS); rw [if_pos (by omega), if_neg hdn, hx12]) hh12 kp12 j12 (lv_sub hl13 [1, 0, 2, 3] rfl)
        · have hdg : isD (byI T g.1) := by rcases e10 with h | h; rw [← e9]; exact h.2; exfalso; omega
          have hd8 := hdg.1
          have hd9 := hdg.2
          refine ff_bipush hx hb (eX12_digits (26, .bipush 10, 2) (List.mem_of_getElem? (i := 14) rfl)) (by decide) (by decide) (fun v14 e14 => ?_)
          refine lv_iload_n hx hb (eX12_digits (28, .iload_n 2, 1) (List.mem_of_getElem? (i := 15) rfl)) rfl (lv_at hl 0 rfl) ?_
          refine ff_imulL hx hb (eX12_digits (29, .imul, 1) (List.mem_of_getElem? (i := 16) rfl)) (e14) (by omega) (by omega) (fun v15 e15 => ?_)
          refine lv_aload_n hx hb (eX12_digits (30, .aload_n 0, 1) (List.mem_of_getElem? (i := 17) rfl)) rfl (lv_at hl 2 rfl) ?_
          refine tz_rowV (As := []) (st := [.int v15]) (b := a) (C := RX12) (Ts := gT) hx hb hml hown h2 (fun _ h => h) (hX12_sign l D cA ro sz H0 a T (g) ha) ⟨rfl, rfl⟩ ⟨by decide, by decide⟩ ⟨by decide, by decide⟩ (tb_8 21 rfl rfl) (tb_1 12 rfl rfl) (tb_8 18 rfl rfl) (tb_8 20 rfl rfl) (tb_0 32 rfl rfl) (show yX12_sign.cls ≠ "java/lang/invoke/MethodHandle" ∧ yX12_sign.cls ≠ "java/lang/invoke/VarHandle" ∧ (parseMethodDescriptor yX12_sign.desc).map (fun d => d.parameters.length) = some 0 by decide +kernel) zs_blind (zs_ob hh9 ha (show RTg[11]? = some (0, 11, 0, fsX12) from rfl) (zCX12 hKn.1)) (fun U hU hW => ⟨rfl, by rw [hU]; exact hh9.l0, zKb s U hW.alike hKn, by rw [hU]; exact jl⟩) hh9.2.2.1 hl.1 (Nat.le_of_ble_eq_true rfl) (eX12_digits (31, .invokevirtual 309, 3) (List.mem_of_getElem? (i := 18) rfl)) (fun r16 s16 t16 lo16 g16 f16 l16 => ?_)
          obtain ⟨z16, v16, q16, e16⟩ := f16
          cases q16
          rw [z16, g16]
          have hh16 : zh_ok D cA RTg ro sz H0 H lo16 := ⟨hh9.1, hh9.2.1, l16, hh9.2.2.2⟩
          refine W.eq (g2 := F0 m 34 ls [.int v16, .int v15]) rfl ?_
          refine ff_iadd hx hb (eX12_digits (34, .iadd, 1) (List.mem_of_getElem? (i := 19) rfl)) (by omega) (by omega) (fun v17 e17 => ?_)
          refine ff_bipush hx hb (eX12_digits (35, .bipush 48, 2) (List.mem_of_getElem? (i := 20) rfl)) (by decide) (by decide) (fun v18 e18 => ?_)
          refine ff_isub hx hb (eX12_digits (37, .isub, 1) (List.mem_of_getElem? (i := 21) rfl)) (by omega) (by omega) (fun v19 e19 => ?_)
          refine lv_istore_n hx hb (eX12_digits (38, .istore_n 2, 1) (List.mem_of_getElem? (i := 22) rfl)) rfl hl (by decide) rfl (fun ls20 hl20 => ?_)
          refine lv_aload_n hx hb (eX12_digits (39, .aload_n 0, 1) (List.mem_of_getElem? (i := 23) rfl)) rfl (lv_at hl20 2 rfl) ?_
          refine lv_dup hx hb (eX12_digits (40, .dup, 1) (List.mem_of_getElem? (i := 24) rfl)) rfl ?_
          obtain ⟨jt21, ⟨av21, fv21, bv21, f2921, f3021, f3121, hav21, hfv21, hbv21⟩, hu21⟩ := id jl
          have hw21 := hu21
          unfold vOK at hw21
          obtain ⟨tb21, n21, z21, f1221, r021, f1321, hn21, hc21, hz21⟩ := id jt21
          refine tz_get (r := 11) (k := 29) (t := (0, 0, 120)) hx hb hh16 ha rfl rfl (hcl11 293 29 (0, 0, 120) (by decide) rfl).1 f2921 (eX12_digits (41, .getfield 293, 3) (List.mem_of_getElem? (i := 25) rfl)) ?_
          refine ff_iconst hx hb (eX12_digits (44, .iconst 1, 1) (List.mem_of_getElem? (i := 26) rfl)) (by decide) (by decide) (fun v22 e22 => ?_)
          refine ff_iadd hx hb (eX12_digits (45, .iadd, 1) (List.mem_of_getElem? (i := 27) rfl)) (by omega) (by omega) (fun v23 e23 => ?_)
          have hlt24 : 0 ≤ v23.toInt ∧ v23.toInt ≤ 120 := by first | omega | (have h9 := byI_lt (T := T) (a := g.1) (by omega) (by first | omega | exact isD_nn hdg | exact isN_nn hN); omega)
          refine tz_put (r := 11) (k := 29) (t := (0, 0, 120)) hx hb hD hh16 ha rfl rfl ((hcl11 293 29 (0, 0, 120) (by decide) rfl).2 (by decide)) (tz_i (by omega) (by omega)) (eX12_digits (46, .putfield 293, 3) (List.mem_of_getElem? (i := 28) rfl)) (fun H25 lo25 hh25 hf25 hk25 _ hq25 => ?_)
          have mf25_a_30 := (hk25.1 a 11 30 11 0 fsX12 ha rfl (by decide) (by decide)).trans f3021
          have mf25_a_31 := (hk25.1 a 11 31 11 0 fsX12 ha rfl (by decide) (by decide)).trans f3121
          have mf25_a_13 := (hk25.1 a 11 13 11 0 fsX12 ha rfl (by decide) (by decide)).trans f1321
          have kp25 := kpl.trans (hk25.mono (ms' := vM) (fun x hx => by cases List.mem_singleton.mp hx; decide))
          have jm25 := (jl.1).kept ha hk25 (by decide) (by decide) (by decide)
          refine lv_goto hx hb (eX12_digits (49, .goto 7, 3) (List.mem_of_getElem? (i := 29) rfl)) (tgt := 56) rfl ?_
          refine ff_iinc (k := 1) hx hb (eX12_digits (56, .iinc 3 1, 3) (List.mem_of_getElem? (i := 32) rfl)) hl20 rfl (by decide) (by decide) (by decide) (by omega) (by omega) (fun v26 e26 ls26 hl26 => ?_)
          refine lv_goto hx hb (eX12_digits (59, .goto (-55), 3) (List.mem_of_getElem? (i := 33) rfl)) (tgt := 4) rfl ?_
          exact ih (i + 1) v26 v19 (g.1 + 1, g.2) ls26 _ _ (by omega) (by omega) (by omega) (by have h8 := hdg.1; have h9 := hdg.2; omega) (by rw [← htot]; show _ = (if _ then (if _ then _ else _) else _ : Int × uS); rw [if_pos (by omega), if_pos hdg, show v19.toInt = 10 * vv.toInt + byI T g.1 - 48 by omega]) hh25 kp25 ⟨jm25, ⟨_, _, _, hf25, mf25_a_30, mf25_a_31, by show _ = g.1 + 1; omega, by first | assumption | omega, by first | assumption | omega⟩, adG_ok jl.2.2 (isD_nn hdg)⟩ (lv_sub hl26 [1, 0, 2, 3] rfl)
  exact loop m0 0 v3 v1 sg ls4 _ _ (by omega) (by omega) (by omega) (by omega) (by rw [show v1.toInt = 0 by omega]) hh kp0 hJ (lv_sub hl4 [1, 0, 2, 3] rfl)
