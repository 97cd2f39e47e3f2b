/-! linear forms over numbered unknowns: (unknown, factor) terms and a constant; bounds of the unknowns; relations 'f ≤ 0' -/
abbrev zl_T : Type := List (Nat × Int)
abbrev zl_F : Type := List (Nat × Int) × Int
def zl_ev (v : Nat → Int) : zl_T → Int
  | [] => 0
  | q :: t => q.2 * v q.1 + zl_ev v t
def zl_at (v : Nat → Int) (f : zl_F) : Int := zl_ev v f.1 + f.2
def zl_ins (i : Nat) (k : Int) : zl_T → zl_T
  | [] => [(i, k)]
  | q :: t => match Nat.beq q.1 i with
    | true => (match q.2 + k with
      | 0 => t
      | z => (i, z) :: t)
    | false => q :: zl_ins i k t
theorem zl_ins_ev (v : Nat → Int) (i : Nat) (k : Int) (t : zl_T) : zl_ev v (zl_ins i k t) = k * v i + zl_ev v t := by
  induction t with
  | nil => simp [zl_ins, zl_ev]
  | cons q t ih =>
    unfold zl_ins
    split
    · rename_i h
      have h := Nat.eq_of_beq_eq_true h
      split
      · rename_i h0
        simp only [zl_ev]
        rw [h, show q.2 = -k by omega, Int.neg_mul]; omega
      · rename_i z hz
        simp only [zl_ev]
        rw [h, Int.add_mul]; omega
    · simp only [zl_ev, ih]; omega
def zl_add (f g : zl_F) : zl_F := (f.1.foldr (fun q a => zl_ins q.1 q.2 a) g.1, f.2 + g.2)
theorem zl_add_at (v : Nat → Int) (f g : zl_F) : zl_at v (zl_add f g) = zl_at v f + zl_at v g := by
  obtain ⟨f1, f2⟩ := f
  obtain ⟨g1, g2⟩ := g
  unfold zl_at zl_add
  dsimp only
  have h : zl_ev v (f1.foldr (fun q a => zl_ins q.1 q.2 a) g1) = zl_ev v f1 + zl_ev v g1 := by
    induction f1 with
    | nil => simp [zl_ev]
    | cons q t ih => simp only [List.foldr_cons, zl_ins_ev, ih, zl_ev]; omega
  rw [h]; omega
def zl_mul (k : Int) (f : zl_F) : zl_F := (f.1.map (fun q => (q.1, k * q.2)), k * f.2)
theorem zl_mul_at (v : Nat → Int) (k : Int) (f : zl_F) : zl_at v (zl_mul k f) = k * zl_at v f := by
  obtain ⟨f1, f2⟩ := f
  unfold zl_at zl_mul
  dsimp only
  have h : zl_ev v (f1.map (fun q => (q.1, k * q.2))) = k * zl_ev v f1 := by
    induction f1 with
    | nil => simp [zl_ev]
    | cons q t ih => simp only [List.map_cons, zl_ev, ih]; rw [Int.mul_add, Int.mul_assoc]
  rw [h, Int.mul_add]
def zl_neg (f : zl_F) : zl_F := zl_mul (-1) f
theorem zl_neg_at (v : Nat → Int) (f : zl_F) : zl_at v (zl_neg f) = - zl_at v f := by
  unfold zl_neg; rw [zl_mul_at]; omega
def zl_sub (f g : zl_F) : zl_F := zl_add (zl_neg g) f
theorem zl_sub_at (v : Nat → Int) (f g : zl_F) : zl_at v (zl_sub f g) = zl_at v f - zl_at v g := by
  unfold zl_sub; rw [zl_add_at, zl_neg_at]; omega
def zl_k (k : Int) : zl_F := ([], k)
theorem zl_k_at (v : Nat → Int) (k : Int) : zl_at v (zl_k k) = k := by simp [zl_at, zl_k, zl_ev]
def zl_id (i : Nat) : zl_F := ([(i, 1)], 0)
theorem zl_id_at (v : Nat → Int) (i : Nat) : zl_at v (zl_id i) = v i := by simp [zl_at, zl_id, zl_ev]
/-- every unknown of it is below n -/
def zl_wf (n : Nat) (f : zl_F) : Prop := ∀ q ∈ f.1, q.1 < n
theorem zl_ins_wf {n i : Nat} {k : Int} {t : zl_T} (hi : i < n) (h : ∀ q ∈ t, q.1 < n) : ∀ q ∈ zl_ins i k t, q.1 < n := by
  induction t with
  | nil => intro q hq; simp [zl_ins] at hq; rw [hq]; exact hi
  | cons r t ih =>
    have ht : ∀ q ∈ t, q.1 < n := fun q hq => h q (List.mem_cons_of_mem _ hq)
    intro q hq
    unfold zl_ins at hq
    split at hq
    · split at hq
      · exact ht q hq
      · rcases List.mem_cons.mp hq with e | e
        · rw [e]; exact hi
        · exact ht q e
    · rcases List.mem_cons.mp hq with e | e
      · rw [e]; exact h r List.mem_cons_self
      · exact ih ht q e
theorem zl_add_wf {n : Nat} {f g : zl_F} (hf : zl_wf n f) (hg : zl_wf n g) : zl_wf n (zl_add f g) := by
  obtain ⟨f1, f2⟩ := f
  unfold zl_wf zl_add at *
  dsimp only at *
  induction f1 with
  | nil => exact hg
  | cons q t ih => exact zl_ins_wf (hf q List.mem_cons_self) (ih (fun r hr => hf r (List.mem_cons_of_mem _ hr)))
theorem zl_mul_wf {n : Nat} {k : Int} {f : zl_F} (hf : zl_wf n f) : zl_wf n (zl_mul k f) := by
  intro q hq
  obtain ⟨r, hr, e⟩ := List.mem_map.mp hq
  rw [← e]; exact hf r hr
theorem zl_sub_wf {n : Nat} {f g : zl_F} (hf : zl_wf n f) (hg : zl_wf n g) : zl_wf n (zl_sub f g) := zl_add_wf (zl_mul_wf hg) hf
theorem zl_k_wf {n : Nat} {k : Int} : zl_wf n (zl_k k) := fun q hq => by cases hq
theorem zl_id_wf {n i : Nat} (h : i < n) : zl_wf n (zl_id i) := fun q hq => by
  simp [zl_id] at hq; rw [hq]; exact h
theorem zl_wf.mono {n m : Nat} {f : zl_F} (h : zl_wf n f) (hm : n ≤ m) : zl_wf m f := fun q hq => Nat.lt_of_lt_of_le (h q hq) hm
def zl_up (v : Nat → Int) (n : Nat) (x : Int) : Nat → Int := fun i => if i = n then x else v i
theorem zl_up_at {v : Nat → Int} {n : Nat} {x : Int} {f : zl_F} (h : zl_wf n f) : zl_at (zl_up v n x) f = zl_at v f := by
  obtain ⟨f1, f2⟩ := f
  unfold zl_at
  dsimp only
  have : zl_ev (zl_up v n x) f1 = zl_ev v f1 := by
    unfold zl_wf at h
    dsimp only at h
    induction f1 with
    | nil => rfl
    | cons q t ih =>
      have hq := h q List.mem_cons_self
      simp only [zl_ev, ih (fun r hr => h r (List.mem_cons_of_mem _ hr))]
      rw [show zl_up v n x q.1 = v q.1 by simp [zl_up, Nat.ne_of_lt hq]]
  rw [this]
/-- bounds of the unknowns: of unknown i the i-th; (lo, hi) with hi < lo: none is known -/
abbrev zl_B : Type := List (Int × Int)
def zl_bd (v : Nat → Int) (B : zl_B) : Prop := ∀ (i : Nat) (b : Int × Int), B[i]? = some b → b.2 < b.1 ∨ (b.1 ≤ v i ∧ v i ≤ b.2)
/-- a sum above all values of the terms -/
def zl_ub (B : zl_B) : zl_T → Option Int
  | [] => some 0
  | q :: t => match B[q.1]?, zl_ub B t with
    | some b, some r => (match decide (b.2 < b.1) with
      | true => none
      | false => some ((match q.2 with
        | .ofNat _ => q.2 * b.2
        | .negSucc _ => q.2 * b.1) + r))
    | _, _ => none
theorem zl_ub_ok {v : Nat → Int} {B : zl_B} (hB : zl_bd v B) (t : zl_T) : ∀ r, zl_ub B t = some r → zl_ev v t ≤ r := by
  induction t with
  | nil => intro r h; simp [zl_ub] at h; simp [zl_ev, ← h]
  | cons q t ih =>
    intro r h
    unfold zl_ub at h
    split at h
    · rename_i b r' hb hr
      split at h
      · cases h
      rename_i hd
      have h1 := (hB _ _ hb).resolve_left (of_decide_eq_false hd)
      have h2 := ih _ hr
      have h3 := Option.some.inj h
      simp only [zl_ev]
      have h4 : q.2 * v q.1 ≤ (match q.2 with | .ofNat _ => q.2 * b.2 | .negSucc _ => q.2 * b.1) := by
        split
        · rename_i n hn
          rw [hn]
          exact Int.mul_le_mul_of_nonneg_left h1.2 (Int.natCast_nonneg n)
        · rename_i n hn
          rw [hn]
          exact Int.mul_le_mul_of_nonpos_left (Int.le_of_lt (Int.negSucc_lt_zero n)) h1.1
      omega
    · cases h
/-- 'f ≤ 0', by the bounds alone -/
def zl_n1 (B : zl_B) (f : zl_F) : Bool := match zl_ub B f.1 with
  | some r => decide (r + f.2 ≤ 0)
  | none => false
theorem zl_n1_ok {v : Nat → Int} {B : zl_B} (hB : zl_bd v B) {f : zl_F} (h : zl_n1 B f = true) : zl_at v f ≤ 0 := by
  unfold zl_n1 at h
  split at h
  · rename_i r hr
    have h1 := zl_ub_ok hB _ _ hr
    have h2 := of_decide_eq_true h
    unfold zl_at; omega
  · cases h
/-- the greatest unknown, and 1 -/
def zl_mx : zl_T → Nat
  | [] => 0
  | q :: t => match Nat.ble (zl_mx t) (q.1 + 1) with
    | true => q.1 + 1
    | false => zl_mx t
def zl_co (i : Nat) : zl_T → Int
  | [] => 0
  | q :: t => match Nat.beq q.1 i with
    | true => q.2
    | false => zl_co i t
/-- 'f ≤ 0', by the bounds and relations that take away its greatest unknown, one after the other -/
def zl_ch (B : zl_B) (C : List zl_F) : Nat → zl_F → Bool
  | 0, f => zl_n1 B f
  | d + 1, f => zl_n1 B f || (match zl_mx f.1 with
    | 0 => false
    | u + 1 => C.any (fun g => Nat.beq (zl_mx g.1) (u + 1) && (decide (0 < zl_co u f.1 / zl_co u g.1) && (decide (zl_co u f.1 / zl_co u g.1 * zl_co u g.1 = zl_co u f.1) && zl_ch B C d (zl_sub f (zl_mul (zl_co u f.1 / zl_co u g.1) g))))))
theorem zl_ch_ok {v : Nat → Int} {B : zl_B} {C : List zl_F} (hB : zl_bd v B) (hC : ∀ f ∈ C, zl_at v f ≤ 0) : ∀ (d : Nat) (f : zl_F), zl_ch B C d f = true → zl_at v f ≤ 0
  | 0, f, h => zl_n1_ok hB h
  | d + 1, f, h => by
    unfold zl_ch at h
    rw [Bool.or_eq_true] at h
    rcases h with h | h
    · exact zl_n1_ok hB h
    · split at h
      · cases h
      · obtain ⟨g, hg, h⟩ := List.any_eq_true.mp h
        simp only [Bool.and_eq_true, decide_eq_true_eq] at h
        have h1 := zl_ch_ok hB hC d _ h.2.2.2
        rw [zl_sub_at, zl_mul_at] at h1
        have h2 := hC g hg
        have h3 := Int.mul_le_mul_of_nonneg_left h2 (Int.le_of_lt h.2.1)
        omega
/-- 'f ≤ 0', by the bounds and at most two of the relations, or by a row of them -/
def zl_le (B : zl_B) (C : List zl_F) (f : zl_F) : Bool := zl_n1 B f || C.any (fun g => zl_n1 B (zl_sub f g)) || zl_ch B C 12 f || C.any (fun g => C.any (fun h => zl_n1 B (zl_sub (zl_sub f g) h)))
theorem zl_le_ok {v : Nat → Int} {B : zl_B} {C : List zl_F} (hB : zl_bd v B) (hC : ∀ f ∈ C, zl_at v f ≤ 0) {f : zl_F} (h : zl_le B C f = true) : zl_at v f ≤ 0 := by
  unfold zl_le at h
  simp only [Bool.or_eq_true, List.any_eq_true] at h
  rcases h with ((h | ⟨g, hg, h⟩) | h) | ⟨g, hg, k, hk, h⟩
  · exact zl_n1_ok hB h
  · have h1 := zl_n1_ok hB h
    have h2 := hC g hg
    rw [zl_sub_at] at h1
    omega
  · exact zl_ch_ok hB hC 12 f h
  · have h1 := zl_n1_ok hB h
    have h2 := hC g hg
    have h3 := hC k hk
    rw [zl_sub_at, zl_sub_at] at h1
    omega
