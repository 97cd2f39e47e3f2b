/-! what a branch teaches: a relation 'g ≤ 0' -/
/-- the terms of g but those of unknown i -/
def zx_wo (i : Nat) (t : zl_T) : zl_T := t.filter (fun q => !(Nat.beq q.1 i))
/-- the factor of i, if i stands once -/
def zx_fa (i : Nat) : zl_T → Int
  | [] => 0
  | q :: t => match Nat.beq q.1 i with
    | true => q.2 + zx_fa i t
    | false => zx_fa i t
theorem zx_wo_ev (v : Nat → Int) (i : Nat) (t : zl_T) : zl_ev v t = zx_fa i t * v i + zl_ev v (zx_wo i t) := by
  induction t with
  | nil => simp [zl_ev, zx_fa, zx_wo]
  | cons q t ih =>
    unfold zx_fa zx_wo
    cases h : Nat.beq q.1 i with
    | true =>
      have h' := Nat.eq_of_beq_eq_true h
      rw [List.filter_cons_of_neg (by simp [h])]
      show q.2 * v q.1 + zl_ev v t = (q.2 + zx_fa i t) * v i + zl_ev v (zx_wo i t)
      rw [ih, h', Int.add_mul]; omega
    | false =>
      rw [List.filter_cons_of_pos (by simp [h])]
      show q.2 * v q.1 + zl_ev v t = zx_fa i t * v i + (q.2 * v q.1 + zl_ev v (zx_wo i t))
      rw [ih]; omega
def zx_ngT (t : zl_T) : zl_T := t.map (fun q => (q.1, -1 * q.2))
theorem zx_ngT_ev (v : Nat → Int) (t : zl_T) : zl_ev v (zx_ngT t) = - zl_ev v t := by
  induction t with
  | nil => simp [zl_ev, zx_ngT]
  | cons q t ih =>
    show -1 * q.2 * v q.1 + zl_ev v (zx_ngT t) = -(q.2 * v q.1 + zl_ev v t)
    rw [ih, Int.mul_assoc, Int.neg_one_mul]; omega
/-- bounds of unknown i by g ≤ 0 -/
def zx_t1 (g : zl_F) (i : Nat) (B : zl_B) : zl_B := match B[i]?, zl_ub B (zx_ngT (zx_wo i g.1)) with
  | some b, some r => (match zx_fa i g.1 with
    | .ofNat (c + 1) => (match decide (b.2 < b.1), decide ((r - g.2) / ((c + 1 : Nat) : Int) < b.1) with
      | false, false => B.set i (b.1, min b.2 ((r - g.2) / ((c + 1 : Nat) : Int)))
      | _, _ => B)
    | .negSucc c => (match decide (b.2 < b.1), decide (b.2 < -((r - g.2) / ((c + 1 : Nat) : Int))) with
      | false, false => B.set i (max b.1 (-((r - g.2) / ((c + 1 : Nat) : Int))), b.2)
      | _, _ => B)
    | _ => B)
  | _, _ => B
theorem zl_bd.set {v : Nat → Int} {B : zl_B} {i : Nat} {b : Int × Int} (h : zl_bd v B) (hb : b.1 ≤ v i ∧ v i ≤ b.2) : zl_bd v (B.set i b) := by
  intro j c hc
  by_cases e : i = j
  · subst e
    by_cases hi : i < B.length
    · rw [List.getElem?_set_self hi] at hc
      cases hc
      exact Or.inr hb
    · rw [List.getElem?_eq_none (by simpa using Nat.not_lt.mp hi)] at hc
      cases hc
  · rw [List.getElem?_set_ne e] at hc
    exact h j c hc
theorem zx_t1_len (g : zl_F) (i : Nat) (B : zl_B) : (zx_t1 g i B).length = B.length := by
  unfold zx_t1
  repeat' split
  all_goals first | rfl | simp
theorem zx_t1_ok {v : Nat → Int} {g : zl_F} {i : Nat} {B : zl_B} (h : zl_bd v B) (hg : zl_at v g ≤ 0) : zl_bd v (zx_t1 g i B) := by
  unfold zx_t1
  split
  · rename_i b r hb hr
    have e1 := zl_ub_ok h _ _ hr
    rw [zx_ngT_ev] at e1
    have e2 := zx_wo_ev v i g.1
    unfold zl_at at hg
    split
    · rename_i c hf
      split
      · rename_i d1 d2
        have d1 := of_decide_eq_false d1
        have hB := (h _ _ hb).resolve_left d1
        refine h.set ⟨hB.1, ?_⟩
        rw [hf] at e2
        have hc : (0 : Int) < ((c + 1 : Nat) : Int) := by omega
        have h2 : v i ≤ (r - g.2) / ((c + 1 : Nat) : Int) := by
          rw [Int.le_ediv_iff_mul_le hc, Int.mul_comm]
          have : Int.ofNat (c + 1) * v i = ((c + 1 : Nat) : Int) * v i := rfl
          rw [this] at e2
          omega
        show v i ≤ min b.2 ((r - g.2) / ((c + 1 : Nat) : Int))
        omega
      · exact h
    · rename_i c hf
      split
      · rename_i d1 d2
        have d1 := of_decide_eq_false d1
        have hB := (h _ _ hb).resolve_left d1
        refine h.set ⟨?_, hB.2⟩
        rw [hf] at e2
        have hc : (0 : Int) < ((c + 1 : Nat) : Int) := by omega
        have h2 : -(v i) ≤ (r - g.2) / ((c + 1 : Nat) : Int) := by
          rw [Int.le_ediv_iff_mul_le hc, Int.mul_comm]
          have : Int.negSucc c * v i = ((c + 1 : Nat) : Int) * -(v i) := by
            rw [show Int.negSucc c = -((c + 1 : Nat) : Int) from rfl, Int.neg_mul, Int.mul_neg]
          rw [this] at e2
          omega
        show max b.1 (-((r - g.2) / ((c + 1 : Nat) : Int))) ≤ v i
        omega
      · exact h
    · exact h
  · exact h
def zx_tg (g : zl_F) (B : zl_B) : zl_B := g.1.foldr (fun q a => zx_t1 g q.1 a) B
theorem zx_tg_len (g : zl_F) (B : zl_B) : (zx_tg g B).length = B.length := by
  unfold zx_tg
  generalize g.1 = t
  induction t with
  | nil => rfl
  | cons q t ih => rw [List.foldr_cons, zx_t1_len, ih]
theorem zx_tg_ok {v : Nat → Int} {g : zl_F} {B : zl_B} (h : zl_bd v B) (hg : zl_at v g ≤ 0) : zl_bd v (zx_tg g B) := by
  unfold zx_tg
  generalize g.1 = t
  induction t with
  | nil => exact h
  | cons q t ih => exact zx_t1_ok ih hg
/-- the relations with g: kept if it has two unknowns or more; if it can't be, '1 ≤ 0' alone -/
def zx_ac (B : zl_B) (C : List zl_F) (g : zl_F) : List zl_F := match zl_n1 B (zl_sub (zl_k 1) g) with
  | true => [zl_k 1]
  | false => (match g.1 with
    | [] => C
    | [_] => C
    | _ => g :: C)
theorem zx_ac_wf {n : Nat} {B : zl_B} {C : List zl_F} {g : zl_F} (hg : zl_wf n g) (hC : ∀ f ∈ C, zl_wf n f) : ∀ f ∈ zx_ac B C g, zl_wf n f := by
  unfold zx_ac
  split
  · intro f hf
    rw [List.mem_singleton.mp hf]; exact zl_k_wf
  · split
    · exact hC
    · exact hC
    · intro f hf
      rcases List.mem_cons.mp hf with e | e
      · rw [e]; exact hg
      · exact hC f e
theorem zx_ac_ok {v : Nat → Int} {B : zl_B} {C : List zl_F} {g : zl_F} (hB : zl_bd v B) (hg : zl_at v g ≤ 0) (hC : ∀ f ∈ C, zl_at v f ≤ 0) : ∀ f ∈ zx_ac B C g, zl_at v f ≤ 0 := by
  unfold zx_ac
  split
  · rename_i h
    have h := zl_n1_ok hB h
    rw [zl_sub_at, zl_k_at] at h
    omega
  · split
    · exact hC
    · exact hC
    · intro f hf
      rcases List.mem_cons.mp hf with e | e
      · rw [e]; exact hg
      · exact hC f e
/-- the state that knows 'g ≤ 0' too -/
def zx_as (q : zs_S) (g : zl_F) : zs_S := (zx_tg g q.1, zx_ac q.1 q.2.1 g, q.2.2)
theorem zx_as_wf {q : zs_S} {g : zl_F} (h : zs_wf q) (hg : zl_wf q.1.length g) : zs_wf (zx_as q g) := by
  unfold zs_wf zx_as
  dsimp only
  rw [zx_tg_len]
  exact ⟨zx_ac_wf hg h.1, h.2⟩
theorem zx_as_ok {D : va_G} {RT : List zr_R} {ro : Nat → Option Nat} {Ga : List Int} {nL : Nat} {q : zs_S} {v : Nat → Int} {H : Heap} {ls : Array Slot} {st : List Value} {g : zl_F} (h : zs_ok D RT ro Ga nL q v H ls st) (hg : zl_at v g ≤ 0) : zs_ok D RT ro Ga nL (zx_as q g) v H ls st :=
  ⟨zx_tg_ok h.1 hg, zx_ac_ok h.1 hg h.2.1, h.2.2⟩
/-- nothing can be in this state -/
def zx_no (q : zs_S) : Bool := match q.2.1 with
  | ([], k) :: _ => decide (0 < k)
  | _ => false
theorem zx_no_ok {D : va_G} {RT : List zr_R} {ro : Nat → Option Nat} {Ga : List Int} {nL : Nat} {q : zs_S} {v : Nat → Int} {H : Heap} {ls : Array Slot} {st : List Value} (h : zs_ok D RT ro Ga nL q v H ls st) (hn : zx_no q = true) : False := by
  unfold zx_no at hn
  split at hn
  · rename_i k t e
    have h1 := of_decide_eq_true hn
    have h2 := h.2.1 ([], k) (by rw [e]; exact List.mem_cons_self)
    simp [zl_at, zl_ev] at h2
    omega
  · cases hn
/-- the branch 'f c 0': taken (b) or not -/
def zx_br (c : Jvm.ClassFile.Cond) (b : Bool) (q : zs_S) (f : zl_F) : zs_S := match c, b with
  | .lt, true | .ge, false => zx_as q (zl_add (zl_k 1) f)
  | .lt, false | .ge, true => zx_as q (zl_neg f)
  | .gt, true | .le, false => zx_as q (zl_sub (zl_k 1) f)
  | .gt, false | .le, true => zx_as q f
  | .eq, true | .ne, false => zx_as (zx_as q f) (zl_neg f)
  | .eq, false | .ne, true => match zl_le q.1 q.2.1 f with
    | true => zx_as q (zl_add (zl_k 1) f)
    | false => (match zl_le q.1 q.2.1 (zl_neg f) with
      | true => zx_as q (zl_sub (zl_k 1) f)
      | false => q)
def zx_cb (c : Jvm.ClassFile.Cond) (z : Int) : Prop := match c with
  | .lt => z < 0
  | .ge => 0 ≤ z
  | .gt => 0 < z
  | .le => z ≤ 0
  | .eq => z = 0
  | .ne => ¬ z = 0
theorem zx_br_wf {q : zs_S} {f : zl_F} (c : Jvm.ClassFile.Cond) (b : Bool) (h : zs_wf q) (hf : zl_wf q.1.length f) : zs_wf (zx_br c b q f) := by
  have hn : zl_wf q.1.length (zl_neg f) := zl_mul_wf hf
  have h1 : zs_wf (zx_as q (zl_add (zl_k 1) f)) := zx_as_wf h (zl_add_wf zl_k_wf hf)
  have h2 : zs_wf (zx_as q (zl_sub (zl_k 1) f)) := zx_as_wf h (zl_sub_wf zl_k_wf hf)
  have h3 : zs_wf (zx_as (zx_as q f) (zl_neg f)) := zx_as_wf (zx_as_wf h hf) (by rw [show (zx_as q f).1.length = q.1.length from zx_tg_len _ _]; exact hn)
  unfold zx_br
  cases c <;> cases b <;> dsimp only <;> first | exact h1 | exact h2 | exact h3 | exact zx_as_wf h hn | exact zx_as_wf h hf | skip
  all_goals
    split
    · exact h1
    · split
      · exact h2
      · exact h
theorem zx_br_ok {D : va_G} {RT : List zr_R} {ro : Nat → Option Nat} {Ga : List Int} {nL : Nat} {q : zs_S} {v : Nat → Int} {H : Heap} {ls : Array Slot} {st : List Value} {f : zl_F} (c : Jvm.ClassFile.Cond) (b : Bool) (h : zs_ok D RT ro Ga nL q v H ls st) (hc : b = true ↔ zx_cb c (zl_at v f)) : zs_ok D RT ro Ga nL (zx_br c b q f) v H ls st := by
  have hne : ¬ zl_at v f = 0 → zs_ok D RT ro Ga nL (match zl_le q.1 q.2.1 f with
    | true => zx_as q (zl_add (zl_k 1) f)
    | false => (match zl_le q.1 q.2.1 (zl_neg f) with
      | true => zx_as q (zl_sub (zl_k 1) f)
      | false => q)) v H ls st := by
    intro hn
    split
    · rename_i e
      have := zl_le_ok h.1 h.2.1 e
      exact zx_as_ok h (by rw [zl_add_at, zl_k_at]; omega)
    · split
      · rename_i e
        have := zl_le_ok h.1 h.2.1 e
        rw [zl_neg_at] at this
        exact zx_as_ok h (by rw [zl_sub_at, zl_k_at]; omega)
      · exact h
  have heq : zl_at v f = 0 → zs_ok D RT ro Ga nL (zx_as (zx_as q f) (zl_neg f)) v H ls st := fun e => zx_as_ok (zx_as_ok h (by omega)) (by rw [zl_neg_at]; omega)
  unfold zx_br
  cases c <;> cases b <;> simp only [zx_cb, true_iff, Bool.false_eq_true, false_iff, Int.not_lt, Int.not_le, Decidable.not_not] at hc <;> dsimp only
  all_goals first
    | exact hne hc
    | exact heq hc
    | exact zx_as_ok h (by rw [zl_add_at, zl_k_at]; omega)
    | exact zx_as_ok h (by rw [zl_sub_at, zl_k_at]; omega)
    | exact zx_as_ok h (by rw [zl_neg_at]; omega)
    | exact zx_as_ok h (by omega)
