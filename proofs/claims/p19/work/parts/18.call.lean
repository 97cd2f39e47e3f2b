/-! calls. A contract: types of the arguments; fields before ((argument, role, field), type); relations before; fields that it may change (role, field); fields behind (argument, role, field); alternatives (type of the answer, types of the fields behind, relations). Relations speak of the numbers: the arguments', the fields' before, the answer, the fields' behind -/
abbrev zc_A : Type := Option zt_T × List zt_T × List zl_F
abbrev zc_C : Type := List zt_T × List ((Nat × Nat × Nat) × zt_T) × List zl_F × List (Nat × Nat) × List (Nat × Nat × Nat) × List zc_A
def zi_of (x : Value) : Int := match x with
  | .int y => y.toInt
  | .long y => y.toInt
  | .ref a => (a : Int)
  | _ => -1
theorem zi_of_ok {ro : Nat → Option Nat} {v : Nat → Int} {x : Value} {z : zv_V} (h : zv_ok ro v x z) (h3 : z.1 ≠ 3) : zi_of x = zl_at v z.2 := by
  obtain ⟨k, f⟩ := z
  match k with
  | 0 => obtain ⟨a, h1, h2⟩ := h; rw [h1]; exact h2
  | 1 => obtain ⟨a, h1, h2⟩ := h; rw [h1]; exact h2
  | 2 => rw [h.1]; exact h.2.symm
  | 3 => exact absurd rfl h3
  | k + 4 =>
    rcases h with ⟨-, h1, h2⟩ | ⟨a, h1, -, h2⟩
    · rw [h1]; exact h2.symm
    · rw [h1]; exact h2
def zr_ci (RT : List zr_R) (r : Nat) : Nat := match RT[r]? with
  | some e => e.2.1
  | none => 0
/-- the field (argument, role, field) in the heap -/
def zc_fv (D : va_G) (RT : List zr_R) (H : Heap) (vs : List Value) (p : Nat × Nat × Nat) : Value := match vs[p.1]? with
  | some (.ref a) => zh_f D H a (zr_ci RT p.2.1) p.2.2
  | _ => .null
def zt_all (ro : Nat → Option Nat) : List Value → List zt_T → Prop
  | [], [] => True
  | x :: xs, t :: ts => zt_ok ro x t ∧ zt_all ro xs ts
  | _, _ => False
def zc_pre (D : va_G) (RT : List zr_R) (ro : Nat → Option Nat) (c : zc_C) (H : Heap) (vs : List Value) : Prop :=
  zt_all ro vs c.1 ∧ (∀ e ∈ c.2.1, zt_ok ro (zc_fv D RT H vs e.1) e.2) ∧ ∀ f ∈ c.2.2.1, zl_at (fun u => (vs.map zi_of ++ c.2.1.map (fun e => zi_of (zc_fv D RT H vs e.1))).getD u 0) f ≤ 0
def zc_keptF (D : va_G) (RT : List zr_R) (ro : Nat → Option Nat) (ms : List (Nat × Nat)) (H H' : Heap) : Prop := ∀ (a r k ci n : Nat) (fs : List zt_T), ro a = some r → RT[r]? = some (0, ci, n, fs) → k < fs.length → (r, k) ∉ ms → zh_f D H' a ci k = zh_f D H a ci k
/-- arrays: what is not told to change stays, cell by cell -/
def zc_keptA (RT : List zr_R) (ro : Nat → Option Nat) (ms : List (Nat × Nat)) (H H' : Heap) : Prop := ∀ (a r kd ti n : Nat) (fs : List zt_T), ro a = some r → RT[r]? = some (kd + 1, ti, n, fs) → (r, 0) ∉ ms → H'[a]? = H[a]?
def zc_kept (D : va_G) (RT : List zr_R) (ro : Nat → Option Nat) (ms : List (Nat × Nat)) (H H' : Heap) : Prop := zc_keptF D RT ro ms H H' ∧ zc_keptA RT ro ms H H'
def zc_res (ro : Nat → Option Nat) : Option zt_T → Option Value → Prop
  | some t, some x => zt_ok ro x t
  | none, none => True
  | _, _ => False
def zc_rv (x : Option Value) : Int := match x with
  | some y => zi_of y
  | none => 0
def zc_env (D : va_G) (RT : List zr_R) (c : zc_C) (H H' : Heap) (vs : List Value) (x : Option Value) : List Int :=
  vs.map zi_of ++ c.2.1.map (fun e => zi_of (zc_fv D RT H vs e.1)) ++ zc_rv x :: c.2.2.2.2.1.map (fun e => zi_of (zc_fv D RT H' vs e))
def zc_post (D : va_G) (RT : List zr_R) (ro : Nat → Option Nat) (c : zc_C) (al : zc_A) (H H' : Heap) (vs : List Value) (x : Option Value) : Prop :=
  zc_res ro al.1 x ∧ zt_all ro (c.2.2.2.2.1.map (zc_fv D RT H' vs)) al.2.1 ∧ ∀ f ∈ al.2.2, zl_at (fun u => (zc_env D RT c H H' vs x).getD u 0) f ≤ 0
/-- the row of a call by a contract -/
def zc_row (D : va_G) (cA : Nat → ClassId) (RT : List zr_R) (ro : Nat → Option Nat) (sz : Nat) (H0 : Heap) (nL : Nat) (G : zg_G) (pc pc' : Nat) (c : zc_C) : Prop :=
  ∀ H locs (ls : Array Slot) st (vs : List Value), ls.size = nL → (st.map fun v => v.category).sum ≤ 8 → zh_ok D cA RT ro sz H0 H locs → zc_pre D RT ro c H vs →
    (∀ H' locs' x, zh_ok D cA RT ro sz H0 H' locs' → zc_kept D RT ro c.2.2.2.1 H H' → (∃ al ∈ c.2.2.2.2.2, zc_post D RT ro c al H H' vs x) → G pc' H' locs' ls (x.toList ++ st)) → G pc H locs ls (vs.reverse ++ st)
def zl_sb (σ : List zl_F) : zl_T → zl_F
  | [] => zl_k 0
  | q :: t => zl_add (zl_mul q.2 (σ.getD q.1 (zl_k 0))) (zl_sb σ t)
def zl_sB (σ : List zl_F) (f : zl_F) : zl_F := zl_add (zl_sb σ f.1) (zl_k f.2)
theorem zl_sB_at (v : Nat → Int) (σ : List zl_F) (f : zl_F) : zl_at v (zl_sB σ f) = zl_at (fun u => (σ.map (zl_at v)).getD u 0) f := by
  have h : ∀ t : zl_T, zl_at v (zl_sb σ t) = zl_ev (fun u => (σ.map (zl_at v)).getD u 0) t := by
    intro t
    induction t with
    | nil => simp [zl_sb, zl_k_at, zl_ev]
    | cons q t ih =>
      simp only [zl_sb, zl_add_at, zl_mul_at, ih, zl_ev]
      have : zl_at v (σ.getD q.1 (zl_k 0)) = (σ.map (zl_at v)).getD q.1 0 := by
        simp only [List.getD_eq_getElem?_getD, List.getElem?_map]
        cases σ[q.1]? with
        | none => simp [zl_k_at]
        | some y => simp
      rw [this]
  unfold zl_sB
  rw [zl_add_at, h, zl_k_at]
  rfl
theorem zl_sB_wf {n : Nat} {σ : List zl_F} (f : zl_F) (h : ∀ g ∈ σ, zl_wf n g) : zl_wf n (zl_sB σ f) := by
  refine zl_add_wf ?_ zl_k_wf
  obtain ⟨t, k⟩ := f
  show zl_wf n (zl_sb σ t)
  induction t with
  | nil => exact zl_k_wf
  | cons q t ih =>
    refine zl_add_wf (zl_mul_wf ?_) ih
    rw [List.getD_eq_getElem?_getD]
    cases hq : σ[q.1]? with
    | none => exact zl_k_wf
    | some y => exact h y (List.mem_of_getElem? hq)
/-- the values of the types -/
def zx_tys (q : zs_S) : List zv_V → List zt_T → Bool
  | [], [] => true
  | z :: zs, t :: ts => zx_ty q z t && zx_tys q zs ts
  | _, _ => false
theorem zx_ty_3 {q : zs_S} {z : zv_V} {t : zt_T} (h : zx_ty q z t = true) : z.1 ≠ 3 := by
  obtain ⟨k, lo, hi⟩ := t
  intro e
  match k with
  | 0 => simp only [zx_ty, e, Bool.and_eq_true] at h; exact absurd h.1 (by decide)
  | 1 => simp only [zx_ty, e, Bool.and_eq_true] at h; exact absurd h.1 (by decide)
  | 2 => cases h
  | 3 => cases h
  | k + 4 =>
    simp only [zx_ty, e, Bool.or_eq_true, Bool.and_eq_true] at h
    rcases h with h | ⟨h1, h | h⟩
    · have := Nat.eq_of_beq_eq_true h; omega
    · exact absurd h (by decide)
    · have := Nat.eq_of_beq_eq_true h
      have := Nat.eq_of_beq_eq_true h1
      omega
/-- the facts of the fields before, of which each stands in the state -/
def zx_pf0 (q : zs_S) (zs : List zv_V) (p : Nat × Nat × Nat) : Option zv_V := match zs[p.1]? with
  | some z => (match Nat.beq z.1 (4 + 2 * p.2.1), zx_un z.2 with
    | true, some i => zf_get q.2.2.2.2.1 i p.2.1 p.2.2
    | _, _ => none)
  | none => none
def zx_pfs (q : zs_S) (zs : List zv_V) : List ((Nat × Nat × Nat) × zt_T) → Option (List zv_V)
  | [] => some []
  | e :: t => match zx_pf0 q zs e.1, zx_pfs q zs t with
    | some z, some r => (match zx_ty q z e.2 with
      | true => some (z :: r)
      | false => none)
    | _, _ => none
/-- the weight of operands -/
def zx_wt : List zv_V → Nat
  | [] => 0
  | z :: t => (match Nat.beq z.1 1 with
    | true => 2
    | false => 1) + zx_wt t
theorem zx_wt_ok {ro : Nat → Option Nat} {v : Nat → Int} : ∀ {st : List Value} {S : List zv_V}, zs_st ro v st S → (st.map fun v => v.category).sum = zx_wt S
  | [], [], _ => rfl
  | x :: st, z :: S, h => by
    have e0 : zx_wt (z :: S) = (match Nat.beq z.1 1 with
      | true => 2
      | false => 1) + zx_wt S := rfl
    rw [List.map_cons, List.sum_cons, zx_wt_ok h.2, zv_cat h.1, e0]
    by_cases e : z.1 = 1
    · rw [if_pos e, e]
    · rw [if_neg e, show Nat.beq z.1 1 = false by
        cases g : Nat.beq z.1 1 with
        | true => exact absurd (Nat.eq_of_beq_eq_true g) e
        | false => rfl]
  | [], _ :: _, h => h.elim
  | _ :: _, [], h => h.elim
