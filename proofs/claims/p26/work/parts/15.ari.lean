/-! arithmetic -/
section ZA
variable {D : va_G} {cA : Nat → ClassId} {RT : List zr_R} {ro : Nat → Option Nat} {sz : Nat} {H0 : Heap} {Ga : List Int} {nL : Nat} {G : zg_G} {pc pc' : Nat} {q : zs_S}
/-- two numbers off, one on: f where it fits -/
theorem zi_bin {k : Nat} {lo hi : Int} {za zb : zv_V} {S : List zv_V} {f : zl_F} (hS : q.2.2.2.1 = zb :: za :: S) (hf : zl_wf q.1.length za.2 → zl_wf q.1.length zb.2 → zl_wf q.1.length f)
    (op : ∀ v vx vy, zv_ok ro v vx za → zv_ok ro v vy zb → ∃ (x : Value) (z : Int), zx_nv k z x ∧ lo ≤ z ∧ z ≤ hi ∧ (lo ≤ zl_at v f → zl_at v f ≤ hi → z = zl_at v f) ∧ ∀ H locs ls st, G pc' H locs ls (x :: st) → G pc H locs ls (vy :: vx :: st))
    (K : zw D cA RT ro sz H0 Ga nL G pc' (zx_pu k lo hi q S f)) : zw D cA RT ro sz H0 Ga nL G pc q := by
  intro hw v H locs ls st h hh
  have hst := h.2.2.2.1
  rw [hS] at hst
  match st, hst with
  | vy :: vx :: st, hst =>
    have wS : ∀ z ∈ S, zv_wf q.1.length z := fun z hz => hw.2.2.1 z (by rw [hS]; exact List.mem_cons_of_mem _ (List.mem_cons_of_mem _ hz))
    have wa := hw.2.2.1 za (by rw [hS]; exact List.mem_cons_of_mem _ List.mem_cons_self)
    have wb := hw.2.2.1 zb (by rw [hS]; exact List.mem_cons_self)
    obtain ⟨x, z, hx, h1, h2, h3, row⟩ := op v vx vy hst.2.1 hst.1
    obtain ⟨v', h4⟩ := zx_pu_ok (k := k) hw wS h hst.2.2 hx h1 h2 h3
    exact row _ _ _ _ (K (zx_pu_wf hw wS (hf wa wb)) v' H locs ls _ h4 hh)
/-- one off, one on -/
theorem zi_un {k : Nat} {lo hi : Int} {za : zv_V} {S : List zv_V} {f : zl_F} (hS : q.2.2.2.1 = za :: S) (hf : zl_wf q.1.length za.2 → zl_wf q.1.length f)
    (op : ∀ v vx, zv_ok ro v vx za → ∃ (x : Value) (z : Int), zx_nv k z x ∧ lo ≤ z ∧ z ≤ hi ∧ (lo ≤ zl_at v f → zl_at v f ≤ hi → z = zl_at v f) ∧ ∀ H locs ls st, G pc' H locs ls (x :: st) → G pc H locs ls (vx :: st))
    (K : zw D cA RT ro sz H0 Ga nL G pc' (zx_pu k lo hi q S f)) : zw D cA RT ro sz H0 Ga nL G pc q := by
  intro hw v H locs ls st h hh
  have hst := h.2.2.2.1
  rw [hS] at hst
  match st, hst with
  | vx :: st, hst =>
    have wS : ∀ z ∈ S, zv_wf q.1.length z := fun z hz => hw.2.2.1 z (by rw [hS]; exact List.mem_cons_of_mem _ hz)
    have wa := hw.2.2.1 za (by rw [hS]; exact List.mem_cons_self)
    obtain ⟨x, z, hx, h1, h2, h3, row⟩ := op v vx hst.1
    obtain ⟨v', h4⟩ := zx_pu_ok (k := k) hw wS h hst.2 hx h1 h2 h3
    exact row _ _ _ _ (K (zx_pu_wf hw wS (hf wa)) v' H locs ls _ h4 hh)
/-- two off, a new unknown between lo and hi on, of which the relations Rs hold -/
def zx_fR (k : Nat) (lo hi : Int) (q : zs_S) (S : List zv_V) (Rs : List zl_F) : zs_S := Rs.foldr (fun g a => zx_as a g) (zx_fr k lo hi q S)
theorem zx_fold_len (q : zs_S) (Rs : List zl_F) : (Rs.foldr (fun g a => zx_as a g) q).1.length = q.1.length := by
  induction Rs with
  | nil => rfl
  | cons g t ih => rw [List.foldr_cons, show (zx_as _ g).1.length = _ from zx_tg_len _ _, ih]
theorem zx_fold_wf {q : zs_S} {Rs : List zl_F} (h : zs_wf q) (hR : ∀ g ∈ Rs, zl_wf q.1.length g) : zs_wf (Rs.foldr (fun g a => zx_as a g) q) := by
  induction Rs with
  | nil => exact h
  | cons g t ih => exact zx_as_wf (ih (fun x hx => hR x (List.mem_cons_of_mem _ hx))) (by rw [zx_fold_len]; exact hR g List.mem_cons_self)
theorem zx_fold_ok {q : zs_S} {v : Nat → Int} {H : Heap} {ls : Array Slot} {st : List Value} {Rs : List zl_F} (h : zs_ok D RT ro Ga nL q v H ls st) (hR : ∀ g ∈ Rs, zl_at v g ≤ 0) : zs_ok D RT ro Ga nL (Rs.foldr (fun g a => zx_as a g) q) v H ls st := by
  induction Rs with
  | nil => exact h
  | cons g t ih => exact zx_as_ok (ih (fun x hx => hR x (List.mem_cons_of_mem _ hx))) (hR g List.mem_cons_self)
theorem zi_binF {k : Nat} {lo hi : Int} {za zb : zv_V} {S : List zv_V} {Rs : List zl_F} (hS : q.2.2.2.1 = zb :: za :: S) (hRw : zl_wf q.1.length za.2 → zl_wf q.1.length zb.2 → ∀ g ∈ Rs, zl_wf (q.1.length + 1) g)
    (op : ∀ v vx vy H ls st, zs_ok D RT ro Ga nL q v H ls st → zl_wf q.1.length za.2 → zl_wf q.1.length zb.2 → zv_ok ro v vx za → zv_ok ro v vy zb → ∃ (x : Value) (z : Int), zx_nv k z x ∧ lo ≤ z ∧ z ≤ hi ∧ (∀ g ∈ Rs, zl_at (zl_up v q.1.length z) g ≤ 0) ∧ ∀ H locs ls st, G pc' H locs ls (x :: st) → G pc H locs ls (vy :: vx :: st))
    (K : zw D cA RT ro sz H0 Ga nL G pc' (zx_fR k lo hi q S Rs)) : zw D cA RT ro sz H0 Ga nL G pc q := by
  intro hw v H locs ls st h hh
  have hst := h.2.2.2.1
  rw [hS] at hst
  match st, hst with
  | vy :: vx :: st, hst =>
    have wS : ∀ z ∈ S, zv_wf q.1.length z := fun z hz => hw.2.2.1 z (by rw [hS]; exact List.mem_cons_of_mem _ (List.mem_cons_of_mem _ hz))
    have wa := hw.2.2.1 za (by rw [hS]; exact List.mem_cons_of_mem _ List.mem_cons_self)
    have wb := hw.2.2.1 zb (by rw [hS]; exact List.mem_cons_self)
    obtain ⟨x, z, hx, h1, h2, h3, row⟩ := op v vx vy H ls _ h wa wb hst.2.1 hst.1
    have el : (zx_fr k lo hi q S).1.length = q.1.length + 1 := by simp [zx_fr, zq_S, zs_new]
    refine row _ _ _ _ (K (zx_fold_wf (zx_fr_wf hw wS) (by rw [el]; exact hRw wa wb)) _ H locs ls _ (zx_fold_ok (zx_fr_ok hw wS h hst.2.2 hx h1 h2) h3) hh)
/-- the stack alone is turned -/
theorem zi_stk {S' : List zv_V} (wf : (∀ z ∈ q.2.2.2.1, zv_wf q.1.length z) → ∀ z ∈ S', zv_wf q.1.length z)
    (op : ∀ v st, zs_st ro v st q.2.2.2.1 → ∃ st', zs_st ro v st' S' ∧ ∀ H locs ls, G pc' H locs ls st' → G pc H locs ls st)
    (K : zw D cA RT ro sz H0 Ga nL G pc' (zq_S q S')) : zw D cA RT ro sz H0 Ga nL G pc q := by
  intro hw v H locs ls st h hh
  obtain ⟨st', h1, h2⟩ := op v st h.2.2.2.1
  exact h2 _ _ _ (K (zq_S_wf hw (wf hw.2.2.1)) v H locs ls st' (zq_S_ok h h1) hh)
/-- a branch by an int's form -/
theorem zi_if (c : Jvm.ClassFile.Cond) {z : zv_V} {S : List zv_V} (hS : q.2.2.2.1 = z :: S) (hk : z.1 = 0 ∨ z.1 = 3)
    (row : ∀ (x : Int32) H locs ls st, (zx_cb c x.toInt → G pc' H locs ls st) → (¬ zx_cb c x.toInt → G (pc + 3) H locs ls st) → G pc H locs ls (.int x :: st))
    (Kt : zw D cA RT ro sz H0 Ga nL G pc' (zx_br c true (zq_S q S) z.2)) (Kf : zw D cA RT ro sz H0 Ga nL G (pc + 3) (zx_br c false (zq_S q S) z.2)) : zw D cA RT ro sz H0 Ga nL G pc q := by
  intro hw v H locs ls st h hh
  have hst := h.2.2.2.1
  rw [hS] at hst
  match st, hst with
  | x :: st, hst =>
    have wS : ∀ z ∈ S, zv_wf q.1.length z := fun z hz => hw.2.2.1 z (by rw [hS]; exact List.mem_cons_of_mem _ hz)
    have wz := hw.2.2.1 z (by rw [hS]; exact List.mem_cons_self)
    have hq := zq_S_ok h hst.2
    have hqw := zq_S_wf hw wS
    obtain ⟨y, hy, hc⟩ : ∃ y : Int32, x = .int y ∧ (zx_cb c y.toInt ↔ zx_cb c (zl_at v z.2)) := by
      obtain ⟨k, f⟩ := z
      rcases hk with e | e
      · cases e
        obtain ⟨y, h1, h2⟩ := hst.1
        exact ⟨y, h1, by rw [h2]⟩
      · cases e
        obtain ⟨y, h1, h2⟩ := hst.1
        refine ⟨y, h1, ?_⟩
        rw [h2]
        show zx_cb c (zl_at v f).sign ↔ zx_cb c (zl_at v f)
        rcases Int.lt_trichotomy (zl_at v f) 0 with e | e | e
        · rw [Int.sign_eq_neg_one_of_neg e]
          cases c <;> simp [zx_cb] <;> omega
        · rw [e]; rfl
        · rw [Int.sign_eq_one_of_pos e]
          cases c <;> simp [zx_cb] <;> omega
    subst hy
    exact row y _ _ _ _ (fun e => Kt (zx_br_wf c true hqw wz) v H locs ls st (zx_br_ok c true hq ⟨fun _ => hc.mp e, fun _ => rfl⟩) hh)
      (fun e => Kf (zx_br_wf c false hqw wz) v H locs ls st (zx_br_ok c false hq ⟨fun a => (by cases a), fun a => absurd (hc.mpr a) e⟩) hh)
theorem zi_icmp (c : Jvm.ClassFile.Cond) {za zb : zv_V} {S : List zv_V} (hS : q.2.2.2.1 = zb :: za :: S) (ha : za.1 = 0) (hb : zb.1 = 0)
    (row : ∀ (x y : Int32) H locs ls st, (zx_cb c (x.toInt - y.toInt) → G pc' H locs ls st) → (¬ zx_cb c (x.toInt - y.toInt) → G (pc + 3) H locs ls st) → G pc H locs ls (.int y :: .int x :: st))
    (Kt : zw D cA RT ro sz H0 Ga nL G pc' (zx_br c true (zq_S q S) (zl_sub za.2 zb.2))) (Kf : zw D cA RT ro sz H0 Ga nL G (pc + 3) (zx_br c false (zq_S q S) (zl_sub za.2 zb.2))) : zw D cA RT ro sz H0 Ga nL G pc q := by
  intro hw v H locs ls st h hh
  have hst := h.2.2.2.1
  rw [hS] at hst
  match st, hst with
  | vy :: vx :: st, hst =>
    have wS : ∀ z ∈ S, zv_wf q.1.length z := fun z hz => hw.2.2.1 z (by rw [hS]; exact List.mem_cons_of_mem _ (List.mem_cons_of_mem _ hz))
    have wa := hw.2.2.1 za (by rw [hS]; exact List.mem_cons_of_mem _ List.mem_cons_self)
    have wb := hw.2.2.1 zb (by rw [hS]; exact List.mem_cons_self)
    have wz : zl_wf q.1.length (zl_sub za.2 zb.2) := zl_sub_wf wa wb
    have hq := zq_S_ok h hst.2.2
    have hqw := zq_S_wf hw wS
    obtain ⟨ka, fa⟩ := za
    obtain ⟨kb, fb⟩ := zb
    cases ha
    cases hb
    obtain ⟨x, hx, ex⟩ := hst.2.1
    obtain ⟨y, hy, ey⟩ := hst.1
    subst hx
    subst hy
    have hc : zx_cb c (x.toInt - y.toInt) ↔ zx_cb c (zl_at v (zl_sub fa fb)) := by
      rw [zl_sub_at]
      rw [show x.toInt = zl_at v fa from ex, show y.toInt = zl_at v fb from ey]
    exact row x y _ _ _ _ (fun e => Kt (zx_br_wf c true hqw wz) v H locs ls st (zx_br_ok c true hq ⟨fun _ => hc.mp e, fun _ => rfl⟩) hh)
      (fun e => Kf (zx_br_wf c false hqw wz) v H locs ls st (zx_br_ok c false hq ⟨fun a => (by cases a), fun a => absurd (hc.mpr a) e⟩) hh)
end ZA
