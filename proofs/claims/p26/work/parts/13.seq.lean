/-! steps of abstract states, one instruction behind another; G pc H locs ls st: from there the machine comes to its goal -/
abbrev zg_G : Type := Nat → Heap → List Loc → Array Slot → List Value → Prop
def zw (D : va_G) (cA : Nat → ClassId) (RT : List zr_R) (ro : Nat → Option Nat) (sz : Nat) (H0 : Heap) (Ga : List Int) (nL : Nat) (G : zg_G) (pc : Nat) (q : zs_S) : Prop :=
  zs_wf q → ∀ (v : Nat → Int) (H : Heap) (locs : List Loc) (ls : Array Slot) (st : List Value), zs_ok D RT ro Ga nL q v H ls st → zh_ok D cA RT ro sz H0 H locs → G pc H locs ls st
def zq_S (q : zs_S) (S : List zv_V) : zs_S := (q.1, q.2.1, q.2.2.1, S, q.2.2.2.2)
theorem zq_S_wf {q : zs_S} {S : List zv_V} (h : zs_wf q) (hS : ∀ z ∈ S, zv_wf q.1.length z) : zs_wf (zq_S q S) := ⟨h.1, h.2.1, hS, h.2.2.2⟩
theorem zq_S_ok {D : va_G} {RT : List zr_R} {ro : Nat → Option Nat} {Ga : List Int} {nL : Nat} {q : zs_S} {v : Nat → Int} {H : Heap} {ls : Array Slot} {st st' : List Value} {S : List zv_V} (h : zs_ok D RT ro Ga nL q v H ls st) (hS : zs_st ro v st' S) : zs_ok D RT ro Ga nL (zq_S q S) v H ls st' := ⟨h.1, h.2.1, h.2.2.1, hS, h.2.2.2.2⟩
/-- f between lo and hi, by what the state knows -/
def zx_in (q : zs_S) (lo hi : Int) (f : zl_F) : Bool := zl_le q.1 q.2.1 (zl_sub f (zl_k hi)) && zl_le q.1 q.2.1 (zl_sub (zl_k lo) f)
theorem zx_in_ok {D : va_G} {RT : List zr_R} {ro : Nat → Option Nat} {Ga : List Int} {nL : Nat} {q : zs_S} {v : Nat → Int} {H : Heap} {ls : Array Slot} {st : List Value} (h : zs_ok D RT ro Ga nL q v H ls st) {lo hi : Int} {f : zl_F} (hi' : zx_in q lo hi f = true) : lo ≤ zl_at v f ∧ zl_at v f ≤ hi := by
  unfold zx_in at hi'
  rw [Bool.and_eq_true] at hi'
  have h1 := zl_le_ok h.1 h.2.1 hi'.1
  have h2 := zl_le_ok h.1 h.2.1 hi'.2
  rw [zl_sub_at, zl_k_at] at h1 h2
  omega
/-- push a number of kind k (0, 1) that is f if f is between lo and hi, else a new unknown between them -/
def zx_pu (k : Nat) (lo hi : Int) (q : zs_S) (S : List zv_V) (f : zl_F) : zs_S := match zx_in q lo hi f with
  | true => zq_S q ((k, f) :: S)
  | false => zq_S (zs_new q lo hi) ((k, zl_id q.1.length) :: S)
/-- push a new unknown between lo and hi -/
def zx_fr (k : Nat) (lo hi : Int) (q : zs_S) (S : List zv_V) : zs_S := zq_S (zs_new q lo hi) ((k, zl_id q.1.length) :: S)
def zx_nv (k : Nat) (z : Int) (x : Value) : Prop := (k = 0 ∧ ∃ y : Int32, x = .int y ∧ y.toInt = z) ∨ (k = 1 ∧ ∃ y : Int64, x = .long y ∧ y.toInt = z)
theorem zx_nv.ok {ro : Nat → Option Nat} {v : Nat → Int} {k : Nat} {z : Int} {x : Value} {f : zl_F} (h : zx_nv k z x) (e : z = zl_at v f) : zv_ok ro v x (k, f) := by
  rcases h with ⟨rfl, y, h1, h2⟩ | ⟨rfl, y, h1, h2⟩
  · exact ⟨y, h1, by rw [h2]; exact e⟩
  · exact ⟨y, h1, by rw [h2]; exact e⟩
section ZQ
variable {D : va_G} {cA : Nat → ClassId} {RT : List zr_R} {ro : Nat → Option Nat} {sz : Nat} {H0 : Heap} {Ga : List Int} {nL : Nat} {G : zg_G} {pc pc' : Nat} {q : zs_S}
theorem zx_fr_wf {k : Nat} {lo hi : Int} {S : List zv_V} (hw : zs_wf q) (hS : ∀ z ∈ S, zv_wf q.1.length z) : zs_wf (zx_fr k lo hi q S) := by
  have e : (zs_new q lo hi).1.length = q.1.length + 1 := by simp [zs_new]
  refine zq_S_wf (zs_new_wf hw) (fun z hz => ?_)
  rcases List.mem_cons.mp hz with h | h
  · rw [h]; exact zl_id_wf (by omega)
  · exact zl_wf.mono (hS z h) (by omega)
theorem zx_pu_wf {k : Nat} {lo hi : Int} {S : List zv_V} {f : zl_F} (hw : zs_wf q) (hS : ∀ z ∈ S, zv_wf q.1.length z) (hf : zl_wf q.1.length f) : zs_wf (zx_pu k lo hi q S f) := by
  unfold zx_pu
  split
  · refine zq_S_wf hw (fun z hz => ?_)
    rcases List.mem_cons.mp hz with h | h
    · rw [h]; exact hf
    · exact hS z h
  · exact zx_fr_wf hw hS
theorem zx_fr_ok {k : Nat} {lo hi z : Int} {S : List zv_V} {v : Nat → Int} {H : Heap} {ls : Array Slot} {st st' : List Value} {x : Value} (hw : zs_wf q) (hSw : ∀ z ∈ S, zv_wf q.1.length z) (h : zs_ok D RT ro Ga nL q v H ls st) (hS : zs_st ro v st' S) (hx : zx_nv k z x) (h1 : lo ≤ z) (h2 : z ≤ hi) :
    zs_ok D RT ro Ga nL (zx_fr k lo hi q S) (zl_up v q.1.length z) H ls (x :: st') := by
  refine zq_S_ok (zs_new_ok hw h (Or.inr ⟨h1, h2⟩)) ⟨hx.ok ?_, zs_st.up hSw hS⟩
  rw [zl_id_at]; simp [zl_up]
theorem zx_pu_ok {k : Nat} {lo hi z : Int} {S : List zv_V} {f : zl_F} {v : Nat → Int} {H : Heap} {ls : Array Slot} {st st' : List Value} {x : Value} (hw : zs_wf q) (hSw : ∀ z ∈ S, zv_wf q.1.length z) (h : zs_ok D RT ro Ga nL q v H ls st) (hS : zs_st ro v st' S) (hx : zx_nv k z x) (h1 : lo ≤ z) (h2 : z ≤ hi) (hf : lo ≤ zl_at v f → zl_at v f ≤ hi → z = zl_at v f) :
    ∃ v', zs_ok D RT ro Ga nL (zx_pu k lo hi q S f) v' H ls (x :: st') := by
  unfold zx_pu
  split
  · rename_i hin
    obtain ⟨g1, g2⟩ := zx_in_ok h hin
    exact ⟨v, zq_S_ok h ⟨hx.ok (hf g1 g2), hS⟩⟩
  · exact ⟨_, zx_fr_ok hw hSw h hS hx h1 h2⟩
/-- a constant -/
theorem zi_const {k : Nat} {n : Int} {x : Value} (hx : zx_nv k n x) (row : ∀ H locs ls st, G pc' H locs ls (x :: st) → G pc H locs ls st)
    (K : zw D cA RT ro sz H0 Ga nL G pc' (zq_S q ((k, zl_k n) :: q.2.2.2.1))) : zw D cA RT ro sz H0 Ga nL G pc q := by
  intro hw v H locs ls st h hh
  refine row _ _ _ _ (K (zq_S_wf hw (fun z hz => ?_)) v H locs ls _ (zq_S_ok h ⟨hx.ok (zl_k_at v n).symm, h.2.2.2.1⟩) hh)
  rcases List.mem_cons.mp hz with e | e
  · rw [e]; exact zl_k_wf
  · exact hw.2.2.1 z e
/-- null -/
theorem zi_null (row : ∀ H locs ls st, G pc' H locs ls (.null :: st) → G pc H locs ls st)
    (K : zw D cA RT ro sz H0 Ga nL G pc' (zq_S q ((2, zl_k (-1)) :: q.2.2.2.1))) : zw D cA RT ro sz H0 Ga nL G pc q := by
  intro hw v H locs ls st h hh
  refine row _ _ _ _ (K (zq_S_wf hw (fun z hz => ?_)) v H locs ls _ (zq_S_ok h ⟨⟨rfl, zl_k_at v (-1)⟩, h.2.2.2.1⟩) hh)
  rcases List.mem_cons.mp hz with e | e
  · rw [e]; exact zl_k_wf
  · exact hw.2.2.1 z e
/-- loads -/
def zx_get (L : List (Nat × zv_V)) (i : Nat) : Option zv_V := match L with
  | [] => none
  | e :: t => match Nat.beq e.1 i with
    | true => some e.2
    | false => zx_get t i
theorem zx_get_mem {L : List (Nat × zv_V)} {i : Nat} {z : zv_V} (h : zx_get L i = some z) : (i, z) ∈ L := by
  induction L with
  | nil => cases h
  | cons e t ih =>
    unfold zx_get at h
    split at h
    · rename_i he
      have he := Nat.eq_of_beq_eq_true he
      obtain ⟨a, b⟩ := e
      cases h
      subst he
      exact List.mem_cons_self
    · exact List.mem_cons_of_mem _ (ih h)
theorem zi_load {i : Nat} {z : zv_V} (hz : zx_get q.2.2.1 i = some z) (row : ∀ v H locs ls st x, zv_ok ro v x z → ls[i]? = some (.val x) → G pc' H locs ls (x :: st) → G pc H locs ls st)
    (K : zw D cA RT ro sz H0 Ga nL G pc' (zq_S q (z :: q.2.2.2.1))) : zw D cA RT ro sz H0 Ga nL G pc q := by
  intro hw v H locs ls st h hh
  have hm := zx_get_mem hz
  obtain ⟨lv, hlv, hL⟩ := h.2.2.1
  obtain ⟨x, hx, hok⟩ := hL _ hm
  refine row v _ _ _ _ x hok (hlv.2.2 _ hx) (K (zq_S_wf hw (fun y hy => ?_)) v H locs ls _ (zq_S_ok h ⟨hok, h.2.2.2.1⟩) hh)
  rcases List.mem_cons.mp hy with e | e
  · rw [e]; exact hw.2.1 _ hm
  · exact hw.2.2.1 y e
/-- stores -/
def zx_put (L : List (Nat × zv_V)) (i : Nat) (z : zv_V) : List (Nat × zv_V) :=
  (i, z) :: L.filter (fun e => !(Nat.beq e.1 i) && !(Nat.beq e.1 (i + 1) && Nat.beq z.1 1) && !(Nat.beq (e.1 + 1) i && Nat.beq e.2.1 1))
def zq_LS (q : zs_S) (L : List (Nat × zv_V)) (S : List zv_V) : zs_S := (q.1, q.2.1, L, S, q.2.2.2.2)
theorem zi_store {i : Nat} {z : zv_V} {S : List zv_V} (hS : q.2.2.2.1 = z :: S)
    (row : ∀ v H locs ls st x lv, zv_ok ro v x z → lv_has ls nL lv → (∀ ls', (∃ lv', lv_has ls' nL lv' ∧ (i, x) ∈ lv' ∧ ∀ j y, (j, y) ∈ lv → ¬ j = i → ¬ (j = i + 1 ∧ z.1 = 1) → ¬ (j + 1 = i ∧ y.category = 2) → (j, y) ∈ lv') → G pc' H locs ls' st) → G pc H locs ls (x :: st))
    (K : zw D cA RT ro sz H0 Ga nL G pc' (zq_LS q (zx_put q.2.2.1 i z) S)) : zw D cA RT ro sz H0 Ga nL G pc q := by
  intro hw v H locs ls st h hh
  obtain ⟨hB, hC, ⟨lv, hlv, hL⟩, hst, hF⟩ := h
  rw [hS] at hst
  match st, hst with
  | x :: st, hst =>
    refine row v _ _ _ _ x lv hst.1 hlv (fun ls' ⟨lv', h1, h2, h3⟩ => K ?_ v H locs ls' st ⟨hB, hC, ⟨lv', h1, fun e he => ?_⟩, hst.2, hF⟩ hh)
    · refine ⟨hw.1, fun e he => ?_, fun y hy => hw.2.2.1 y (by rw [hS]; exact List.mem_cons_of_mem _ hy), hw.2.2.2⟩
      rcases List.mem_cons.mp he with e' | e'
      · rw [e']; exact hw.2.2.1 z (by rw [hS]; exact List.mem_cons_self)
      · exact hw.2.1 e (List.mem_filter.mp e').1
    · rcases List.mem_cons.mp he with e' | e'
      · rw [e']; exact ⟨x, h2, hst.1⟩
      · obtain ⟨m1, m2⟩ := List.mem_filter.mp e'
        obtain ⟨y, y1, y2⟩ := hL e m1
        simp only [Bool.and_eq_true, Bool.not_eq_true', Bool.and_eq_false_iff] at m2
        obtain ⟨⟨m3, m4⟩, m5⟩ := m2
        refine ⟨y, h3 _ _ y1 (fun g => ?_) (fun g => ?_) (fun g => ?_), y2⟩
        · rw [g, Nat.beq_refl] at m3; cases m3
        · rw [g.1, g.2, Nat.beq_refl, Nat.beq_refl] at m4; rcases m4 with m | m <;> cases m
        · rw [g.1, Nat.beq_refl] at m5
          have c := zv_cat y2
          rw [g.2] at c
          by_cases k : e.2.1 = 1
          · rw [k, Nat.beq_refl] at m5; rcases m5 with m | m <;> cases m
          · rw [if_neg k] at c; cases c
end ZQ
