/-! points: (pc, bounds, relations, locals (place, kind), kinds of the operands, facts ((place of the object among the unknowns, role, field), kind), how many numbers stay, measures). The unknowns are numbered: locals, operands, facts, numbers that stay -/
abbrev zp_P : Type := Nat × zl_B × List zl_F × List (Nat × Nat) × List Nat × List ((Nat × Nat × Nat) × Nat) × Nat × List zl_F
def zp_L : Nat → List (Nat × Nat) → List (Nat × zv_V)
  | _, [] => []
  | n, e :: t => (e.1, (e.2, zl_id n)) :: zp_L (n + 1) t
def zp_S : Nat → List Nat → List zv_V
  | _, [] => []
  | n, k :: t => (k, zl_id n) :: zp_S (n + 1) t
def zp_F : Nat → List ((Nat × Nat × Nat) × Nat) → List ((Nat × Nat × Nat) × zv_V)
  | _, [] => []
  | n, e :: t => (e.1, (e.2, zl_id n)) :: zp_F (n + 1) t
def zp_G : Nat → Nat → List zl_F
  | _, 0 => []
  | n, k + 1 => zl_id n :: zp_G (n + 1) k
def zp_mk (P : zp_P) : zs_S := (P.2.1, P.2.2.1, zp_L 0 P.2.2.2.1, zp_S P.2.2.2.1.length P.2.2.2.2.1, zp_F (P.2.2.2.1.length + P.2.2.2.2.1.length) P.2.2.2.2.2.1, zp_G (P.2.2.2.1.length + P.2.2.2.2.1.length + P.2.2.2.2.2.1.length) P.2.2.2.2.2.2.1)
/-- the kinds: a is b, or null or not null where b may be null -/
def zx_co (a b : Nat) : Bool := (Nat.beq a b && !(Nat.beq a 3)) || (Nat.ble 5 b && Nat.beq (b % 2) 1 && (Nat.beq a 2 || Nat.beq (a + 1) b))
theorem zx_co_ok {ro : Nat → Option Nat} {v v' : Nat → Int} {x : Value} {a b : Nat} {f g : zl_F} (h : zv_ok ro v x (a, f)) (hc : zx_co a b = true) (e : zl_at v' g = zl_at v f) : zv_ok ro v' x (b, g) := by
  unfold zx_co at hc
  simp only [Bool.or_eq_true, Bool.and_eq_true, Bool.not_eq_true'] at hc
  rcases hc with ⟨h1, h2⟩ | ⟨⟨h1, h2⟩, h3 | h3⟩
  · have h1 := Nat.eq_of_beq_eq_true h1
    subst h1
    match a, h with
    | 0, h => obtain ⟨y, k1, k2⟩ := h; exact ⟨y, k1, by rw [e]; exact k2⟩
    | 1, h => obtain ⟨y, k1, k2⟩ := h; exact ⟨y, k1, by rw [e]; exact k2⟩
    | 2, h => exact ⟨h.1, by rw [e]; exact h.2⟩
    | 3, h => exact absurd h2 (by decide)
    | k + 4, h =>
      rcases h with ⟨k1, k2, k3⟩ | ⟨y, k1, k2, k3⟩
      · exact Or.inl ⟨k1, k2, by rw [e]; exact k3⟩
      · exact Or.inr ⟨y, k1, k2, by rw [e]; exact k3⟩
  · have h1 := Nat.le_of_ble_eq_true h1
    have h2 := Nat.eq_of_beq_eq_true h2
    have h3 := Nat.eq_of_beq_eq_true h3
    subst h3
    obtain ⟨k, rfl⟩ : ∃ k, b = k + 4 := ⟨b - 4, by omega⟩
    exact Or.inl ⟨by omega, h.1, by rw [e]; exact h.2⟩
  · have h1 := Nat.le_of_ble_eq_true h1
    have h2 := Nat.eq_of_beq_eq_true h2
    have h3 := Nat.eq_of_beq_eq_true h3
    obtain ⟨k, rfl⟩ : ∃ k, a = k + 4 := ⟨a - 4, by omega⟩
    have : b = k + 1 + 4 := by omega
    subst this
    rcases h with ⟨k1, k2, k3⟩ | ⟨y, k1, k2, k3⟩
    · omega
    · exact Or.inr ⟨y, k1, by rw [show (k + 1) / 2 = k / 2 by omega]; exact k2, by rw [e]; exact k3⟩
/-- what the unknowns of the point are in a state -/
def zp_sL (L : List (Nat × zv_V)) : List (Nat × Nat) → Option (List zl_F)
  | [] => some []
  | e :: t => match zx_get L e.1, zp_sL L t with
    | some z, some r => (match zx_co z.1 e.2 with
      | true => some (z.2 :: r)
      | false => none)
    | _, _ => none
def zp_sS : List zv_V → List Nat → Option (List zl_F)
  | [], [] => some []
  | z :: S, k :: t => match zp_sS S t with
    | some r => (match zx_co z.1 k with
      | true => some (z.2 :: r)
      | false => none)
    | none => none
  | _, _ => none
def zp_sF (F : List ((Nat × Nat × Nat) × zv_V)) (σ : List zl_F) : List ((Nat × Nat × Nat) × Nat) → Option (List zl_F)
  | [] => some []
  | e :: t => match zx_un (σ.getD e.1.1 (zl_k 0)), zp_sF F σ t with
    | some i, some r => (match zf_get F i e.1.2.1 e.1.2.2 with
      | some z => (match zx_co z.1 e.2 with
        | true => some (z.2 :: r)
        | false => none)
      | none => none)
    | _, _ => none
def zp_sg (q : zs_S) (P : zp_P) : Option (List zl_F) := match zp_sL q.2.2.1 P.2.2.2.1, zp_sS q.2.2.2.1 P.2.2.2.2.1 with
  | some a, some b => (match zp_sF q.2.2.2.2.1 (a ++ b) P.2.2.2.2.2.1, Nat.beq q.2.2.2.2.2.length P.2.2.2.2.2.2.1 with
    | some c, true => some (a ++ b ++ c ++ q.2.2.2.2.2)
    | _, _ => none)
  | _, _ => none
def zp_bs (q : zs_S) : List zl_F → zl_B → Bool
  | _, [] => true
  | [], _ :: _ => false
  | f :: σ, b :: B => (decide (b.2 < b.1) || zx_in q b.1 b.2 f) && zp_bs q σ B
/-- the state is one of the point's -/
def zp_in (q : zs_S) (P : zp_P) (σ : List zl_F) : Bool := zp_bs q σ P.2.1 && P.2.2.1.all (fun f => zl_le q.1 q.2.1 (zl_sB σ f))
section ZP
variable {D : va_G} {cA : Nat → ClassId} {RT : List zr_R} {ro : Nat → Option Nat} {sz : Nat} {H0 : Heap} {Ga : List Int} {nL : Nat} {G : zg_G} {q : zs_S}
theorem zp_sL_ok {v v' : Nat → Int} {lv : List (Nat × Value)} {L : List (Nat × zv_V)} (hL : ∀ e ∈ L, ∃ x : Value, (e.1, x) ∈ lv ∧ zv_ok ro v x e.2) : ∀ {Ls : List (Nat × Nat)} {a : List zl_F} {n : Nat}, zp_sL L Ls = some a → (∀ (i : Nat) (f : zl_F), a[i]? = some f → v' (n + i) = zl_at v f) → a.length = Ls.length ∧ ∀ e ∈ zp_L n Ls, ∃ x : Value, (e.1, x) ∈ lv ∧ zv_ok ro v' x e.2
  | [], a, n, h, _ => by
    simp only [zp_sL, Option.some.injEq] at h
    subst h
    exact ⟨rfl, fun e he => (by cases he)⟩
  | e :: t, a, n, h, hv => by
    unfold zp_sL at h
    split at h
    · rename_i z r h1 h2
      split at h
      · rename_i h3
        cases h
        have h0 := hv 0 z.2 rfl
        obtain ⟨g1, g2⟩ := zp_sL_ok (n := n + 1) hL h2 (fun i f hf => by rw [show n + 1 + i = n + (i + 1) by omega]; exact hv (i + 1) f (by simpa using hf))
        refine ⟨by simp [g1], fun x hx => ?_⟩
        rcases List.mem_cons.mp hx with e' | e'
        · rw [e']
          obtain ⟨y, k1, k2⟩ := hL _ (zx_get_mem h1)
          exact ⟨y, k1, zx_co_ok k2 h3 (by rw [zl_id_at]; exact h0)⟩
        · exact g2 x e'
      · cases h
    · cases h
theorem zp_sS_ok {v v' : Nat → Int} : ∀ {Ss : List Nat} {S : List zv_V} {st : List Value} {a : List zl_F} {n : Nat}, zp_sS S Ss = some a → zs_st ro v st S → (∀ (i : Nat) (f : zl_F), a[i]? = some f → v' (n + i) = zl_at v f) → a.length = Ss.length ∧ zs_st ro v' st (zp_S n Ss)
  | [], [], [], a, n, h, _, _ => by
    simp only [zp_sS, Option.some.injEq] at h
    subst h
    exact ⟨rfl, trivial⟩
  | k :: t, z :: S, x :: st, a, n, h, hs, hv => by
    unfold zp_sS at h
    split at h
    · rename_i r h2
      split at h
      · rename_i h3
        cases h
        have h0 := hv 0 z.2 rfl
        obtain ⟨g1, g2⟩ := zp_sS_ok (n := n + 1) h2 hs.2 (fun i f hf => by rw [show n + 1 + i = n + (i + 1) by omega]; exact hv (i + 1) f (by simpa using hf))
        exact ⟨by simp [g1], zx_co_ok hs.1 h3 (by rw [zl_id_at]; exact h0), g2⟩
      · cases h
    · cases h
  | [], [], _ :: _, _, _, _, h, _ => h.elim
  | [], _ :: _, _, _, _, h, _, _ => by simp [zp_sS] at h
  | _ :: _, [], _, _, _, h, _, _ => by simp [zp_sS] at h
  | _ :: _, _ :: _, [], _, _, _, h, _ => h.elim
theorem zp_sF_ok {v v' : Nat → Int} {H : Heap} {F : List ((Nat × Nat × Nat) × zv_V)} {σ : List zl_F} (hF : ∀ e ∈ F, zs_fact D RT ro v H e) (hσ : ∀ (u : Nat) (f : zl_F), σ[u]? = some f → v' u = zl_at v f) : ∀ {Fs : List ((Nat × Nat × Nat) × Nat)} {a : List zl_F} {n : Nat}, zp_sF F σ Fs = some a → (∀ (i : Nat) (f : zl_F), a[i]? = some f → v' (n + i) = zl_at v f) → a.length = Fs.length ∧ ∀ e ∈ zp_F n Fs, zs_fact D RT ro v' H e
  | [], a, n, h, _ => by
    simp only [zp_sF, Option.some.injEq] at h
    subst h
    exact ⟨rfl, fun e he => (by cases he)⟩
  | e :: t, a, n, h, hv => by
    unfold zp_sF at h
    split at h
    · rename_i i r h1 h2
      split at h
      · rename_i z h4
        split at h
        · rename_i h3
          cases h
          have h0 := hv 0 z.2 rfl
          obtain ⟨g1, g2⟩ := zp_sF_ok (n := n + 1) hF hσ h2 (fun i f hf => by rw [show n + 1 + i = n + (i + 1) by omega]; exact hv (i + 1) f (by simpa using hf))
          refine ⟨by simp [g1], fun x hx => ?_⟩
          rcases List.mem_cons.mp hx with e' | e'
          · rw [e']
            obtain ⟨ad, ci, m, fs, k1, k2, k3, k4, k5⟩ := hF _ (zf_get_mem h4)
            refine ⟨ad, ci, m, fs, ?_, k2, k3, k4, zx_co_ok k5 h3 (by rw [zl_id_at]; exact h0)⟩
            dsimp only at k1 ⊢
            rw [k1, ← zx_un_at h1 v]
            rw [List.getD_eq_getElem?_getD] at h1 ⊢
            cases hu : σ[e.1.1]? with
            | none => rw [hu] at h1; simp [zl_k, zx_un] at h1
            | some f => rw [hσ _ f hu]; rfl
          · exact g2 x e'
        · cases h
      · cases h
    · cases h
theorem zp_G_map {v' : Nat → Int} : ∀ (k n : Nat) (l : List Int), l.length = k → (∀ (i : Nat) (x : Int), l[i]? = some x → v' (n + i) = x) → (zp_G n k).map (zl_at v') = l
  | 0, _, [], _, _ => rfl
  | k + 1, n, x :: l, hl, hv => by
    show zl_at v' (zl_id n) :: (zp_G (n + 1) k).map (zl_at v') = x :: l
    rw [zl_id_at, show v' n = x from hv 0 x rfl, zp_G_map k (n + 1) l (by simpa using hl) (fun i y hy => by rw [show n + 1 + i = n + (i + 1) by omega]; exact hv (i + 1) y (by simpa using hy))]
theorem zp_bs_ok {v : Nat → Int} {H : Heap} {ls : Array Slot} {st : List Value} (h : zs_ok D RT ro Ga nL q v H ls st) : ∀ {σ : List zl_F} {B : zl_B}, zp_bs q σ B = true → ∀ (i : Nat) (b : Int × Int), B[i]? = some b → b.2 < b.1 ∨ ∃ f, σ[i]? = some f ∧ b.1 ≤ zl_at v f ∧ zl_at v f ≤ b.2
  | σ, [], _, i, b, hb => by simp at hb
  | [], _ :: _, hs, _, _, _ => by simp [zp_bs] at hs
  | f :: σ, c :: B, hs, i, b, hb => by
    simp only [zp_bs, Bool.and_eq_true, Bool.or_eq_true] at hs
    cases i with
    | zero =>
      simp at hb
      subst hb
      rcases hs.1 with e | e
      · exact Or.inl (of_decide_eq_true e)
      · exact Or.inr ⟨f, rfl, zx_in_ok h e⟩
    | succ i =>
      rcases zp_bs_ok h hs.2 i b (by simpa using hb) with e | ⟨g, e1, e2⟩
      · exact Or.inl e
      · exact Or.inr ⟨g, by simpa using e1, e2⟩
theorem zp_in_ok {P : zp_P} {σ : List zl_F} {v : Nat → Int} {H : Heap} {ls : Array Slot} {st : List Value} (h : zs_ok D RT ro Ga nL q v H ls st) (hs : zp_sg q P = some σ) (hi : zp_in q P σ = true) :
    zs_ok D RT ro Ga nL (zp_mk P) (fun u => (σ.map (zl_at v)).getD u 0) H ls st := by
  unfold zp_sg at hs
  split at hs
  · rename_i a b ha hb
    split at hs
    · rename_i c hc hg
      have hs := Option.some.inj hs
      have hv : ∀ (u : Nat) (f : zl_F), σ[u]? = some f → (σ.map (zl_at v)).getD u 0 = zl_at v f := fun u f hf => by
        rw [List.getD_eq_getElem?_getD, List.getElem?_map, hf]; rfl
      have hg := Nat.eq_of_beq_eq_true hg
      obtain ⟨hB, hC, ⟨lv, hlv, hL⟩, hS, hF, hG⟩ := id h
      unfold zp_in at hi
      rw [Bool.and_eq_true] at hi
      have la := (zp_sL_ok (v' := fun u => (σ.map (zl_at v)).getD u 0) (n := 0) hL ha (fun i f hf => hv _ f (by
        rw [← hs, Nat.zero_add, List.append_assoc, List.append_assoc, List.getElem?_append_left (List.getElem?_eq_some_iff.mp hf).1]; exact hf)))
      have lb := (zp_sS_ok (v' := fun u => (σ.map (zl_at v)).getD u 0) (n := P.2.2.2.1.length) hb hS (fun i f hf => hv _ f (by
        rw [← hs, ← la.1, List.append_assoc, List.append_assoc, List.getElem?_append_right (by omega), List.getElem?_append_left (by have := (List.getElem?_eq_some_iff.mp hf).1; omega), Nat.add_sub_cancel_left]; exact hf)))
      have lc := (zp_sF_ok (v' := fun u => (σ.map (zl_at v)).getD u 0) (σ := a ++ b) (n := P.2.2.2.1.length + P.2.2.2.2.1.length) hF (fun u f hf => hv _ f (by
        rw [← hs, List.append_assoc, List.getElem?_append_left (List.getElem?_eq_some_iff.mp hf).1]; exact hf)) hc (fun i f hf => hv _ f (by
        rw [← hs, ← la.1, ← lb.1, List.getElem?_append_left (by have := (List.getElem?_eq_some_iff.mp hf).1; simp; omega), List.getElem?_append_right (by simp), List.length_append, Nat.add_sub_cancel_left]; exact hf)))
      refine ⟨fun i bd hbd => ?_, fun f hf => ?_, ⟨lv, hlv, la.2⟩, lb.2, lc.2, ?_⟩
      · rcases zp_bs_ok h hi.1 i bd hbd with e | ⟨f, e1, e2⟩
        · exact Or.inl e
        · refine Or.inr ?_
          dsimp only
          rw [hv i f e1]; exact e2
      · have h1 := List.all_eq_true.mp hi.2 f hf
        have h2 := zl_le_ok hB hC h1
        rw [zl_sB_at] at h2
        exact h2
      · refine zp_G_map _ _ _ (by rw [← hG, List.length_map]; exact hg) (fun i x hx => ?_)
        rw [← hG, List.getElem?_map] at hx
        cases hq : q.2.2.2.2.2[i]? with
        | none => rw [hq] at hx; cases hx
        | some f =>
          rw [hq] at hx
          cases hx
          refine hv _ f ?_
          rw [← hs, ← la.1, ← lb.1, ← lc.1, List.getElem?_append_right (by simp; omega)]
          simp only [List.length_append]
          rw [Nat.add_sub_cancel_left]; exact hq
    · cases hs
  · cases hs
end ZP
