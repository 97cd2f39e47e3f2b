/-! the whole checker: from the entry and from each point, till a point, an end, or a place where the method leaves otherwise -/
def zk_pt : List zp_P → Nat → Option zp_P
  | [], _ => none
  | P :: t, pc => match Nat.beq P.1 pc with
    | true => some P
    | false => zk_pt t pc
theorem zk_pt_mem {pts : List zp_P} {pc : Nat} {P : zp_P} (h : zk_pt pts pc = some P) : P ∈ pts ∧ P.1 = pc := by
  induction pts with
  | nil => cases h
  | cons e t ih =>
    unfold zk_pt at h
    split at h
    · rename_i he
      cases h
      exact ⟨List.mem_cons_self, Nat.eq_of_beq_eq_true he⟩
    · obtain ⟨h1, h2⟩ := ih h
      exact ⟨List.mem_cons_of_mem _ h1, h2⟩
def zk_lx (q : zs_S) : List zl_F → List zl_F → Bool
  | a :: A, b :: B => (zl_le q.1 q.2.1 (zl_add (zl_k 1) (zl_sub b a)) && zl_le q.1 q.2.1 (zl_sub (zl_k 1) a)) || (zl_le q.1 q.2.1 (zl_sub b a) && zk_lx q A B)
  | _, _ => false
def zk_lt : List Nat → List Nat → Prop
  | b :: B, a :: A => b < a ∨ (b = a ∧ zk_lt B A)
  | _, _ => False
theorem zk_ind (P : List Nat → Prop) : ∀ n : Nat, (∀ l, l.length = n → (∀ l', l'.length = n → zk_lt l' l → P l') → P l) → ∀ l, l.length = n → P l := by
  intro n
  induction n generalizing P with
  | zero =>
    intro h l hl
    refine h l hl (fun l' hl' hlt => ?_)
    match l', hl', hlt with
    | [], _, hlt => exact hlt.elim
  | succ n ih =>
    intro h l hl
    match l, hl with
    | a :: A, hl =>
      induction a using Nat.strongRecOn generalizing A with
      | ind a iha =>
        refine ih (fun A => P (a :: A)) (fun A hA hAll => ?_) A (by simpa using hl)
        refine h (a :: A) (by simp [hA]) (fun l' hl' hlt => ?_)
        match l', hl', hlt with
        | b :: B, hl', hlt =>
          rcases hlt with h1 | ⟨h1, h2⟩
          · exact iha b h1 B hl'
          · subst h1
            exact hAll B (by simpa using hl') h2
theorem zk_lx_ok {q : zs_S} {v : Nat → Int} (hB : zl_bd v q.1) (hC : ∀ f ∈ q.2.1, zl_at v f ≤ 0) : ∀ {A B : List zl_F}, zk_lx q A B = true → zk_lt (B.map (fun f => (zl_at v f).toNat)) (A.map (fun f => (zl_at v f).toNat))
  | a :: A, b :: B, h => by
    simp only [zk_lx, Bool.or_eq_true, Bool.and_eq_true] at h
    rcases h with ⟨h1, h2⟩ | ⟨h1, h2⟩
    · have h1 := zl_le_ok hB hC h1
      have h2 := zl_le_ok hB hC h2
      rw [zl_add_at, zl_sub_at, zl_k_at] at h1
      rw [zl_sub_at, zl_k_at] at h2
      refine Or.inl ?_
      show (zl_at v b).toNat < (zl_at v a).toNat
      omega
    · have h1 := zl_le_ok hB hC h1
      rw [zl_sub_at] at h1
      rcases Nat.lt_or_ge (zl_at v b).toNat (zl_at v a).toNat with g | g
      · exact Or.inl g
      · refine Or.inr ⟨?_, zk_lx_ok hB hC h2⟩
        show (zl_at v b).toNat = (zl_at v a).toNat
        omega
  | [], _, h => by simp [zk_lx] at h
  | _ :: _, [], h => by simp [zk_lx] at h
def zq_G (q : zs_S) (Gh : List zl_F) : zs_S := (q.1, q.2.1, q.2.2.1, q.2.2.2.1, q.2.2.2.2.1, Gh)
/-- at a point: is the state one of it, and has the measure fallen (mb)? n: how many numbers stay -/
def zk_ar (mb : Bool) (n : Nat) (q : zs_S) (P : zp_P) : Bool := match zp_sg (zq_G q (q.2.2.2.2.2.take n)) P with
  | some σ => zp_in (zq_G q (q.2.2.2.2.2.take n)) P σ && (!mb || zk_lx q (q.2.2.2.2.2.drop n) (P.2.2.2.2.2.2.2.map (zl_sB σ)))
  | none => false
/-- the answer and the fields behind, by an alternative of the method's own contract -/
def zk_fe (q : zs_S) (g : zl_F) (r k : Nat) : List ((Nat × Nat × Nat) × zv_V) → Option zv_V
  | [] => none
  | e :: t => match Nat.beq e.1.2.1 r && (Nat.beq e.1.2.2 k && (zl_le q.1 q.2.1 (zl_sub (zl_id e.1.1) g) && zl_le q.1 q.2.1 (zl_sub g (zl_id e.1.1)))) with
    | true => some e.2
    | false => zk_fe q g r k t
theorem zk_fe_ok {q : zs_S} {g : zl_F} {r k : Nat} {F : List ((Nat × Nat × Nat) × zv_V)} {z : zv_V} (h : zk_fe q g r k F = some z) : ∃ i : Nat, ((i, r, k), z) ∈ F ∧ zl_le q.1 q.2.1 (zl_sub (zl_id i) g) = true ∧ zl_le q.1 q.2.1 (zl_sub g (zl_id i)) = true := by
  induction F with
  | nil => cases h
  | cons e t ih =>
    unfold zk_fe at h
    split at h
    · rename_i he
      simp only [Bool.and_eq_true] at he
      obtain ⟨h1, h2, h3, h4⟩ := he
      have h1 := Nat.eq_of_beq_eq_true h1
      have h2 := Nat.eq_of_beq_eq_true h2
      obtain ⟨⟨i, r', k'⟩, z'⟩ := e
      cases h
      dsimp only at h1 h2 h3 h4
      subst h1 h2
      exact ⟨i, List.mem_cons_self, h3, h4⟩
    · obtain ⟨i, h1, h2⟩ := ih h
      exact ⟨i, List.mem_cons_of_mem _ h1, h2⟩
def zk_po (q : zs_S) : List (Nat × Nat × Nat) → List zt_T → Option (List zl_F)
  | [], [] => some []
  | p :: ps, t :: ts => match zk_fe q (q.2.2.2.2.2.getD p.1 (zl_k 0)) p.2.1 p.2.2 q.2.2.2.2.1, zk_po q ps ts with
    | some z, some r => (match zx_ty q z t with
        | true => some (z.2 :: r)
        | false => none)
    | _, _ => none
  | _, _ => none
def zk_rs (q : zs_S) : Option zt_T → Option zl_F
  | none => (match q.2.2.2.1 with
    | [] => some (zl_k 0)
    | _ => none)
  | some t => (match q.2.2.2.1 with
    | [z] => (match zx_ty q z t with
      | true => some z.2
      | false => none)
    | _ => none)
def zk_ra (k : zc_C) (n : Nat) (q : zs_S) (al : zc_A) : Bool := match zk_rs q al.1, zk_po q k.2.2.2.2.1 al.2.1 with
  | some f, some fs => al.2.2.all (fun R => zl_le q.1 q.2.1 (zl_sB (q.2.2.2.2.2.take n ++ f :: fs) R))
  | _, _ => false
def zk_rt (k : zc_C) (n : Nat) (q : zs_S) : Bool := k.2.2.2.2.2.any (zk_ra k n q)
def zk_ir : Instr → Nat
  | .ireturn => 1
  | .lreturn => 2
  | .areturn => 3
  | .return_ => 4
  | _ => 0
def zk_ts : Instr → Bool
  | .tableswitch _ _ _ _ => true
  | _ => false
/-- n: how many numbers stay; mb: are measures compared; k: the method's own contract; rc: how it returns (1 int, 2 long, 3 a reference, 4 nothing); fuel; first: the point's own place -/
def zk (K : zk_K) (tb : List (Nat × Instr × Nat)) (pts : List zp_P) (k : zc_C) (rc n : Nat) (mb : Bool) : Nat → Bool → Nat → zs_S → Bool
  | 0, _, _, _ => false
  | fuel + 1, first, pc, q => match zx_no q with
    | true => true
    | false => (match zk_pt pts pc, first with
      | some P, false => zk_ar mb n q P
      | _, _ => (match K.2.2.2.2.2.2.2.2.any (Nat.beq pc) with
        | true => q.2.2.2.1.isEmpty
        | false => (match zk_a tb pc with
          | some (i, len) => (match Nat.beq (zk_ir i) 0 with
            | false => Nat.beq (zk_ir i) rc && (Nat.beq len 1 && zk_rt k n q)
            | true => (match Nat.beq len (zk_ln i) || zk_ts i, zk_s K i len pc q with
              | true, some L => L.all (fun x => zk K tb pts k rc n mb fuel false x.1 x.2)
              | _, _ => false))
          | none => false)))
section ZQ8
variable {p : Program} {l : Launch} {e : Env} {R : Room} {s : State} {m : MethodId} {args : Array Value} {below : List Frame} {meth : Method} {c : Code} {cells slots : Nat} {Q : State → Prop} {cc : ByteArray}
variable {D : va_G} {cA : Nat → ClassId} {ro : Nat → Option Nat} {sz : Nat} {H0 : Heap} {Ga : List Int} {zn : String} {K : zk_K}
/-- what the ends give -/
def zk_E (p : Program) (l : Launch) (e : Env) (R : Room) (s : State) (m : MethodId) (args : Array Value) (below : List Frame) (meth : Method) (c : Code) (cells slots : Nat) (Q : State → Prop) (cc : ByteArray) (D : va_G) (cA : Nat → ClassId) (ro : Nat → Option Nat) (sz : Nat) (H0 : Heap) (K : zk_K) (k : zc_C) (rc : Nat) (vs : List Value) : Prop :=
  (∀ (pc : Nat) (i : Instr) H locs ls (x : Option Value), decode cc pc = .ok (i, 1) → zk_ir i = rc → ¬ rc = 0 → zh_ok D cA K.2.1 ro sz H0 H locs → zc_kept D K.2.1 ro K.2.2.2.2.2.2.2.1 s.heap H → (∃ al ∈ k.2.2.2.2.2, zc_post D K.2.1 ro k al s.heap H vs x) → W p l e R s m args below meth c H locs cells slots Q (F0 m pc ls x.toList)) ∧
  (∀ (pc : Nat) H locs (ls : Array Slot), pc ∈ K.2.2.2.2.2.2.2.2 → ls.size = K.1 → zh_ok D cA K.2.1 ro sz H0 H locs → zc_kept D K.2.1 ro K.2.2.2.2.2.2.2.1 s.heap H → W p l e R s m args below meth c H locs cells slots Q (F0 m pc ls []))
theorem zk_po_ok {RT : List zr_R} {nL : Nat} {q : zs_S} {v : Nat → Int} {H : Heap} {ls : Array Slot} {st vs : List Value} {G0 : List Int} (h : zs_ok D RT ro G0 nL q v H ls st) (hG : ∀ (j : Nat) (x : Value), vs[j]? = some x → G0[j]? = some (zi_of x)) : ∀ {ps : List (Nat × Nat × Nat)} {ts : List zt_T} {fs : List zl_F}, zk_po q ps ts = some fs → (∀ p ∈ ps, ∃ (a : Nat), vs[p.1]? = some (.ref a)) → zt_all ro (ps.map (zc_fv D RT H vs)) ts ∧ fs.map (zl_at v) = ps.map (fun p => zi_of (zc_fv D RT H vs p))
  | [], [], fs, hf, _ => by
    simp only [zk_po, Option.some.injEq] at hf
    subst hf
    exact ⟨trivial, rfl⟩
  | p :: ps, t :: ts, fs, hf, ho => by
    unfold zk_po at hf
    split at hf
    · rename_i z r h1 h2
      split at hf
      · rename_i h4
        cases hf
        · obtain ⟨g1, g2⟩ := zk_po_ok h hG h2 (fun p' hp' => ho p' (List.mem_cons_of_mem _ hp'))
          obtain ⟨a, ha⟩ := ho p List.mem_cons_self
          obtain ⟨i, h3, l1, l2⟩ := zk_fe_ok h1
          obtain ⟨a', ci, n, gs, k1, k2, k3, k4, k5⟩ := h.2.2.2.2.1 _ h3
          dsimp only at k1 k2 k3 k4 k5
          have e1 := hG _ _ ha
          rw [← h.2.2.2.2.2, List.getElem?_map] at e1
          have ea : a' = a := by
            rw [List.getD_eq_getElem?_getD] at l1 l2
            cases hg : q.2.2.2.2.2[p.1]? with
            | none => rw [hg] at e1; cases e1
            | some g =>
              rw [hg] at e1 l1 l2
              have e1 : zl_at v g = (a : Int) := Option.some.inj e1
              simp only [Option.getD_some] at l1 l2
              have m1 := zl_le_ok h.1 h.2.1 l1
              have m2 := zl_le_ok h.1 h.2.1 l2
              rw [zl_sub_at, zl_id_at, ← k1, e1] at m1
              rw [zl_sub_at, zl_id_at, ← k1, e1] at m2
              omega
          subst ea
          have hfv : zc_fv D RT H vs p = zh_f D H a' ci p.2.2 := by
            unfold zc_fv
            rw [ha]
            dsimp only
            rw [show zr_ci RT p.2.1 = ci by simp [zr_ci, k3]]
          rw [← hfv] at k5
          exact ⟨⟨zx_ty_ok h k5 h4, g1⟩, by rw [List.map_cons, List.map_cons, g2, zi_of_ok k5 (zx_ty_3 h4)]⟩
      · cases hf
    · cases hf
  | [], _ :: _, _, hf, _ => by simp [zk_po] at hf
  | _ :: _, [], _, hf, _ => by simp [zk_po] at hf
theorem zk_rt_ok {k : zc_C} {q : zs_S} {v : Nat → Int} {H : Heap} {ls : Array Slot} {st vs : List Value} {m0 : List Int} (hg : Ga = vs.map zi_of ++ k.2.1.map (fun e => zi_of (zc_fv D K.2.1 s.heap vs e.1))) (ho : ∀ p ∈ k.2.2.2.2.1, ∃ (a : Nat), vs[p.1]? = some (.ref a)) (h : zs_ok D K.2.1 ro (Ga ++ m0) K.1 q v H ls st) (hr : zk_rt k Ga.length q = true) :
    ∃ x : Option Value, st = x.toList ∧ ∃ al ∈ k.2.2.2.2.2, zc_post D K.2.1 ro k al s.heap H vs x := by
  obtain ⟨al, hal, ha⟩ := List.any_eq_true.mp hr
  unfold zk_ra at ha
  split at ha
  · rename_i f fs h1 h2
    have hG0 : ∀ (j : Nat) (x : Value), vs[j]? = some x → (Ga ++ m0)[j]? = some (zi_of x) := by
      intro j x hj
      have hl : j < vs.length := (List.getElem?_eq_some_iff.mp hj).1
      rw [hg, List.append_assoc, List.getElem?_append_left (by simpa using hl), List.getElem?_map, hj]; rfl
    obtain ⟨g1, g2⟩ := zk_po_ok h hG0 h2 ho
    have hst := h.2.2.2.1
    obtain ⟨x, e1, e2, e3⟩ : ∃ x : Option Value, st = x.toList ∧ zc_res ro al.1 x ∧ zl_at v f = zc_rv x := by
      unfold zk_rs at h1
      split at h1
      · rename_i hal1
        split at h1
        · rename_i hS
          cases h1
          rw [hS] at hst
          match st, hst with
          | [], _ => exact ⟨none, rfl, by rw [hal1]; trivial, zl_k_at v 0⟩
        · cases h1
      · rename_i t hal1
        split at h1
        · rename_i z hS
          split at h1
          · rename_i hty
            cases h1
            rw [hS] at hst
            match st, hst with
            | [y], hst => exact ⟨some y, rfl, by rw [hal1]; exact zx_ty_ok h hst.1 hty, (zi_of_ok hst.1 (zx_ty_3 hty)).symm⟩
          · cases h1
        · cases h1
    refine ⟨x, e1, al, hal, e2, g1, fun r hr => ?_⟩
    have h3 := List.all_eq_true.mp ha r hr
    have h4 := zl_le_ok h.1 h.2.1 h3
    rw [zl_sB_at] at h4
    have henv : (q.2.2.2.2.2.take Ga.length ++ f :: fs).map (zl_at v) = zc_env D K.2.1 k s.heap H vs x := by
      unfold zc_env
      rw [List.map_append, List.map_take, h.2.2.2.2.2, List.take_left, List.map_cons, g2, e3, hg]
    rw [henv] at h4
    exact h4
  · cases ha
theorem zk_sound {tb : List (Nat × Instr × Nat)} {pts : List zp_P} {k : zc_C} {rc : Nat} {mb : Bool} {vs : List Value} {m0 : List Int} (hM : zk_M p l e R s m args below meth c cells slots Q cc D cA ro sz H0 zn K) (hE : zk_E p l e R s m args below meth c cells slots Q cc D cA ro sz H0 K k rc vs) (hdec : ∀ x ∈ tb, decode cc x.1 = .ok x.2) (hg : Ga = vs.map zi_of ++ k.2.1.map (fun e => zi_of (zc_fv D K.2.1 s.heap vs e.1))) (ho : ∀ p ∈ k.2.2.2.2.1, ∃ (a : Nat), vs[p.1]? = some (.ref a))
    (hP : ∀ P ∈ pts, ∀ (v : Nat → Int) H locs ls st, zs_ok D K.2.1 ro Ga K.1 (zp_mk P) v H ls st → zh_ok D cA K.2.1 ro sz H0 H locs → (mb = true → zk_lt (P.2.2.2.2.2.2.2.map (fun f => (zl_at v f).toNat)) (m0.map Int.toNat)) → (zk_G p l e R s m args below meth c cells slots Q D K.2.1 ro K.2.2.2.2.2.2.2.1) P.1 H locs ls st) :
    ∀ (fuel : Nat) (first : Bool) (pc : Nat) (q : zs_S), zk K tb pts k rc Ga.length mb fuel first pc q = true → zw D cA K.2.1 ro sz H0 (Ga ++ m0) K.1 (zk_G p l e R s m args below meth c cells slots Q D K.2.1 ro K.2.2.2.2.2.2.2.1) pc q := by
  intro fuel
  induction fuel with
  | zero => intro first pc q h; simp [zk] at h
  | succ fuel ih =>
    intro first pc q h
    unfold zk at h
    split at h
    · rename_i hno
      intro hw v H locs ls st hs hh
      exact (zx_no_ok hs hno).elim
    · split at h
      · rename_i P hpt
        obtain ⟨hPm, hPpc⟩ := zk_pt_mem hpt
        subst hPpc
        unfold zk_ar at h
        split at h
        · rename_i σ hσ
          intro hw v H locs ls st hs hh
          rw [Bool.and_eq_true] at h
          have hs' : zs_ok D K.2.1 ro Ga K.1 (zq_G q (q.2.2.2.2.2.take Ga.length)) v H ls st := by
            refine ⟨hs.1, hs.2.1, hs.2.2.1, hs.2.2.2.1, hs.2.2.2.2.1, ?_⟩
            show (q.2.2.2.2.2.take Ga.length).map (zl_at v) = Ga
            rw [List.map_take, hs.2.2.2.2.2, List.take_left]
          have hin : zp_in (zq_G q (q.2.2.2.2.2.take Ga.length)) P σ = true := h.1
          refine hP P hPm _ H locs ls st (zp_in_ok hs' hσ hin) hh (fun hmb => ?_)
          have h2 := h.2
          rw [hmb] at h2
          simp only [Bool.not_true, Bool.false_or] at h2
          have h3 := zk_lx_ok hs.1 hs.2.1 h2
          rw [List.map_map] at h3
          have e1 : (q.2.2.2.2.2.drop Ga.length).map (fun f => (zl_at v f).toNat) = m0.map Int.toNat := by
            have : (q.2.2.2.2.2.drop Ga.length).map (zl_at v) = m0 := by rw [List.map_drop, hs.2.2.2.2.2, List.drop_left]
            rw [← this, List.map_map]; rfl
          rw [e1] at h3
          have e2 : (P.2.2.2.2.2.2.2.map ((fun f => (zl_at v f).toNat) ∘ zl_sB σ)) = P.2.2.2.2.2.2.2.map (fun f => (zl_at (fun u => (σ.map (zl_at v)).getD u 0) f).toNat) := List.map_congr_left (fun f _ => by
            show (zl_at v (zl_sB σ f)).toNat = _
            rw [zl_sB_at])
          rw [e2] at h3
          exact h3
        · cases h
      · split at h
        · rename_i hlf
          intro hw v H locs ls st hs hh hk
          obtain ⟨x, hx1, hx2⟩ := List.any_eq_true.mp hlf
          have hx2 := Nat.eq_of_beq_eq_true hx2
          subst hx2
          obtain ⟨lv, hlv, -⟩ := hs.2.2.1
          have hS := hs.2.2.2.1
          rw [List.isEmpty_iff.mp h] at hS
          match st, hS with
          | [], _ => exact hE.2 pc H locs ls hx1 hlv.1 hh hk
        · split at h
          · rename_i i len hi
            have hd := hdec (pc, i, len) (zk_a_mem hi)
            dsimp only at hd
            split at h
            · rename_i hir
              intro hw v H locs ls st hs hh hk
              rw [Bool.and_eq_true] at h
              have hrc := Nat.eq_of_beq_eq_true h.1
              have h2 := h.2
              rw [Bool.and_eq_true] at h2
              have hl1 := Nat.eq_of_beq_eq_true h2.1
              subst hl1
              obtain ⟨x, e1, hx⟩ := zk_rt_ok hg ho hs h2.2
              rw [e1]
              exact hE.1 pc i H locs ls x hd hrc (fun g => by rw [hrc, g] at hir; exact absurd hir (by decide)) hh hk hx
            · split at h
              · rename_i L hlen hstep
                refine zk_s_ok hM hd ?_ hstep (fun x hx => ih false x.1 x.2 (List.all_eq_true.mp h x hx))
                rw [Bool.or_eq_true] at hlen
                rcases hlen with g | g
                · exact Or.inl (Nat.eq_of_beq_eq_true g)
                · refine Or.inr ?_
                  unfold zk_ts at g
                  split at g
                  · exact ⟨_, _, _, _, rfl⟩
                  · cases g
              · cases h
          · cases h
end ZQ8
