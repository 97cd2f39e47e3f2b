/-! a step of the checker is a step of the machine, continued -/
section ZQ7
variable {p : Program} {l : Launch} {e : Env} {R : Room} {s : State} {m : MethodId} {args : Array Value} {below : List Frame} {meth : Method} {c : Code} {cells slots : Nat} {Q : State → Prop} {cc : ByteArray}
variable {D : va_G} {cA : Nat → ClassId} {ro : Nat → Option Nat} {sz : Nat} {H0 : Heap} {Ga : List Int} {zn : String} {K : zk_K} {pc : Nat} {q : zs_S} {L : List (Nat × zs_S)}
theorem zk_ald_ok {ty : Nat} {i : Instr} (hM : zk_M p l e R s m args below meth c cells slots Q cc D cA ro sz H0 zn K) (hi : (ty = 0 ∧ i = .iaload) ∨ (ty = 1 ∧ i = .laload) ∨ (ty = 2 ∧ i = .baload) ∨ (ty = 3 ∧ i = .caload) ∨ (ty = 4 ∧ i = .aaload)) (hd : decode cc pc = .ok (i, 1)) (h : zk_ald K ty pc q = some L) (KK : ∀ x ∈ L, zw D cA K.2.1 ro sz H0 Ga K.1 (zk_G p l e R s m args below meth c cells slots Q D K.2.1 ro K.2.2.2.2.2.2.2.1) x.1 x.2) : zw D cA K.2.1 ro sz H0 Ga K.1 (zk_G p l e R s m args below meth c cells slots Q D K.2.1 ro K.2.2.2.2.2.2.2.1) pc q := by
  unfold zk_ald at h
  split at h
  · rename_i g kz f S hS
    split at h
    · rename_i kd ti n t hr hk
      split at h
      · rename_i hc
        cases h
        have hk := Nat.eq_of_beq_eq_true hk
        simp only [Bool.and_eq_true, Bool.not_eq_true', Bool.or_eq_false_iff] at hc
        obtain ⟨⟨h1, h2⟩, h3⟩ := hc
        have h1 := Nat.eq_of_beq_eq_true h1
        have t2 : t.1 ≠ 2 := fun q => by rw [q] at h3; exact absurd h3.1 (by decide)
        have t3 : t.1 ≠ 3 := fun q => by rw [q] at h3; exact absurd h3.2 (by decide)
        generalize (kz - 4) / 2 = r at hr hk
        subst hk
        subst h1
        have KK := KK _ List.mem_cons_self
        rcases hi with ⟨rfl, rfl⟩ | ⟨rfl, rfl⟩ | ⟨rfl, rfl⟩ | ⟨rfl, rfl⟩ | ⟨rfl, rfl⟩
        · exact zm_iald hM.1 hM.2.1 (hM.2.2.2.1 0 (by decide)) hS hr h2 t2 t3 hd KK
        · exact zm_lald hM.1 hM.2.1 (hM.2.2.2.1 1 (by decide)) hS hr h2 t2 t3 hd KK
        · exact zm_bald hM.1 hM.2.1 (hM.2.2.2.1 2 (by decide)) hS hr h2 t2 t3 hd KK
        · exact zm_cald hM.1 hM.2.1 (hM.2.2.2.1 3 (by decide)) hS hr h2 t2 t3 hd KK
        · exact zm_aald hM.1 hM.2.1 (hM.2.2.2.1 4 (by decide)) rfl hS hr h2 t2 t3 hd KK
      · cases h
    · cases h
  · cases h
theorem zk_ast_ok {ty kd : Nat} {i : Instr} (hM : zk_M p l e R s m args below meth c cells slots Q cc D cA ro sz H0 zn K) (hi : (ty = 0 ∧ kd = 0 ∧ i = .iastore) ∨ (ty = 1 ∧ kd = 1 ∧ i = .lastore) ∨ (ty = 2 ∧ kd = 0 ∧ i = .bastore)) (hd : decode cc pc = .ok (i, 1)) (h : zk_ast K ty kd pc q = some L) (KK : ∀ x ∈ L, zw D cA K.2.1 ro sz H0 Ga K.1 (zk_G p l e R s m args below meth c cells slots Q D K.2.1 ro K.2.2.2.2.2.2.2.1) x.1 x.2) : zw D cA K.2.1 ro sz H0 Ga K.1 (zk_G p l e R s m args below meth c cells slots Q D K.2.1 ro K.2.2.2.2.2.2.2.1) pc q := by
  unfold zk_ast at h
  split at h
  · rename_i zx g kz f S hS
    split at h
    · rename_i ti n kt lo hi' hr hk
      split at h
      · rename_i hc
        cases h
        have hk := Nat.eq_of_beq_eq_true hk
        simp only [Bool.and_eq_true, Bool.or_eq_true] at hc
        obtain ⟨⟨⟨⟨⟨h1, h0⟩, h2⟩, h3⟩, h5⟩, h4⟩ := hc
        have h1 := Nat.eq_of_beq_eq_true h1
        have h0 := Nat.eq_of_beq_eq_true h0
        have hm := zk_any h5
        generalize (kz - 4) / 2 = r at hr hk hm
        subst hk
        subst h1
        subst h0
        have KK := KK _ List.mem_cons_self
        rcases hi with ⟨rfl, rfl, rfl⟩ | ⟨rfl, rfl, rfl⟩ | ⟨rfl, rfl, rfl⟩
        · exact zm_iast hM.1 hM.2.1 (hM.2.2.2.1 0 (by decide)).1 hS hr hm h2 h3 hd KK
        · exact zm_last hM.1 hM.2.1 (hM.2.2.2.1 1 (by decide)).1 hS hr hm h2 h3 hd KK
        · have h4 := h4.resolve_left (by decide)
          exact zm_bast hM.1 hM.2.1 (hM.2.2.2.1 2 (by decide)).1 (of_decide_eq_true h4.1) (of_decide_eq_true h4.2) hS hr hm h2 h3 hd KK
      · cases h
    · cases h
  · cases h
theorem zk_al0_ok (hM : zk_M p l e R s m args below meth c cells slots Q cc D cA ro sz H0 zn K) (hd : decode cc pc = .ok (.arraylength, 1)) (h : zk_al0 K pc q = some L) (KK : ∀ x ∈ L, zw D cA K.2.1 ro sz H0 Ga K.1 (zk_G p l e R s m args below meth c cells slots Q D K.2.1 ro K.2.2.2.2.2.2.2.1) x.1 x.2) : zw D cA K.2.1 ro sz H0 Ga K.1 (zk_G p l e R s m args below meth c cells slots Q D K.2.1 ro K.2.2.2.2.2.2.2.1) pc q := by
  unfold zk_al0 at h
  split at h
  · rename_i kz f S hS
    split at h
    · rename_i kd ti n t hr hk
      split at h
      · rename_i hc
        cases h
        have hk := Nat.eq_of_beq_eq_true hk
        rw [Bool.and_eq_true] at hc
        generalize (kz - 4) / 2 = r at hr hk
        subst hk
        exact zm_alen hM.1 hM.2.1 (hM.2.2.2.1 ti (Nat.le_of_ble_eq_true hc.2)) hS hr (Nat.le_of_ble_eq_true hc.1) hd (KK _ List.mem_cons_self)
      · cases h
    · cases h
  · cases h
theorem zk_rf {z : zv_V} (h : zk_ref z = true) : z.1 = 2 ∨ 4 ≤ z.1 := by
  unfold zk_ref at h
  rw [Bool.or_eq_true] at h
  rcases h with h | h
  · exact Or.inl (Nat.eq_of_beq_eq_true h)
  · exact Or.inr (Nat.le_of_ble_eq_true h)
theorem zk_b1_ok {n lo hi : Int} (h : zk_b1 n lo hi = true) : lo ≤ n ∧ n ≤ hi := by
  unfold zk_b1 at h
  rw [Bool.and_eq_true] at h
  exact ⟨of_decide_eq_true h.1, of_decide_eq_true h.2⟩
theorem zk_s_ok {i : Instr} {len : Nat} (hM : zk_M p l e R s m args below meth c cells slots Q cc D cA ro sz H0 zn K) (hd : decode cc pc = .ok (i, len)) (hl : len = zk_ln i ∨ ∃ a b d os, i = .tableswitch a b d os) (h : zk_s K i len pc q = some L) (KK : ∀ x ∈ L, zw D cA K.2.1 ro sz H0 Ga K.1 (zk_G p l e R s m args below meth c cells slots Q D K.2.1 ro K.2.2.2.2.2.2.2.1) x.1 x.2) : zw D cA K.2.1 ro sz H0 Ga K.1 (zk_G p l e R s m args below meth c cells slots Q D K.2.1 ro K.2.2.2.2.2.2.2.1) pc q := by
  have hx := hM.1
  have hb := hM.2.1
  have hl2 : (∀ a b d os, i ≠ .tableswitch a b d os) → len = zk_ln i := fun hn => hl.resolve_right (fun ⟨a, b, d, os, g⟩ => hn a b d os g)
  cases i with
  | iconst n =>
    have hl := hl2 (fun _ _ _ _ g => by cases g)
    subst hl
    simp only [zk_s] at h
    split at h
    · rename_i hc
      cases h
      exact zm_iconst hx hb (zk_b1_ok hc).1 (zk_b1_ok hc).2 hd (KK _ List.mem_cons_self)
    · cases h
  | bipush n =>
    have hl := hl2 (fun _ _ _ _ g => by cases g)
    subst hl
    simp only [zk_s] at h
    split at h
    · rename_i hc
      cases h
      exact zm_bipush hx hb (zk_b1_ok hc).1 (zk_b1_ok hc).2 hd (KK _ List.mem_cons_self)
    · cases h
  | sipush n =>
    have hl := hl2 (fun _ _ _ _ g => by cases g)
    subst hl
    simp only [zk_s] at h
    split at h
    · rename_i hc
      cases h
      exact zm_sipush hx hb (zk_b1_ok hc).1 (zk_b1_ok hc).2 hd (KK _ List.mem_cons_self)
    · cases h
  | lconst n =>
    have hl := hl2 (fun _ _ _ _ g => by cases g)
    subst hl
    cases h
    exact zm_lconst hx hb hd (KK _ List.mem_cons_self)
  | aconst_null =>
    have hl := hl2 (fun _ _ _ _ g => by cases g)
    subst hl
    cases h
    exact zm_null hx hb hd (KK _ List.mem_cons_self)
  | iload j =>
    have hl := hl2 (fun _ _ _ _ g => by cases g)
    subst hl
    simp only [zk_s, zk_ldn] at h
    split at h
    · rename_i z hz
      split at h
      · rename_i hk
        cases h
        obtain ⟨k0, f⟩ := z
        have hk := Nat.eq_of_beq_eq_true hk
        dsimp only at hk
        subst hk
        exact zm_iload hx hb hz hd (KK _ List.mem_cons_self)
      · cases h
    · cases h
  | iload_n j =>
    have hl := hl2 (fun _ _ _ _ g => by cases g)
    subst hl
    simp only [zk_s, zk_ldn] at h
    split at h
    · rename_i z hz
      split at h
      · rename_i hk
        cases h
        obtain ⟨k0, f⟩ := z
        have hk := Nat.eq_of_beq_eq_true hk
        dsimp only at hk
        subst hk
        exact zm_iload_n hx hb hz hd (KK _ List.mem_cons_self)
      · cases h
    · cases h
  | lload j =>
    have hl := hl2 (fun _ _ _ _ g => by cases g)
    subst hl
    simp only [zk_s, zk_ldn] at h
    split at h
    · rename_i z hz
      split at h
      · rename_i hk
        cases h
        obtain ⟨k0, f⟩ := z
        have hk := Nat.eq_of_beq_eq_true hk
        dsimp only at hk
        subst hk
        exact zm_lload hx hb hz hd (KK _ List.mem_cons_self)
      · cases h
    · cases h
  | lload_n j =>
    have hl := hl2 (fun _ _ _ _ g => by cases g)
    subst hl
    simp only [zk_s, zk_ldn] at h
    split at h
    · rename_i z hz
      split at h
      · rename_i hk
        cases h
        obtain ⟨k0, f⟩ := z
        have hk := Nat.eq_of_beq_eq_true hk
        dsimp only at hk
        subst hk
        exact zm_lload_n hx hb hz hd (KK _ List.mem_cons_self)
      · cases h
    · cases h
  | aload j =>
    have hl := hl2 (fun _ _ _ _ g => by cases g)
    subst hl
    simp only [zk_s, zk_ldr] at h
    split at h
    · rename_i z hz
      split at h
      · rename_i hk
        cases h
        exact zm_aload hx hb (zk_rf hk) hz hd (KK _ List.mem_cons_self)
      · cases h
    · cases h
  | aload_n j =>
    have hl := hl2 (fun _ _ _ _ g => by cases g)
    subst hl
    simp only [zk_s, zk_ldr] at h
    split at h
    · rename_i z hz
      split at h
      · rename_i hk
        cases h
        exact zm_aload_n hx hb (zk_rf hk) hz hd (KK _ List.mem_cons_self)
      · cases h
    · cases h
  | istore j =>
    have hl := hl2 (fun _ _ _ _ g => by cases g)
    subst hl
    simp only [zk_s, zk_stn] at h
    split at h
    · rename_i z S hS
      split at h
      · rename_i hk
        cases h
        rw [Bool.and_eq_true] at hk
        obtain ⟨k0, f⟩ := z
        have hk1 := Nat.eq_of_beq_eq_true hk.1
        dsimp only at hk1
        subst hk1
        exact zm_istore hx hb hS (Nat.le_of_ble_eq_true hk.2) hd (KK _ List.mem_cons_self)
      · cases h
    · cases h
  | istore_n j =>
    have hl := hl2 (fun _ _ _ _ g => by cases g)
    subst hl
    simp only [zk_s, zk_stn] at h
    split at h
    · rename_i z S hS
      split at h
      · rename_i hk
        cases h
        rw [Bool.and_eq_true] at hk
        obtain ⟨k0, f⟩ := z
        have hk1 := Nat.eq_of_beq_eq_true hk.1
        dsimp only at hk1
        subst hk1
        exact zm_istore_n hx hb hS (Nat.le_of_ble_eq_true hk.2) hd (KK _ List.mem_cons_self)
      · cases h
    · cases h
  | lstore j =>
    have hl := hl2 (fun _ _ _ _ g => by cases g)
    subst hl
    simp only [zk_s, zk_stn] at h
    split at h
    · rename_i z S hS
      split at h
      · rename_i hk
        cases h
        rw [Bool.and_eq_true] at hk
        obtain ⟨k0, f⟩ := z
        have hk1 := Nat.eq_of_beq_eq_true hk.1
        dsimp only at hk1
        subst hk1
        exact zm_lstore hx hb hS (Nat.le_of_ble_eq_true hk.2) hd (KK _ List.mem_cons_self)
      · cases h
    · cases h
  | lstore_n j =>
    have hl := hl2 (fun _ _ _ _ g => by cases g)
    subst hl
    simp only [zk_s, zk_stn] at h
    split at h
    · rename_i z S hS
      split at h
      · rename_i hk
        cases h
        rw [Bool.and_eq_true] at hk
        obtain ⟨k0, f⟩ := z
        have hk1 := Nat.eq_of_beq_eq_true hk.1
        dsimp only at hk1
        subst hk1
        exact zm_lstore_n hx hb hS (Nat.le_of_ble_eq_true hk.2) hd (KK _ List.mem_cons_self)
      · cases h
    · cases h
  | astore j =>
    have hl := hl2 (fun _ _ _ _ g => by cases g)
    subst hl
    simp only [zk_s, zk_str] at h
    split at h
    · rename_i z S hS
      split at h
      · rename_i hk
        cases h
        rw [Bool.and_eq_true] at hk
        exact zm_astore hx hb (zk_rf hk.1) hS (Nat.le_of_ble_eq_true hk.2) hd (KK _ List.mem_cons_self)
      · cases h
    · cases h
  | astore_n j =>
    have hl := hl2 (fun _ _ _ _ g => by cases g)
    subst hl
    simp only [zk_s, zk_str] at h
    split at h
    · rename_i z S hS
      split at h
      · rename_i hk
        cases h
        rw [Bool.and_eq_true] at hk
        exact zm_astore_n hx hb (zk_rf hk.1) hS (Nat.le_of_ble_eq_true hk.2) hd (KK _ List.mem_cons_self)
      · cases h
    · cases h
  | iadd =>
    have hl := hl2 (fun _ _ _ _ g => by cases g)
    subst hl
    simp only [zk_s] at h
    split at h
    · rename_i hS
      cases h
      exact zm_iadd hx hb hS hd (KK _ List.mem_cons_self)
    · cases h
  | isub =>
    have hl := hl2 (fun _ _ _ _ g => by cases g)
    subst hl
    simp only [zk_s] at h
    split at h
    · rename_i hS
      cases h
      exact zm_isub hx hb hS hd (KK _ List.mem_cons_self)
    · cases h
  | ladd =>
    have hl := hl2 (fun _ _ _ _ g => by cases g)
    subst hl
    simp only [zk_s] at h
    split at h
    · rename_i hS
      cases h
      exact zm_ladd hx hb hS hd (KK _ List.mem_cons_self)
    · cases h
  | lsub =>
    have hl := hl2 (fun _ _ _ _ g => by cases g)
    subst hl
    simp only [zk_s] at h
    split at h
    · rename_i hS
      cases h
      exact zm_lsub hx hb hS hd (KK _ List.mem_cons_self)
    · cases h
  | land =>
    have hl := hl2 (fun _ _ _ _ g => by cases g)
    subst hl
    simp only [zk_s] at h
    split at h
    · rename_i hS
      cases h
      exact zm_land hx hb hS hd (KK _ List.mem_cons_self)
    · cases h
  | lor =>
    have hl := hl2 (fun _ _ _ _ g => by cases g)
    subst hl
    simp only [zk_s] at h
    split at h
    · rename_i hS
      cases h
      exact zm_lor hx hb hS hd (KK _ List.mem_cons_self)
    · cases h
  | lxor =>
    have hl := hl2 (fun _ _ _ _ g => by cases g)
    subst hl
    simp only [zk_s] at h
    split at h
    · rename_i hS
      cases h
      exact zm_lxor hx hb hS hd (KK _ List.mem_cons_self)
    · cases h
  | lshl =>
    have hl := hl2 (fun _ _ _ _ g => by cases g)
    subst hl
    simp only [zk_s] at h
    split at h
    · rename_i hS
      cases h
      exact zm_lshl hx hb hS hd (KK _ List.mem_cons_self)
    · cases h
  | lshr =>
    have hl := hl2 (fun _ _ _ _ g => by cases g)
    subst hl
    simp only [zk_s] at h
    split at h
    · rename_i hS
      cases h
      exact zm_lshr hx hb hS hd (KK _ List.mem_cons_self)
    · cases h
  | lushr =>
    have hl := hl2 (fun _ _ _ _ g => by cases g)
    subst hl
    simp only [zk_s] at h
    split at h
    · rename_i hS
      cases h
      exact zm_lushr hx hb hS hd (KK _ List.mem_cons_self)
    · cases h
  | ineg =>
    have hl := hl2 (fun _ _ _ _ g => by cases g)
    subst hl
    simp only [zk_s] at h
    split at h
    · rename_i hS
      cases h
      exact zm_ineg hx hb hS hd (KK _ List.mem_cons_self)
    · cases h
  | lneg =>
    have hl := hl2 (fun _ _ _ _ g => by cases g)
    subst hl
    simp only [zk_s] at h
    split at h
    · rename_i hS
      cases h
      exact zm_lneg hx hb hS hd (KK _ List.mem_cons_self)
    · cases h
  | i2l =>
    have hl := hl2 (fun _ _ _ _ g => by cases g)
    subst hl
    simp only [zk_s] at h
    split at h
    · rename_i hS
      cases h
      exact zm_i2l hx hb hS hd (KK _ List.mem_cons_self)
    · cases h
  | l2i =>
    have hl := hl2 (fun _ _ _ _ g => by cases g)
    subst hl
    simp only [zk_s] at h
    split at h
    · rename_i hS
      cases h
      exact zm_l2i hx hb hS hd (KK _ List.mem_cons_self)
    · cases h
  | i2b =>
    have hl := hl2 (fun _ _ _ _ g => by cases g)
    subst hl
    simp only [zk_s] at h
    split at h
    · rename_i hS
      cases h
      exact zm_i2b hx hb hS hd (KK _ List.mem_cons_self)
    · cases h
  | lcmp =>
    have hl := hl2 (fun _ _ _ _ g => by cases g)
    subst hl
    simp only [zk_s] at h
    split at h
    · rename_i hS
      cases h
      exact zm_lcmp hx hb hS hd (KK _ List.mem_cons_self)
    · cases h
  | imul =>
    have hl := hl2 (fun _ _ _ _ g => by cases g)
    subst hl
    simp only [zk_s] at h
    split at h
    · rename_i hS
      cases h
      exact zm_imulL hx hb hS hd (KK _ List.mem_cons_self)
    · rename_i hS
      cases h
      exact zm_imulR hx hb hS hd (KK _ List.mem_cons_self)
    · rename_i hS
      cases h
      exact zm_imulF hx hb hS hd (KK _ List.mem_cons_self)
    · cases h
  | lmul =>
    have hl := hl2 (fun _ _ _ _ g => by cases g)
    subst hl
    simp only [zk_s] at h
    split at h
    · rename_i hS
      cases h
      exact zm_lmulL hx hb hS hd (KK _ List.mem_cons_self)
    · rename_i hS
      cases h
      exact zm_lmulR hx hb hS hd (KK _ List.mem_cons_self)
    · rename_i hS
      cases h
      exact zm_lmulF hx hb hS hd (KK _ List.mem_cons_self)
    · cases h
  | idiv =>
    have hl := hl2 (fun _ _ _ _ g => by cases g)
    subst hl
    simp only [zk_s] at h
    split at h
    · rename_i hS
      split at h
      · rename_i hn
        cases h
        exact zm_idivC hx hb hS (of_decide_eq_true hn) hd (KK _ List.mem_cons_self)
      · cases h
    · rename_i hS
      split at h
      · rename_i hn
        cases h
        exact zm_idivF hx hb hS hn hd (KK _ List.mem_cons_self)
      · cases h
    · cases h
  | ldiv =>
    have hl := hl2 (fun _ _ _ _ g => by cases g)
    subst hl
    simp only [zk_s] at h
    split at h
    · rename_i hS
      split at h
      · rename_i hn
        cases h
        exact zm_ldivC hx hb hS (of_decide_eq_true hn) hd (KK _ List.mem_cons_self)
      · cases h
    · rename_i hS
      split at h
      · rename_i hn
        cases h
        exact zm_ldivF hx hb hS hn hd (KK _ List.mem_cons_self)
      · cases h
    · cases h
  | irem =>
    have hl := hl2 (fun _ _ _ _ g => by cases g)
    subst hl
    simp only [zk_s] at h
    split at h
    · rename_i hS
      split at h
      · rename_i hn hp
        cases h
        exact zm_iremCp hx hb hS (of_decide_eq_true hn) hp hd (KK _ List.mem_cons_self)
      · rename_i hn hp
        cases h
        exact zm_iremC hx hb hS (of_decide_eq_true hn) hd (KK _ List.mem_cons_self)
      · cases h
    · rename_i hS
      split at h
      · rename_i hn
        cases h
        exact zm_iremF hx hb hS hn hd (KK _ List.mem_cons_self)
      · cases h
    · cases h
  | lrem =>
    have hl := hl2 (fun _ _ _ _ g => by cases g)
    subst hl
    simp only [zk_s] at h
    split at h
    · rename_i hS
      split at h
      · rename_i hn hp
        cases h
        exact zm_lremCp hx hb hS (of_decide_eq_true hn) hp hd (KK _ List.mem_cons_self)
      · rename_i hn hp
        cases h
        exact zm_lremC hx hb hS (of_decide_eq_true hn) hd (KK _ List.mem_cons_self)
      · cases h
    · rename_i hS
      split at h
      · rename_i hn
        cases h
        exact zm_lremF hx hb hS hn hd (KK _ List.mem_cons_self)
      · cases h
    · cases h
  | iand =>
    have hl := hl2 (fun _ _ _ _ g => by cases g)
    subst hl
    simp only [zk_s] at h
    split at h
    · rename_i hS
      split at h
      · rename_i hn
        cases h
        exact zm_iandC hx hb hS (of_decide_eq_true hn) hd (KK _ List.mem_cons_self)
      · cases h
    · rename_i hS
      cases h
      exact zm_iandF hx hb hS hd (KK _ List.mem_cons_self)
    · cases h
  | dup =>
    have hl := hl2 (fun _ _ _ _ g => by cases g)
    subst hl
    simp only [zk_s] at h
    split at h
    · rename_i z S hS
      split at h
      · rename_i hk
        cases h
        exact zm_dup hx hb hS (fun g => by rw [g] at hk; exact absurd hk (by decide)) hd (KK _ List.mem_cons_self)
      · cases h
    · cases h
  | pop =>
    have hl := hl2 (fun _ _ _ _ g => by cases g)
    subst hl
    simp only [zk_s] at h
    split at h
    · rename_i z S hS
      split at h
      · rename_i hk
        cases h
        exact zm_pop hx hb hS (fun g => by rw [g] at hk; exact absurd hk (by decide)) hd (KK _ List.mem_cons_self)
      · cases h
    · cases h
  | pop2 =>
    have hl := hl2 (fun _ _ _ _ g => by cases g)
    subst hl
    simp only [zk_s] at h
    split at h
    · rename_i z S hS
      split at h
      · rename_i hk
        cases h
        exact zm_pop2 hx hb hS (Nat.eq_of_beq_eq_true hk) hd (KK _ List.mem_cons_self)
      · cases h
    · cases h
  | dup2 =>
    have hl := hl2 (fun _ _ _ _ g => by cases g)
    subst hl
    simp only [zk_s] at h
    split at h
    · rename_i z y S hS
      split at h
      · rename_i hk
        cases h
        simp only [Bool.or_eq_false_iff] at hk
        exact zm_dup2 hx hb hS (fun g => by rw [g] at hk; exact absurd hk.1 (by decide)) (fun g => by rw [g] at hk; exact absurd hk.2 (by decide)) hd (KK _ List.mem_cons_self)
      · cases h
    · cases h
  | iinc j n =>
    simp only [zk_s] at h
    split at h
    · rename_i f hz hc
      cases h
      simp only [Bool.and_eq_true] at hc
      have h3 := Nat.eq_of_beq_eq_true hc.2
      subst h3
      exact zm_iinc hx hb hz (zk_b1_ok hc.1.1).1 (zk_b1_ok hc.1.1).2 (Nat.le_of_ble_eq_true hc.1.2) hd (KK _ List.mem_cons_self)
    · cases h
  | goto off =>
    have hl := hl2 (fun _ _ _ _ g => by cases g)
    subst hl
    simp only [zk_s] at h
    split at h
    · rename_i t ht
      cases h
      exact zm_goto hx hb (zk_t_ok ht) hd (KK _ List.mem_cons_self)
    · cases h
  | ifCond cd off =>
    have hl := hl2 (fun _ _ _ _ g => by cases g)
    subst hl
    simp only [zk_s] at h
    split at h
    · rename_i z S t hS ht
      split at h
      · rename_i hk
        cases h
        rw [Bool.or_eq_true] at hk
        exact zm_if hx hb hS (hk.imp Nat.eq_of_beq_eq_true Nat.eq_of_beq_eq_true) (zk_t_ok ht) hd (KK _ List.mem_cons_self) (KK _ (List.mem_cons_of_mem _ List.mem_cons_self))
      · cases h
    · cases h
  | if_icmp cd off =>
    have hl := hl2 (fun _ _ _ _ g => by cases g)
    subst hl
    simp only [zk_s] at h
    split at h
    · rename_i fb fa S t hS ht
      cases h
      exact zm_icmp hx hb hS (zk_t_ok ht) hd (KK _ List.mem_cons_self) (KK _ (List.mem_cons_of_mem _ List.mem_cons_self))
    · cases h
  | ifnull off =>
    have hl := hl2 (fun _ _ _ _ g => by cases g)
    subst hl
    simp only [zk_s] at h
    split at h
    · rename_i k f S t hS ht
      split at h
      · rename_i hk
        cases h
        have hk := Nat.eq_of_beq_eq_true hk
        generalize (k - 5) / 2 = r at hk KK
        subst hk
        exact zm_ifnull hx hb hS (zk_t_ok ht) hd (KK _ List.mem_cons_self) (KK _ (List.mem_cons_of_mem _ List.mem_cons_self))
      · cases h
    · cases h
  | ifnonnull off =>
    have hl := hl2 (fun _ _ _ _ g => by cases g)
    subst hl
    simp only [zk_s] at h
    split at h
    · rename_i k f S t hS ht
      split at h
      · rename_i hk
        cases h
        have hk := Nat.eq_of_beq_eq_true hk
        generalize (k - 5) / 2 = r at hk KK
        subst hk
        exact zm_ifnonnull hx hb hS (zk_t_ok ht) hd (KK _ List.mem_cons_self) (KK _ (List.mem_cons_of_mem _ List.mem_cons_self))
      · cases h
    · cases h
  | tableswitch d lo hi os =>
    simp only [zk_s] at h
    split at h
    · rename_i f S t hS ht
      split at h
      · rename_i r hr hc
        have h := Option.some.inj h
        subst h
        have hc := of_decide_eq_true hc
        rw [Array.length_toList] at hc
        refine zm_tsw hx hb hS hc (zk_t_ok ht) hd (KK _ List.mem_cons_self) (KK _ (List.mem_cons_of_mem _ List.mem_cons_self)) (fun j hj => ?_)
        obtain ⟨tj, g1, g2⟩ := zk_tc_ok (G := zw D cA K.2.1 ro sz H0 Ga K.1 (zk_G p l e R s m args below meth c cells slots Q D K.2.1 ro K.2.2.2.2.2.2.2.1)) hr (fun x hx => KK x (List.mem_cons_of_mem _ (List.mem_cons_of_mem _ hx))) j os[j] (by rw [Array.getElem?_toList]; exact Array.getElem?_eq_getElem hj)
        refine ⟨tj, fun o ho => ?_⟩
        rw [Array.getElem?_eq_getElem hj] at ho
        cases ho
        rw [Nat.zero_add] at g2
        exact ⟨g1, g2⟩
      · cases h
    · cases h
  | getfield idx =>
    have hl := hl2 (fun _ _ _ _ g => by cases g)
    subst hl
    exact zk_gf_ok hM hd h KK
  | putfield idx =>
    have hl := hl2 (fun _ _ _ _ g => by cases g)
    subst hl
    exact zk_pf_ok hM hd h KK
  | arraylength =>
    have hl := hl2 (fun _ _ _ _ g => by cases g)
    subst hl
    exact zk_al0_ok hM hd h KK
  | iaload =>
    have hl := hl2 (fun _ _ _ _ g => by cases g)
    subst hl
    exact zk_ald_ok hM (Or.inl ⟨rfl, rfl⟩) hd h KK
  | laload =>
    have hl := hl2 (fun _ _ _ _ g => by cases g)
    subst hl
    exact zk_ald_ok hM (Or.inr (Or.inl ⟨rfl, rfl⟩)) hd h KK
  | baload =>
    have hl := hl2 (fun _ _ _ _ g => by cases g)
    subst hl
    exact zk_ald_ok hM (Or.inr (Or.inr (Or.inl ⟨rfl, rfl⟩))) hd h KK
  | caload =>
    have hl := hl2 (fun _ _ _ _ g => by cases g)
    subst hl
    exact zk_ald_ok hM (Or.inr (Or.inr (Or.inr (Or.inl ⟨rfl, rfl⟩)))) hd h KK
  | aaload =>
    have hl := hl2 (fun _ _ _ _ g => by cases g)
    subst hl
    exact zk_ald_ok hM (Or.inr (Or.inr (Or.inr (Or.inr ⟨rfl, rfl⟩)))) hd h KK
  | iastore =>
    have hl := hl2 (fun _ _ _ _ g => by cases g)
    subst hl
    exact zk_ast_ok hM (Or.inl ⟨rfl, rfl, rfl⟩) hd h KK
  | lastore =>
    have hl := hl2 (fun _ _ _ _ g => by cases g)
    subst hl
    exact zk_ast_ok hM (Or.inr (Or.inl ⟨rfl, rfl, rfl⟩)) hd h KK
  | bastore =>
    have hl := hl2 (fun _ _ _ _ g => by cases g)
    subst hl
    exact zk_ast_ok hM (Or.inr (Or.inr ⟨rfl, rfl, rfl⟩)) hd h KK
  | ldc idx =>
    have hl := hl2 (fun _ _ _ _ g => by cases g)
    subst hl
    simp only [zk_s] at h
    split at h
    · rename_i n hn
      cases h
      obtain ⟨own, x, h1, h2, h3⟩ := hM.2.2.2.2.2.1 idx n (zk_a_mem hn)
      exact zm_ldc hx hb h1 h2 h3 hd (KK _ List.mem_cons_self)
    · cases h
  | ldc_w idx =>
    have hl := hl2 (fun _ _ _ _ g => by cases g)
    subst hl
    simp only [zk_s] at h
    split at h
    · rename_i n hn
      cases h
      obtain ⟨own, x, h1, h2, h3⟩ := hM.2.2.2.2.2.1 idx n (zk_a_mem hn)
      exact zm_ldcw hx hb h1 h2 h3 hd (KK _ List.mem_cons_self)
    · cases h
  | ldc2_w idx =>
    have hl := hl2 (fun _ _ _ _ g => by cases g)
    subst hl
    simp only [zk_s] at h
    split at h
    · rename_i n hn
      cases h
      obtain ⟨own, x, h1, h2, h3⟩ := hM.2.2.2.2.2.2.1 idx n (zk_a_mem hn)
      exact zm_ldc2 hx hb h1 h2 h3 hd (KK _ List.mem_cons_self)
    · cases h
  | getstatic idx =>
    have hl := hl2 (fun _ _ _ _ g => by cases g)
    subst hl
    simp only [zk_s] at h
    split at h
    · rename_i t ht
      split at h
      · rename_i h23
        cases h
        simp only [Bool.or_eq_false_iff] at h23
        exact zm_push (fun g => by rw [g] at h23; exact absurd h23.1 (by decide)) (fun g => by rw [g] at h23; exact absurd h23.2 (by decide)) (hM.2.2.2.2.2.2.2.1 idx t (zk_a_mem ht) pc hd) (KK _ List.mem_cons_self)
      · cases h
    · cases h
  | invokestatic idx =>
    have hl := hl2 (fun _ _ _ _ g => by cases g)
    subst hl
    exact zk_cl_ok hM (Or.inl ⟨rfl, rfl⟩) hd h KK
  | invokevirtual idx =>
    have hl := hl2 (fun _ _ _ _ g => by cases g)
    subst hl
    exact zk_cl_ok hM (Or.inr (Or.inl ⟨rfl, rfl⟩)) hd h KK
  | invokespecial idx =>
    have hl := hl2 (fun _ _ _ _ g => by cases g)
    subst hl
    exact zk_cl_ok hM (Or.inr (Or.inr ⟨rfl, rfl⟩)) hd h KK
  | _ => exact absurd h (by simp [zk_s])
end ZQ7
