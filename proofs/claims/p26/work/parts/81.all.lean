/-! what holds at the law's entry -/
def bmL : List Int32 := [0, 31, 59, 90, 120, 151, 181, 212, 243, 273, 304, 334, 365]
def ltL : List Int32 := [89, 77, 68, 72, 77, 83]
def unL : List Int32 := [12, 1, 86400, 3600, 60, 1]
def lw_F : List Cond := flatC (Cond.and given_1 narrow_1)
set_option maxRecDepth 100000 in
theorem lw_e39 : ∀ j, j < 13 → Cond.eq (.elem (.static "MomentTexts$Days" "BEFORE_MONTH" "[I") (.int (Int32.ofNat j))) (.int (bmL.getD j 0)) ∈ lw_F := by decide +kernel
theorem lw_b39 : ∀ j, j < 13 → 0 ≤ (bmL.getD j 0).toInt ∧ (bmL.getD j 0).toInt ≤ 365 := by decide +kernel
set_option maxRecDepth 100000 in
theorem lw_s39 {b : Nat} {s : State} (hs : ∀ w ∈ lw_F, w.before #[Value.ref b] s = true) (h2 : ∀ w ∈ gT, w.before #[Value.ref b] s = true) (hts : ∀ w ∈ lw_tbl, w.before #[Value.ref b] s = true) : ∃ t : Nat, va_Z "MomentTexts$Days" "BEFORE_MONTH" "[I" (.ref t) (fun q => s.heap.size ≤ q) s s.heap ∧ va_T .int t 13 (fun j => .int (bmL.getD j 0)) (fun q => s.heap.size ≤ q) s s.heap := by
  obtain ⟨t, h1, h3⟩ := va_Tof (tm := (.static "MomentTexts$Days" "BEFORE_MONTH" "[I")) (ty := .int) (N := 13) (f := fun j => .int (bmL.getD j 0)) (A := fun q => s.heap.size ≤ q) (by decide) (hs _ (by decide +kernel)) (va_eqt (hs (Cond.eq (.length (.static "MomentTexts$Days" "BEFORE_MONTH" "[I")) (.int (Int32.ofNat 13))) (by decide +kernel))) (fun j hj => va_eqt (hs _ (lw_e39 j hj))) (fun a h => Nat.not_le.mpr h)
  exact ⟨t, va_Zof (hts (Cond.laysStatic "MomentTexts$Days" "BEFORE_MONTH" "[I") (by decide +kernel)) (h2 _ (tb_1 13 rfl rfl)) h1 (fun a h => Nat.not_le.mpr h), h3⟩
set_option maxRecDepth 100000 in
theorem lw_e40 : ∀ j, j < 6 → Cond.eq (.elem (.static "MomentTexts$DurationText" "LETTERS" "[C") (.int (Int32.ofNat j))) (.int (ltL.getD j 0)) ∈ lw_F := by decide +kernel
theorem lw_b40 : ∀ j, j < 6 → 0 ≤ (ltL.getD j 0).toInt ∧ (ltL.getD j 0).toInt ≤ 65535 := by decide +kernel
set_option maxRecDepth 100000 in
theorem lw_s40 {b : Nat} {s : State} (hs : ∀ w ∈ lw_F, w.before #[Value.ref b] s = true) (h2 : ∀ w ∈ gT, w.before #[Value.ref b] s = true) (hts : ∀ w ∈ lw_tbl, w.before #[Value.ref b] s = true) : ∃ t : Nat, va_Z "MomentTexts$DurationText" "LETTERS" "[C" (.ref t) (fun q => s.heap.size ≤ q) s s.heap ∧ va_T .char t 6 (fun j => .int (ltL.getD j 0)) (fun q => s.heap.size ≤ q) s s.heap := by
  obtain ⟨t, h1, h3⟩ := va_Tof (tm := (.static "MomentTexts$DurationText" "LETTERS" "[C")) (ty := .char) (N := 6) (f := fun j => .int (ltL.getD j 0)) (A := fun q => s.heap.size ≤ q) (by decide) (hs _ (by decide +kernel)) (va_eqt (hs (Cond.eq (.length (.static "MomentTexts$DurationText" "LETTERS" "[C")) (.int (Int32.ofNat 6))) (by decide +kernel))) (fun j hj => va_eqt (hs _ (lw_e40 j hj))) (fun a h => Nat.not_le.mpr h)
  exact ⟨t, va_Zof (hts (Cond.laysStatic "MomentTexts$DurationText" "LETTERS" "[C") (by decide +kernel)) (h2 _ (tb_1 10 rfl rfl)) h1 (fun a h => Nat.not_le.mpr h), h3⟩
set_option maxRecDepth 100000 in
theorem lw_e41 : ∀ j, j < 6 → Cond.eq (.elem (.static "MomentTexts$DurationText" "UNITS" "[I") (.int (Int32.ofNat j))) (.int (unL.getD j 0)) ∈ lw_F := by decide +kernel
theorem lw_b41 : ∀ j, j < 6 → 1 ≤ (unL.getD j 0).toInt ∧ (unL.getD j 0).toInt ≤ 86400 := by decide +kernel
set_option maxRecDepth 100000 in
theorem lw_s41 {b : Nat} {s : State} (hs : ∀ w ∈ lw_F, w.before #[Value.ref b] s = true) (h2 : ∀ w ∈ gT, w.before #[Value.ref b] s = true) (hts : ∀ w ∈ lw_tbl, w.before #[Value.ref b] s = true) : ∃ t : Nat, va_Z "MomentTexts$DurationText" "UNITS" "[I" (.ref t) (fun q => s.heap.size ≤ q) s s.heap ∧ va_T .int t 6 (fun j => .int (unL.getD j 0)) (fun q => s.heap.size ≤ q) s s.heap := by
  obtain ⟨t, h1, h3⟩ := va_Tof (tm := (.static "MomentTexts$DurationText" "UNITS" "[I")) (ty := .int) (N := 6) (f := fun j => .int (unL.getD j 0)) (A := fun q => s.heap.size ≤ q) (by decide) (hs _ (by decide +kernel)) (va_eqt (hs (Cond.eq (.length (.static "MomentTexts$DurationText" "UNITS" "[I")) (.int (Int32.ofNat 6))) (by decide +kernel))) (fun j hj => va_eqt (hs _ (lw_e41 j hj))) (fun a h => Nat.not_le.mpr h)
  exact ⟨t, va_Zof (hts (Cond.laysStatic "MomentTexts$DurationText" "UNITS" "[I") (by decide +kernel)) (h2 _ (tb_1 10 rfl rfl)) h1 (fun a h => Nat.not_le.mpr h), h3⟩
theorem lw_bm : ∀ j, j < 13 → (bmL.getD j 0).toInt = bm j := by decide +kernel
theorem lw_ac {b : Nat} {s : State} {ty : FieldType} (h : (Cond.arrayClass ty).before #[Value.ref b] s = true) : ∃ c : ClassId, ArrOfT s c ty ∧ s.vm.findClass ("[" ++ ty.toString) = some c := by
  obtain ⟨c, k, comp, h1, h2, h3⟩ := Cond.arrayClass_spec h
  exact ⟨c, fun n z => ⟨fun k h => (by cases h), k, h2, comp, h3⟩, h1⟩
theorem lw_az {b : Nat} {s : State} {C : String} (h : (Cond.arrayOver (.object C)).before #[Value.ref b] s = true) : ∃ c : ClassId, ArrOfT s c (.object C) ∧ va_RA s c (.object C) := by
  obtain ⟨comp, c, k, h1, -, h2, h3, h4⟩ := Cond.arrayOver_spec h
  exact ⟨c, fun n z => ⟨fun k h => (by cases h), k, h2, comp, h3⟩, k, comp, h2, h3, h1, h4⟩
theorem lw_at {s : State} {ty : FieldType} {cell : Cell} (h : s.isArrayOf cell ty) : ArrOfT s cell.cls ty := by
  obtain ⟨-, k, h1, comp, h2⟩ := h
  exact fun n z => ⟨fun k h => (by cases h), k, h1, comp, h2⟩
set_option maxRecDepth 100000 in
theorem lw_str : ∀ x ∈ gS, Cond.stringRef RX11 x.1 x.2 ∈ lw_tbl ∧ Cond.exactly (.string RX11 x.1) "java/lang/String" ∈ lw_F := by decide +kernel
set_option maxRecDepth 100000 in
theorem lw_cas : ∀ x ∈ gC, Cond.castable x.1 x.2 ∈ lw_tbl := by decide +kernel
set_option maxRecDepth 100000 in
theorem lw_dec : ∀ y ∈ gD, Cond.declares y ∈ lw_tbl := by decide +kernel
set_option maxRecDepth 100000 in
theorem lw_nst : ∀ x ∈ gNs, Cond.methodLinkNest x.1 x.2.1 x.2.2 "MomentTexts" ∈ lw_tbl := by decide +kernel
set_option maxRecDepth 100000 in
theorem lw_nca : Cond.not (.castable eU eI) ∈ lw_F := by decide +kernel
theorem lw_tne {s : State} {ty ty' : FieldType} {t t' N N' : Nat} {f f' : Nat → Value} {A A' : Nat → Prop} (h : va_T ty t N f A s s.heap) (h' : va_T ty' t' N' f' A' s s.heap) (hne : Int32.ofNat N ≠ Int32.ofNat N' ∨ (0 < N ∧ 0 < N' ∧ f 0 ≠ f' 0)) : t ≠ t' := by
  intro e
  subst e
  obtain ⟨c, h1, -, -, -, h5, h6, -⟩ := h
  obtain ⟨c', g1, -, -, -, g5, g6, -⟩ := h'
  cases h1.symm.trans g1
  rcases hne with q | ⟨q1, q2, q3⟩
  · exact q (h5.symm.trans g5)
  · exact q3 (Option.some.inj ((h6 0 q1).symm.trans (g6 0 q2)))
set_option maxRecDepth 100000 in
set_option maxHeartbeats 4000000 in
theorem lw_all {p : Program} {l : Launch} {s : State} {m : MethodId} {meth : Method} {c : Code} {b L : Nat} {xs : Nat → Int32} (hx : p.tables.exec = Jvm.exec) (hb : c.code = cL_law) (hml : c.maxLocals = 8) (hown : s.vm.findClass RL = some m.cls) (hts : ∀ w ∈ lw_tbl, w.before #[Value.ref b] s = true) (hX : va_X b L xs s s.heap) (hbl : b < s.heap.size) (hst : l.stackTraces = false) (hL : L ≤ 4096) (hgv : (Jvm.Cond.and given_1 narrow_1).before #[Value.ref b] s = true) : ∃ (D : va_G) (cA : Nat → ClassId) (ro0 : Nat → Option Nat), lw_C p l s m meth c b L xs D cA ro0 ∧ zh_ok D cA RTg ro0 s.heap.size s.heap s.heap [] := by
  have hs : ∀ w ∈ lw_F, w.before #[Value.ref b] s = true := flat_of_before _ hgv
  have h2 : ∀ w ∈ gT, w.before #[Value.ref b] s = true := fun w hw => hts w (List.mem_filter.mp hw).1
  obtain ⟨c0, i0, k0⟩ := u_known (C := RX0) (T := TX0) (N := 5) h2 wiX0 (h2 _ (tb_1 113 rfl rfl))
  obtain ⟨c1, i1, k1⟩ := u_known (C := RX1) (T := TX1) (N := 10) h2 wiX1 (h2 _ (tb_1 162 rfl rfl))
  obtain ⟨c2, i2, k2⟩ := u_known (C := RX3) (T := TX3) (N := 5) h2 wiX3 (h2 _ (tb_2 11 rfl rfl))
  obtain ⟨c3, i3, k3⟩ := u_known (C := RX4) (T := TX4) (N := 6) h2 wiX4 (h2 _ (tb_1 156 rfl rfl))
  obtain ⟨c4, i4, k4⟩ := u_known (C := RX5) (T := TX5) (N := 2) h2 wiX5 (h2 _ (tb_1 32 rfl rfl))
  obtain ⟨c5, i5, k5⟩ := u_known (C := RX6) (T := TX6) (N := 11) h2 wiX6 (h2 _ (tb_1 48 rfl rfl))
  obtain ⟨c6, i6, k6⟩ := u_known (C := RX7) (T := TX7) (N := 5) h2 wiX7 (h2 _ (tb_1 54 rfl rfl))
  obtain ⟨c7, i7, k7⟩ := u_known (C := RX8) (T := TX8) (N := 14) h2 wiX8 (h2 _ (tb_1 201 rfl rfl))
  obtain ⟨c8, i8, k8⟩ := u_known (C := RX9) (T := TX9) (N := 2) h2 wiX9 (h2 _ (tb_1 141 rfl rfl))
  obtain ⟨c9, i9, k9⟩ := u_known (C := RX10) (T := TX10) (N := 6) h2 wiX10 (h2 _ (tb_3 173 rfl rfl))
  obtain ⟨c10, i10, k10⟩ := u_known (C := RX11) (T := TX11) (N := 9) h2 wiX11 (h2 _ (tb_1 24 rfl rfl))
  obtain ⟨c11, i11, k11⟩ := u_known (C := RX12) (T := TX12) (N := 41) h2 wiX12 (h2 _ (tb_6 127 rfl rfl))
  obtain ⟨a0, A0, B0⟩ := lw_ac (ty := .int) (h2 _ (tb_3 200 rfl rfl))
  obtain ⟨a1, A1, B1⟩ := lw_ac (ty := .long) (h2 _ (tb_1 44 rfl rfl))
  obtain ⟨a2, A2, B2⟩ := lw_ac (ty := .byte) (h2 _ (tb_1 139 rfl rfl))
  obtain ⟨a3, A3, B3⟩ := lw_ac (ty := .char) (h2 _ (tb_8 202 rfl rfl))
  obtain ⟨a4, A4, B4⟩ := lw_az (C := "MomentTexts$Zone") (hts _ (by decide +kernel))
  obtain ⟨t39, z39, T39⟩ := lw_s39 hs h2 hts
  have U39 := T39
  obtain ⟨e39, p39, q39, v39, n39, m39, y39, -⟩ := U39
  obtain ⟨t40, z40, T40⟩ := lw_s40 hs h2 hts
  have U40 := T40
  obtain ⟨e40, p40, q40, v40, n40, m40, y40, -⟩ := U40
  obtain ⟨t41, z41, T41⟩ := lw_s41 hs h2 hts
  have U41 := T41
  obtain ⟨e41, p41, q41, v41, n41, m41, y41, -⟩ := U41
  have d1 : t39 ≠ t40 := lw_tne T39 T40 (Or.inl (by decide))
  have d2 : t39 ≠ t41 := lw_tne T39 T41 (Or.inl (by decide))
  have d3 : t40 ≠ t41 := lw_tne T40 T41 (Or.inr ⟨by decide, by decide, by decide⟩)
  have hK0 : zK0 (fun k => ([c0, c1, c2, c3, c4, c5, c6, c7, c8, c9, c10, c11] : List ClassId).getD k 0, fun k => ([i0, i1, i2, i3, i4, i5, i6, i7, i8, i9, i10, i11] : List (Nat → Nat)).getD k (fun _ => 0)) (fun k => ([a0, a1, a2, a3, a4, 0, 0, 0, 0, 0, e39.cls, a1, a2, e40.cls, a4, 0, 0, 0, 0, 0, e41.cls, a1, a2, a3, a4] : List ClassId).getD k 0) s := by
    refine ⟨fun k q hq => ?_, fun k q hq => ?_⟩
    · match k, hq with
      | 0, hq => cases hq; exact k0
      | 1, hq => cases hq; exact k1
      | 2, hq => cases hq; exact k2
      | 3, hq => cases hq; exact k3
      | 4, hq => cases hq; exact k4
      | 5, hq => cases hq; exact k5
      | 6, hq => cases hq; exact k6
      | 7, hq => cases hq; exact k7
      | 8, hq => cases hq; exact k8
      | 9, hq => cases hq; exact k9
      | 10, hq => cases hq; exact k10
      | 11, hq => cases hq; exact k11
      | k + 12, hq => exact absurd hq (by simp)
    · match k, hq with
      | 0, hq => cases hq; exact ⟨A0, B0⟩
      | 1, hq => cases hq; exact ⟨A1, B1⟩
      | 2, hq => cases hq; exact ⟨A2, B2⟩
      | 3, hq => cases hq; exact ⟨A3, B3⟩
      | 4, hq => cases hq; exact ⟨A4, B4⟩
      | k + 5, hq => exact absurd hq (by simp)
  have hAx : zAx (fun k => ([a0, a1, a2, a3, a4, 0, 0, 0, 0, 0, e39.cls, a1, a2, e40.cls, a4, 0, 0, 0, 0, 0, e41.cls, a1, a2, a3, a4] : List ClassId).getD k 0) s := by
    intro ti u h1 h3
    match ti, u, h1, h3 with
    | 0, 0, _, _ => exact A0
    | 0, 1, _, _ => exact lw_at q39
    | 0, 2, _, _ => exact lw_at q41
    | 1, 0, _, _ => exact A1
    | 1, 1, _, _ => exact A1
    | 1, 2, _, _ => exact A1
    | 2, 0, _, _ => exact A2
    | 2, 1, _, _ => exact A2
    | 2, 2, _, _ => exact A2
    | 3, 0, _, _ => exact A3
    | 3, 1, _, _ => exact lw_at q40
    | 3, 2, _, _ => exact A3
    | 4, 0, _, _ => exact A4
    | 4, 1, _, _ => exact A4
    | 4, 2, _, _ => exact A4
  let ro0 : Nat → Option Nat := fun q => if q = t39 then some 39 else if q = t40 then some 40 else if q = t41 then some 41 else none
  have r39 : ro0 t39 = some 39 := if_pos rfl
  have r40 : ro0 t40 = some 40 := by show (if t40 = t39 then some 39 else if t40 = t40 then some 40 else if t40 = t41 then some 41 else none) = some 40; rw [if_neg (Ne.symm d1), if_pos rfl]
  have r41 : ro0 t41 = some 41 := by show (if t41 = t39 then some 39 else if t41 = t40 then some 40 else if t41 = t41 then some 41 else none) = some 41; rw [if_neg (Ne.symm d2), if_neg (Ne.symm d3), if_pos rfl]
  have hKn : zKn (fun k => ([c0, c1, c2, c3, c4, c5, c6, c7, c8, c9, c10, c11] : List ClassId).getD k 0, fun k => ([i0, i1, i2, i3, i4, i5, i6, i7, i8, i9, i10, i11] : List (Nat → Nat)).getD k (fun _ => 0)) (fun k => ([a0, a1, a2, a3, a4, 0, 0, 0, 0, 0, e39.cls, a1, a2, e40.cls, a4, 0, 0, 0, 0, 0, e41.cls, a1, a2, a3, a4] : List ClassId).getD k 0) ro0 s.heap.size s.heap s := ⟨hK0, ⟨t39, r39, z39⟩, ⟨t40, r40, z40⟩, ⟨t41, r41, z41⟩, hAx⟩
  refine ⟨_, _, ro0, ⟨hx, hb, hml, hown, h2, hX, hbl, hst, ⟨⟨hKn, ?_, ?_, ?_, ?_, ?_, ?_⟩, hKn, ?_, ?_⟩, ?_, hL⟩, ?_⟩
  · exact vx_Zqof (hts _ (by decide +kernel)) (h2 _ (tb_1 14 rfl rfl)) (hs _ (by decide +kernel)) (fun a h => Nat.not_le.mpr h)
  · exact vx_Zqof (hts _ (by decide +kernel)) (h2 _ (tb_1 14 rfl rfl)) (hs _ (by decide +kernel)) (fun a h => Nat.not_le.mpr h)
  · intro x hx
    obtain ⟨a, _, _, _, g1, -⟩ := Cond.exactly_spec (args := #[Value.ref b]) (first := s) (o := none) (s := s) (idx := []) (hs _ (lw_str x hx).2)
    exact ⟨a, vk_R.of (hts _ (lw_str x hx).1) g1⟩
  · exact fun x hx => va_Nw.of rfl (hts _ (lw_cas x hx))
  · exact fun y hy => va_Nw.of rfl (hts _ (lw_dec y hy))
  · exact va_Nc.of (hs _ lw_nca)
  · exact fun x hx => va_Nw.of rfl (hts _ (lw_nst x hx))
  · exact va_AO.of (A := #[Value.ref b]) (hts _ (by decide +kernel))
  · exact ⟨t39, e39, z39.narrow (fun q h => h.elim), p39, fun j hj => ⟨_, y39 j hj, lw_bm j hj⟩, q39, v39, n39, rfl⟩
  · refine ⟨Nat.le_refl _, fun _ _ => rfl, fun q hq => (by cases hq), fun a r ha => ?_⟩
    have ha : (if a = t39 then some 39 else if a = t40 then some 40 else if a = t41 then some 41 else none) = some r := ha
    by_cases g1 : a = t39
    · rw [if_pos g1] at ha
      cases ha
      subst g1
      exact ⟨_, rfl, Or.inl rfl, e39, fun j => .int (bmL.getD j 0), p39, ⟨⟨1, by decide, rfl⟩, v39, q39.1, n39, m39⟩, fun t ht j hj => (by cases ht; exact ⟨y39 j hj, tz_i (lw_b39 j hj).1 (lw_b39 j hj).2⟩)⟩
    rw [if_neg g1] at ha
    by_cases g2 : a = t40
    · rw [if_pos g2] at ha
      cases ha
      subst g2
      exact ⟨_, rfl, Or.inl rfl, e40, fun j => .int (ltL.getD j 0), p40, ⟨⟨1, by decide, rfl⟩, v40, q40.1, n40, m40⟩, fun t ht j hj => (by cases ht; exact ⟨y40 j hj, tz_i (lw_b40 j hj).1 (lw_b40 j hj).2⟩)⟩
    rw [if_neg g2] at ha
    by_cases g3 : a = t41
    · rw [if_pos g3] at ha
      cases ha
      subst g3
      exact ⟨_, rfl, Or.inl rfl, e41, fun j => .int (unL.getD j 0), p41, ⟨⟨2, by decide, rfl⟩, v41, q41.1, n41, m41⟩, fun t ht j hj => (by cases ht; exact ⟨y41 j hj, tz_i (lw_b41 j hj).1 (lw_b41 j hj).2⟩)⟩
    rw [if_neg g3] at ha
    cases ha
