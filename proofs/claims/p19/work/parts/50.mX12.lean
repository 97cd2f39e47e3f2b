def tX12_dayOf : List (Nat × Instr × Nat) := [(0, .iload_n 2, 1), (1, .iconst 2, 1), (2, .if_icmp .gt 9, 3), (5, .lload_n 0, 1), (6, .lconst 1, 1), (7, .lsub, 1), (8, .goto 4, 3), (11, .lload_n 0, 1), (12, .lstore 4, 2), (14, .lload 4, 2), (16, .ldc2_w 93, 3), (19, .invokestatic 99, 3), (22, .lstore 6, 2), (24, .lload 4, 2), (26, .lload 6, 2), (28, .ldc2_w 93, 3), (31, .lmul, 1), (32, .lsub, 1), (33, .lstore 8, 2), (35, .ldc2_w 103, 3), (38, .iload_n 2, 1), (39, .iload_n 2, 1), (40, .iconst 2, 1), (41, .if_icmp .le 8, 3), (44, .bipush (-3), 2), (46, .goto 5, 3), (49, .bipush 9, 2), (51, .iadd, 1), (52, .i2l, 1), (53, .lmul, 1), (54, .ldc2_w 105, 3), (57, .ladd, 1), (58, .ldc2_w 107, 3), (61, .ldiv, 1), (62, .iload_n 3, 1), (63, .i2l, 1), (64, .ladd, 1), (65, .lconst 1, 1), (66, .lsub, 1), (67, .lstore 10, 2), (69, .lload 6, 2), (71, .ldc2_w 109, 3), (74, .lmul, 1), (75, .lload 8, 2), (77, .ldc2_w 111, 3), (80, .lmul, 1), (81, .ladd, 1), (82, .lload 8, 2), (84, .ldc2_w 89, 3), (87, .ldiv, 1), (88, .ladd, 1), (89, .lload 8, 2), (91, .ldc2_w 91, 3), (94, .ldiv, 1), (95, .lsub, 1), (96, .lload 10, 2), (98, .ladd, 1), (99, .ldc2_w 113, 3), (102, .lsub, 1), (103, .lreturn, 1)]
set_option maxRecDepth 100000 in
theorem eX12_dayOf : ∀ x ∈ tX12_dayOf, decode cX12_dayOf x.1 = .ok x.2 := by decide +kernel
def kX12_dayOf : zc_C := ([(1, (-9223372036854775808), 9223372036854775807), (0, (-2147483648), 2147483647), (0, (-2147483648), 2147483647)], [], [], [], [], [(some (1, (-9223372036854775808), 9223372036854775807), [], [])])
def pX12_dayOf : List zp_P := []
def KX12_dayOf : zk_K := (12, RTg, gfX12, ciX12, clX12, [], [(396, kX12_down__400)], [], [])
set_option maxRecDepth 100000 in
theorem qX12_dayOf : zy_ck KX12_dayOf tX12_dayOf pX12_dayOf kX12_dayOf 2 1 4000 = true := by decide +kernel
set_option maxRecDepth 100000 in
theorem mX12_dayOf (l : Launch) (D : va_G) (cA : Nat → ClassId) (ro : Nat → Option Nat) (sz : Nat) (H0 : Heap) : zy_M l D cA RTg ro sz H0 (zKn D cA ro sz H0) yX12_dayOf (gW yX12_dayOf cX12_dayOf 12 (some .long)) { frames := 1, cells := 0, slots := 0, locals := 25 } kX12_dayOf :=
  zy_met (zn := "MomentTexts$Zone") (K := KX12_dayOf) (tb := tX12_dayOf) (pts := pX12_dayOf) (rc := 2) (N := 1) (fuel := 4000) (by decide +kernel) rfl rfl (by decide +kernel) rfl rfl (by decide +kernel) eX12_dayOf qX12_dayOf (fun p e s m args below meth c Q hx hb hml hown hts hKn => by
    have h2 : ∀ w ∈ gT, w.before args s = true := fun w hw => hts w (List.mem_cons_of_mem _ hw)
    exact ⟨hx, hb, zD_all h2 hKn.1, zArN hKn, zf_clause h2 hown hKn.1 gfX12_ok (by decide +kernel), fun i n h => (by obtain ⟨x, h3, h4⟩ := ciX12_ok i n h; exact ⟨_, x, hown, h2 _ h3, h4⟩), fun i n h => (by obtain ⟨x, h3, h4⟩ := clX12_ok i n h; exact ⟨_, x, hown, h2 _ h3, h4⟩), (zgs_n), 
      zct_c (zr_S (idx := 99) hx hb hml hown hts hKn zKb (mX12_down__400 l D cA ro sz H0) ⟨rfl, rfl⟩ ⟨by decide, by decide⟩ ⟨Nat.zero_le _, Nat.zero_le _⟩ (tb_6 139 rfl rfl) (tb_1 12 rfl rfl) (tb_6 137 rfl rfl) (tb_6 138 rfl rfl) (by decide +kernel) rfl) (zct_n)⟩)
def tX12_thrown : List (Nat × Instr × Nat) := [(0, .aload_n 0, 1), (1, .getfield 85, 3), (4, .ireturn, 1)]
set_option maxRecDepth 100000 in
theorem eX12_thrown : ∀ x ∈ tX12_thrown, decode cX12_thrown x.1 = .ok x.2 := by decide +kernel
def kX12_thrown : zc_C := ([(26, 0, 0)], [], [], [], [], [(some (0, (-2147483648), 2147483647), [], [])])
def pX12_thrown : List zp_P := []
def KX12_thrown : zk_K := (1, RTg, gfX12, ciX12, clX12, [], [], [], [])
set_option maxRecDepth 100000 in
theorem qX12_thrown : zy_ck KX12_thrown tX12_thrown pX12_thrown kX12_thrown 1 1 4000 = true := by decide +kernel
set_option maxRecDepth 100000 in
theorem mX12_thrown (l : Launch) (D : va_G) (cA : Nat → ClassId) (ro : Nat → Option Nat) (sz : Nat) (H0 : Heap) : zy_M l D cA RTg ro sz H0 (zKn D cA ro sz H0) yX12_thrown (gW yX12_thrown cX12_thrown 1 (some .int)) { frames := 0, cells := 0, slots := 0, locals := 0 } kX12_thrown :=
  zy_met (zn := "MomentTexts$Zone") (K := KX12_thrown) (tb := tX12_thrown) (pts := pX12_thrown) (rc := 1) (N := 1) (fuel := 4000) (by decide +kernel) rfl rfl (by decide +kernel) rfl rfl (by decide +kernel) eX12_thrown qX12_thrown (fun p e s m args below meth c Q hx hb hml hown hts hKn => by
    have h2 : ∀ w ∈ gT, w.before args s = true := fun w hw => hts w (List.mem_cons_of_mem _ hw)
    exact ⟨hx, hb, zD_all h2 hKn.1, zArN hKn, zf_clause h2 hown hKn.1 gfX12_ok (by decide +kernel), fun i n h => (by obtain ⟨x, h3, h4⟩ := ciX12_ok i n h; exact ⟨_, x, hown, h2 _ h3, h4⟩), fun i n h => (by obtain ⟨x, h3, h4⟩ := clX12_ok i n h; exact ⟨_, x, hown, h2 _ h3, h4⟩), (zgs_n), zct_n⟩)
def tX12_isLeapYear : List (Nat × Instr × Nat) := [(0, .lload_n 0, 1), (1, .ldc2_w 89, 3), (4, .lrem, 1), (5, .lconst 0, 1), (6, .lcmp, 1), (7, .ifCond .ne 27, 3), (10, .lload_n 0, 1), (11, .ldc2_w 91, 3), (14, .lrem, 1), (15, .lconst 0, 1), (16, .lcmp, 1), (17, .ifCond .ne 13, 3), (20, .lload_n 0, 1), (21, .ldc2_w 93, 3), (24, .lrem, 1), (25, .lconst 0, 1), (26, .lcmp, 1), (27, .ifCond .ne 7, 3), (30, .iconst 1, 1), (31, .goto 4, 3), (34, .iconst 0, 1), (35, .ireturn, 1)]
set_option maxRecDepth 100000 in
theorem eX12_isLeapYear : ∀ x ∈ tX12_isLeapYear, decode cX12_isLeapYear x.1 = .ok x.2 := by decide +kernel
def kX12_isLeapYear : zc_C := ([(1, (-9223372036854775808), 9223372036854775807)], [], [], [], [], [(some (0, 0, 1), [], [])])
def pX12_isLeapYear : List zp_P := []
def KX12_isLeapYear : zk_K := (2, RTg, gfX12, ciX12, clX12, [], [], [], [])
set_option maxRecDepth 100000 in
theorem qX12_isLeapYear : zy_ck KX12_isLeapYear tX12_isLeapYear pX12_isLeapYear kX12_isLeapYear 1 1 4000 = true := by decide +kernel
set_option maxRecDepth 100000 in
theorem mX12_isLeapYear (l : Launch) (D : va_G) (cA : Nat → ClassId) (ro : Nat → Option Nat) (sz : Nat) (H0 : Heap) : zy_M l D cA RTg ro sz H0 (zKn D cA ro sz H0) yX12_isLeapYear (gW yX12_isLeapYear cX12_isLeapYear 2 (some .boolean)) { frames := 0, cells := 0, slots := 0, locals := 0 } kX12_isLeapYear :=
  zy_met (zn := "MomentTexts$Zone") (K := KX12_isLeapYear) (tb := tX12_isLeapYear) (pts := pX12_isLeapYear) (rc := 1) (N := 1) (fuel := 4000) (by decide +kernel) rfl rfl (by decide +kernel) rfl rfl (by decide +kernel) eX12_isLeapYear qX12_isLeapYear (fun p e s m args below meth c Q hx hb hml hown hts hKn => by
    have h2 : ∀ w ∈ gT, w.before args s = true := fun w hw => hts w (List.mem_cons_of_mem _ hw)
    exact ⟨hx, hb, zD_all h2 hKn.1, zArN hKn, zf_clause h2 hown hKn.1 gfX12_ok (by decide +kernel), fun i n h => (by obtain ⟨x, h3, h4⟩ := ciX12_ok i n h; exact ⟨_, x, hown, h2 _ h3, h4⟩), fun i n h => (by obtain ⟨x, h3, h4⟩ := clX12_ok i n h; exact ⟨_, x, hown, h2 _ h3, h4⟩), (zgs_n), zct_n⟩)
def tX12_daysOf : List (Nat × Instr × Nat) := [(0, .iload_n 2, 1), (1, .iconst 2, 1), (2, .if_icmp .ne 20, 3), (5, .lload_n 0, 1), (6, .invokestatic 95, 3), (9, .ifCond .eq 8, 3), (12, .bipush 29, 2), (14, .goto 38, 3), (17, .bipush 28, 2), (19, .goto 33, 3), (22, .iload_n 2, 1), (23, .iconst 4, 1), (24, .if_icmp .eq 21, 3), (27, .iload_n 2, 1), (28, .bipush 6, 2), (30, .if_icmp .eq 15, 3), (33, .iload_n 2, 1), (34, .bipush 9, 2), (36, .if_icmp .eq 9, 3), (39, .iload_n 2, 1), (40, .bipush 11, 2), (42, .if_icmp .ne 8, 3), (45, .bipush 30, 2), (47, .goto 5, 3), (50, .bipush 31, 2), (52, .ireturn, 1)]
set_option maxRecDepth 100000 in
theorem eX12_daysOf : ∀ x ∈ tX12_daysOf, decode cX12_daysOf x.1 = .ok x.2 := by decide +kernel
def kX12_daysOf : zc_C := ([(1, (-9223372036854775808), 9223372036854775807), (0, (-2147483648), 2147483647)], [], [], [], [], [(some (0, 28, 31), [], [])])
def pX12_daysOf : List zp_P := []
def KX12_daysOf : zk_K := (3, RTg, gfX12, ciX12, clX12, [], [(380, kX12_isLeapYear)], [], [])
set_option maxRecDepth 100000 in
theorem qX12_daysOf : zy_ck KX12_daysOf tX12_daysOf pX12_daysOf kX12_daysOf 1 1 4000 = true := by decide +kernel
set_option maxRecDepth 100000 in
theorem mX12_daysOf (l : Launch) (D : va_G) (cA : Nat → ClassId) (ro : Nat → Option Nat) (sz : Nat) (H0 : Heap) : zy_M l D cA RTg ro sz H0 (zKn D cA ro sz H0) yX12_daysOf (gW yX12_daysOf cX12_daysOf 3 (some .int)) { frames := 1, cells := 0, slots := 0, locals := 21 } kX12_daysOf :=
  zy_met (zn := "MomentTexts$Zone") (K := KX12_daysOf) (tb := tX12_daysOf) (pts := pX12_daysOf) (rc := 1) (N := 1) (fuel := 4000) (by decide +kernel) rfl rfl (by decide +kernel) rfl rfl (by decide +kernel) eX12_daysOf qX12_daysOf (fun p e s m args below meth c Q hx hb hml hown hts hKn => by
    have h2 : ∀ w ∈ gT, w.before args s = true := fun w hw => hts w (List.mem_cons_of_mem _ hw)
    exact ⟨hx, hb, zD_all h2 hKn.1, zArN hKn, zf_clause h2 hown hKn.1 gfX12_ok (by decide +kernel), fun i n h => (by obtain ⟨x, h3, h4⟩ := ciX12_ok i n h; exact ⟨_, x, hown, h2 _ h3, h4⟩), fun i n h => (by obtain ⟨x, h3, h4⟩ := clX12_ok i n h; exact ⟨_, x, hown, h2 _ h3, h4⟩), (zgs_n), 
      zct_c (zr_S (idx := 95) hx hb hml hown hts hKn zKb (mX12_isLeapYear l D cA ro sz H0) ⟨rfl, rfl⟩ ⟨by decide, by decide⟩ ⟨Nat.zero_le _, Nat.zero_le _⟩ (tb_7 54 rfl rfl) (tb_1 12 rfl rfl) (tb_7 52 rfl rfl) (tb_7 53 rfl rfl) (by decide +kernel) rfl) (zct_n)⟩)
def tX12_civil : List (Nat × Instr × Nat) := [(0, .lload_n 1, 1), (1, .ldc2_w 113, 3), (4, .ladd, 1), (5, .lstore_n 3, 1), (6, .lload_n 3, 1), (7, .ldc2_w 109, 3), (10, .invokestatic 99, 3), (13, .lstore 5, 2), (15, .lload_n 3, 1), (16, .lload 5, 2), (18, .ldc2_w 109, 3), (21, .lmul, 1), (22, .lsub, 1), (23, .lstore 7, 2), (25, .lload 7, 2), (27, .lload 7, 2), (29, .ldc2_w 115, 3), (32, .ldiv, 1), (33, .lsub, 1), (34, .lload 7, 2), (36, .ldc2_w 117, 3), (39, .ldiv, 1), (40, .ladd, 1), (41, .lload 7, 2), (43, .ldc2_w 119, 3), (46, .ldiv, 1), (47, .lsub, 1), (48, .ldc2_w 111, 3), (51, .ldiv, 1), (52, .lstore 9, 2), (54, .lload 7, 2), (56, .ldc2_w 111, 3), (59, .lload 9, 2), (61, .lmul, 1), (62, .lload 9, 2), (64, .ldc2_w 89, 3), (67, .ldiv, 1), (68, .ladd, 1), (69, .lload 9, 2), (71, .ldc2_w 91, 3), (74, .ldiv, 1), (75, .lsub, 1), (76, .lsub, 1), (77, .lstore 11, 2), (79, .ldc2_w 107, 3), (82, .lload 11, 2), (84, .lmul, 1), (85, .ldc2_w 105, 3), (88, .ladd, 1), (89, .ldc2_w 103, 3), (92, .ldiv, 1), (93, .l2i, 1), (94, .istore 13, 2), (96, .aload_n 0, 1), (97, .lload 11, 2), (99, .ldc2_w 103, 3), (102, .iload 13, 2), (104, .i2l, 1), (105, .lmul, 1), (106, .ldc2_w 105, 3), (109, .ladd, 1), (110, .ldc2_w 107, 3), (113, .ldiv, 1), (114, .lsub, 1), (115, .lconst 1, 1), (116, .ladd, 1), (117, .l2i, 1), (118, .putfield 121, 3), (121, .aload_n 0, 1), (122, .iload 13, 2), (124, .bipush 10, 2), (126, .if_icmp .ge 10, 3), (129, .iload 13, 2), (131, .iconst 3, 1), (132, .iadd, 1), (133, .goto 8, 3), (136, .iload 13, 2), (138, .bipush 9, 2), (140, .isub, 1), (141, .putfield 124, 3), (144, .aload_n 0, 1), (145, .lload 9, 2), (147, .lload 5, 2), (149, .ldc2_w 93, 3), (152, .lmul, 1), (153, .ladd, 1), (154, .aload_n 0, 1), (155, .getfield 124, 3), (158, .iconst 2, 1), (159, .if_icmp .gt 7, 3), (162, .lconst 1, 1), (163, .goto 4, 3), (166, .lconst 0, 1), (167, .ladd, 1), (168, .putfield 127, 3), (171, .return_, 1)]
set_option maxRecDepth 100000 in
theorem eX12_civil : ∀ x ∈ tX12_civil, decode cX12_civil x.1 = .ok x.2 := by decide +kernel
def kX12_civil : zc_C := ([(26, 0, 0), (1, (-1000000000000), 1000000000000)], [], [], [(11, 18), (11, 19), (11, 20)], [(0, 11, 18)], [(none, [(1, (-20000000000), 20000000000)], [])])
def pX12_civil : List zp_P := []
def KX12_civil : zk_K := (14, RTg, gfX12, ciX12, clX12, [], [(396, kX12_down__146097)], [(11, 18), (11, 19), (11, 20)], [])
set_option maxRecDepth 100000 in
theorem qX12_civil : zy_ck KX12_civil tX12_civil pX12_civil kX12_civil 4 1 4000 = true := by decide +kernel
set_option maxRecDepth 100000 in
theorem mX12_civil (l : Launch) (D : va_G) (cA : Nat → ClassId) (ro : Nat → Option Nat) (sz : Nat) (H0 : Heap) : zy_M l D cA RTg ro sz H0 (zKn D cA ro sz H0) yX12_civil (gW yX12_civil cX12_civil 14 none) { frames := 1, cells := 0, slots := 0, locals := 25 } kX12_civil :=
  zy_met (zn := "MomentTexts$Zone") (K := KX12_civil) (tb := tX12_civil) (pts := pX12_civil) (rc := 4) (N := 1) (fuel := 4000) (by decide +kernel) rfl rfl (by decide +kernel) rfl rfl (by decide +kernel) eX12_civil qX12_civil (fun p e s m args below meth c Q hx hb hml hown hts hKn => by
    have h2 : ∀ w ∈ gT, w.before args s = true := fun w hw => hts w (List.mem_cons_of_mem _ hw)
    exact ⟨hx, hb, zD_all h2 hKn.1, zArN hKn, zf_clause h2 hown hKn.1 gfX12_ok (by decide +kernel), fun i n h => (by obtain ⟨x, h3, h4⟩ := ciX12_ok i n h; exact ⟨_, x, hown, h2 _ h3, h4⟩), fun i n h => (by obtain ⟨x, h3, h4⟩ := clX12_ok i n h; exact ⟨_, x, hown, h2 _ h3, h4⟩), (zgs_n), 
      zct_c (zr_S (idx := 99) hx hb hml hown hts hKn zKb (mX12_down__146097 l D cA ro sz H0) ⟨rfl, rfl⟩ ⟨by decide, by decide⟩ ⟨Nat.zero_le _, Nat.zero_le _⟩ (tb_6 139 rfl rfl) (tb_1 12 rfl rfl) (tb_6 137 rfl rfl) (tb_6 138 rfl rfl) (by decide +kernel) rfl) (zct_n)⟩)
def tX12_isDay : List (Nat × Instr × Nat) := [(0, .lload_n 1, 1), (1, .aload_n 0, 1), (2, .getfield 74, 3), (5, .aload_n 0, 1), (6, .getfield 80, 3), (9, .invokestatic 130, 3), (12, .ireturn, 1)]
set_option maxRecDepth 100000 in
theorem eX12_isDay : ∀ x ∈ tX12_isDay, decode cX12_isDay x.1 = .ok x.2 := by decide +kernel
def kX12_isDay : zc_C := ([(26, 0, 0), (1, (-9223372036854775808), 9223372036854775807)], [], [], [], [], [(some (0, 1, 1), [], [([(1, (-1))], (-365961662)), ([(1, 1)], (-364522971))]), (some (0, 0, 0), [], [])])
def pX12_isDay : List zp_P := []
def KX12_isDay : zk_K := (3, RTg, gfX12, ciX12, clX12, [], [(520, kX12_isIn)], [], [])
set_option maxRecDepth 100000 in
theorem qX12_isDay : zy_ck KX12_isDay tX12_isDay pX12_isDay kX12_isDay 1 1 4000 = true := by decide +kernel
set_option maxRecDepth 100000 in
theorem mX12_isDay (l : Launch) (D : va_G) (cA : Nat → ClassId) (ro : Nat → Option Nat) (sz : Nat) (H0 : Heap) : zy_M l D cA RTg ro sz H0 (zKn D cA ro sz H0) yX12_isDay (gW yX12_isDay cX12_isDay 3 (some .boolean)) { frames := 1, cells := 0, slots := 0, locals := 25 } kX12_isDay :=
  zy_met (zn := "MomentTexts$Zone") (K := KX12_isDay) (tb := tX12_isDay) (pts := pX12_isDay) (rc := 1) (N := 1) (fuel := 4000) (by decide +kernel) rfl rfl (by decide +kernel) rfl rfl (by decide +kernel) eX12_isDay qX12_isDay (fun p e s m args below meth c Q hx hb hml hown hts hKn => by
    have h2 : ∀ w ∈ gT, w.before args s = true := fun w hw => hts w (List.mem_cons_of_mem _ hw)
    exact ⟨hx, hb, zD_all h2 hKn.1, zArN hKn, zf_clause h2 hown hKn.1 gfX12_ok (by decide +kernel), fun i n h => (by obtain ⟨x, h3, h4⟩ := ciX12_ok i n h; exact ⟨_, x, hown, h2 _ h3, h4⟩), fun i n h => (by obtain ⟨x, h3, h4⟩ := clX12_ok i n h; exact ⟨_, x, hown, h2 _ h3, h4⟩), (zgs_n), 
      zct_c (zr_S (idx := 130) hx hb hml hown hts hKn zKb (mX12_isIn l D cA ro sz H0) ⟨rfl, rfl⟩ ⟨by decide, by decide⟩ ⟨Nat.zero_le _, Nat.zero_le _⟩ (tb_7 47 rfl rfl) (tb_1 12 rfl rfl) (tb_7 45 rfl rfl) (tb_7 46 rfl rfl) (by decide +kernel) rfl) (zct_n)⟩)
def tX12_weekdayOf : List (Nat × Instr × Nat) := [(0, .lload_n 0, 1), (1, .ldc2_w 134, 3), (4, .ladd, 1), (5, .ldc2_w 136, 3), (8, .lrem, 1), (9, .lstore_n 2, 1), (10, .lload_n 2, 1), (11, .lconst 0, 1), (12, .lcmp, 1), (13, .ifCond .ge 11, 3), (16, .lload_n 2, 1), (17, .ldc2_w 136, 3), (20, .ladd, 1), (21, .goto 4, 3), (24, .lload_n 2, 1), (25, .l2i, 1), (26, .iconst 1, 1), (27, .iadd, 1), (28, .ireturn, 1)]
set_option maxRecDepth 100000 in
theorem eX12_weekdayOf : ∀ x ∈ tX12_weekdayOf, decode cX12_weekdayOf x.1 = .ok x.2 := by decide +kernel
def kX12_weekdayOf : zc_C := ([(1, (-9223372036854775808), 9223372036854775807)], [], [], [], [], [(some (0, 1, 7), [], [])])
def pX12_weekdayOf : List zp_P := []
def KX12_weekdayOf : zk_K := (4, RTg, gfX12, ciX12, clX12, [], [], [], [])
set_option maxRecDepth 100000 in
theorem qX12_weekdayOf : zy_ck KX12_weekdayOf tX12_weekdayOf pX12_weekdayOf kX12_weekdayOf 1 1 4000 = true := by decide +kernel
set_option maxRecDepth 100000 in
theorem mX12_weekdayOf (l : Launch) (D : va_G) (cA : Nat → ClassId) (ro : Nat → Option Nat) (sz : Nat) (H0 : Heap) : zy_M l D cA RTg ro sz H0 (zKn D cA ro sz H0) yX12_weekdayOf (gW yX12_weekdayOf cX12_weekdayOf 4 (some .int)) { frames := 0, cells := 0, slots := 0, locals := 0 } kX12_weekdayOf :=
  zy_met (zn := "MomentTexts$Zone") (K := KX12_weekdayOf) (tb := tX12_weekdayOf) (pts := pX12_weekdayOf) (rc := 1) (N := 1) (fuel := 4000) (by decide +kernel) rfl rfl (by decide +kernel) rfl rfl (by decide +kernel) eX12_weekdayOf qX12_weekdayOf (fun p e s m args below meth c Q hx hb hml hown hts hKn => by
    have h2 : ∀ w ∈ gT, w.before args s = true := fun w hw => hts w (List.mem_cons_of_mem _ hw)
    exact ⟨hx, hb, zD_all h2 hKn.1, zArN hKn, zf_clause h2 hown hKn.1 gfX12_ok (by decide +kernel), fun i n h => (by obtain ⟨x, h3, h4⟩ := ciX12_ok i n h; exact ⟨_, x, hown, h2 _ h3, h4⟩), fun i n h => (by obtain ⟨x, h3, h4⟩ := clX12_ok i n h; exact ⟨_, x, hown, h2 _ h3, h4⟩), (zgs_n), zct_n⟩)
def tX12_firstWeek : List (Nat × Instr × Nat) := [(0, .lload_n 0, 1), (1, .iconst 1, 1), (2, .iconst 4, 1), (3, .invokestatic 70, 3), (6, .lstore_n 2, 1), (7, .lload_n 2, 1), (8, .lload_n 2, 1), (9, .invokestatic 138, 3), (12, .i2l, 1), (13, .lsub, 1), (14, .lconst 1, 1), (15, .ladd, 1), (16, .lreturn, 1)]
set_option maxRecDepth 100000 in
theorem eX12_firstWeek : ∀ x ∈ tX12_firstWeek, decode cX12_firstWeek x.1 = .ok x.2 := by decide +kernel
def kX12_firstWeek : zc_C := ([(1, (-9223372036854775808), 9223372036854775807)], [], [], [], [], [(some (1, (-9223372036854775808), 9223372036854775807), [], [])])
def pX12_firstWeek : List zp_P := []
def KX12_firstWeek : zk_K := (4, RTg, gfX12, ciX12, clX12, [], [(280, kX12_dayOf), (552, kX12_weekdayOf)], [], [])
set_option maxRecDepth 100000 in
theorem qX12_firstWeek : zy_ck KX12_firstWeek tX12_firstWeek pX12_firstWeek kX12_firstWeek 2 1 4000 = true := by decide +kernel
set_option maxRecDepth 100000 in
theorem mX12_firstWeek (l : Launch) (D : va_G) (cA : Nat → ClassId) (ro : Nat → Option Nat) (sz : Nat) (H0 : Heap) : zy_M l D cA RTg ro sz H0 (zKn D cA ro sz H0) yX12_firstWeek (gW yX12_firstWeek cX12_firstWeek 4 (some .long)) { frames := 2, cells := 0, slots := 0, locals := 56 } kX12_firstWeek :=
  zy_met (zn := "MomentTexts$Zone") (K := KX12_firstWeek) (tb := tX12_firstWeek) (pts := pX12_firstWeek) (rc := 2) (N := 1) (fuel := 4000) (by decide +kernel) rfl rfl (by decide +kernel) rfl rfl (by decide +kernel) eX12_firstWeek qX12_firstWeek (fun p e s m args below meth c Q hx hb hml hown hts hKn => by
    have h2 : ∀ w ∈ gT, w.before args s = true := fun w hw => hts w (List.mem_cons_of_mem _ hw)
    exact ⟨hx, hb, zD_all h2 hKn.1, zArN hKn, zf_clause h2 hown hKn.1 gfX12_ok (by decide +kernel), fun i n h => (by obtain ⟨x, h3, h4⟩ := ciX12_ok i n h; exact ⟨_, x, hown, h2 _ h3, h4⟩), fun i n h => (by obtain ⟨x, h3, h4⟩ := clX12_ok i n h; exact ⟨_, x, hown, h2 _ h3, h4⟩), (zgs_n), 
      zct_c (zr_S (idx := 70) hx hb hml hown hts hKn zKb (mX12_dayOf l D cA ro sz H0) ⟨rfl, rfl⟩ ⟨by decide, by decide⟩ ⟨Nat.zero_le _, Nat.zero_le _⟩ (tb_6 135 rfl rfl) (tb_1 12 rfl rfl) (tb_6 133 rfl rfl) (tb_6 134 rfl rfl) (by decide +kernel) rfl) (
      zct_c (zr_S (idx := 138) hx hb hml hown hts hKn zKb (mX12_weekdayOf l D cA ro sz H0) ⟨rfl, rfl⟩ ⟨by decide, by decide⟩ ⟨Nat.zero_le _, Nat.zero_le _⟩ (tb_7 80 rfl rfl) (tb_1 12 rfl rfl) (tb_7 78 rfl rfl) (tb_7 79 rfl rfl) (by decide +kernel) rfl) (zct_n))⟩)
def tX12_weeksOf : List (Nat × Instr × Nat) := [(0, .lload_n 0, 1), (1, .lconst 1, 1), (2, .ladd, 1), (3, .invokestatic 142, 3), (6, .lload_n 0, 1), (7, .invokestatic 142, 3), (10, .lsub, 1), (11, .ldc2_w 136, 3), (14, .ldiv, 1), (15, .l2i, 1), (16, .ireturn, 1)]
set_option maxRecDepth 100000 in
theorem eX12_weeksOf : ∀ x ∈ tX12_weeksOf, decode cX12_weeksOf x.1 = .ok x.2 := by decide +kernel
def kX12_weeksOf : zc_C := ([(1, (-9223372036854775808), 9223372036854775807)], [], [], [], [], [(some (0, (-2147483648), 2147483647), [], [])])
def pX12_weeksOf : List zp_P := []
def KX12_weeksOf : zk_K := (2, RTg, gfX12, ciX12, clX12, [], [(568, kX12_firstWeek)], [], [])
set_option maxRecDepth 100000 in
theorem qX12_weeksOf : zy_ck KX12_weeksOf tX12_weeksOf pX12_weeksOf kX12_weeksOf 1 1 4000 = true := by decide +kernel
set_option maxRecDepth 100000 in
theorem mX12_weeksOf (l : Launch) (D : va_G) (cA : Nat → ClassId) (ro : Nat → Option Nat) (sz : Nat) (H0 : Heap) : zy_M l D cA RTg ro sz H0 (zKn D cA ro sz H0) yX12_weeksOf (gW yX12_weeksOf cX12_weeksOf 2 (some .int)) { frames := 3, cells := 0, slots := 0, locals := 79 } kX12_weeksOf :=
  zy_met (zn := "MomentTexts$Zone") (K := KX12_weeksOf) (tb := tX12_weeksOf) (pts := pX12_weeksOf) (rc := 1) (N := 1) (fuel := 4000) (by decide +kernel) rfl rfl (by decide +kernel) rfl rfl (by decide +kernel) eX12_weeksOf qX12_weeksOf (fun p e s m args below meth c Q hx hb hml hown hts hKn => by
    have h2 : ∀ w ∈ gT, w.before args s = true := fun w hw => hts w (List.mem_cons_of_mem _ hw)
    exact ⟨hx, hb, zD_all h2 hKn.1, zArN hKn, zf_clause h2 hown hKn.1 gfX12_ok (by decide +kernel), fun i n h => (by obtain ⟨x, h3, h4⟩ := ciX12_ok i n h; exact ⟨_, x, hown, h2 _ h3, h4⟩), fun i n h => (by obtain ⟨x, h3, h4⟩ := clX12_ok i n h; exact ⟨_, x, hown, h2 _ h3, h4⟩), (zgs_n), 
      zct_c (zr_S (idx := 142) hx hb hml hown hts hKn zKb (mX12_firstWeek l D cA ro sz H0) ⟨rfl, rfl⟩ ⟨by decide, by decide⟩ ⟨Nat.zero_le _, Nat.zero_le _⟩ (tb_7 77 rfl rfl) (tb_1 12 rfl rfl) (tb_7 75 rfl rfl) (tb_7 76 rfl rfl) (by decide +kernel) rfl) (zct_n)⟩)
def tX12_weekYearOf : List (Nat × Instr × Nat) := [(0, .aload_n 0, 1), (1, .lload_n 1, 1), (2, .invokevirtual 146, 3), (5, .aload_n 0, 1), (6, .getfield 127, 3), (9, .lstore_n 3, 1), (10, .lload_n 1, 1), (11, .lload_n 3, 1), (12, .lconst 1, 1), (13, .ladd, 1), (14, .invokestatic 142, 3), (17, .lcmp, 1), (18, .ifCond .lt 9, 3), (21, .lload_n 3, 1), (22, .lconst 1, 1), (23, .ladd, 1), (24, .goto 19, 3), (27, .lload_n 1, 1), (28, .lload_n 3, 1), (29, .invokestatic 142, 3), (32, .lcmp, 1), (33, .ifCond .ge 9, 3), (36, .lload_n 3, 1), (37, .lconst 1, 1), (38, .lsub, 1), (39, .goto 4, 3), (42, .lload_n 3, 1), (43, .lreturn, 1)]
set_option maxRecDepth 100000 in
theorem eX12_weekYearOf : ∀ x ∈ tX12_weekYearOf, decode cX12_weekYearOf x.1 = .ok x.2 := by decide +kernel
def kX12_weekYearOf : zc_C := ([(26, 0, 0), (1, (-1000000000000), 1000000000000)], [], [], [(11, 18), (11, 19), (11, 20)], [], [(some (1, (-9223372036854775808), 9223372036854775807), [], [])])
def pX12_weekYearOf : List zp_P := []
def KX12_weekYearOf : zk_K := (5, RTg, gfX12, ciX12, clX12, [], [(568, kX12_firstWeek), (585, kX12_civil)], [(11, 18), (11, 19), (11, 20)], [])
set_option maxRecDepth 100000 in
theorem qX12_weekYearOf : zy_ck KX12_weekYearOf tX12_weekYearOf pX12_weekYearOf kX12_weekYearOf 2 1 4000 = true := by decide +kernel
set_option maxRecDepth 100000 in
theorem mX12_weekYearOf (l : Launch) (D : va_G) (cA : Nat → ClassId) (ro : Nat → Option Nat) (sz : Nat) (H0 : Heap) : zy_M l D cA RTg ro sz H0 (zKn D cA ro sz H0) yX12_weekYearOf (gW yX12_weekYearOf cX12_weekYearOf 5 (some .long)) { frames := 3, cells := 0, slots := 0, locals := 79 } kX12_weekYearOf :=
  zy_met (zn := "MomentTexts$Zone") (K := KX12_weekYearOf) (tb := tX12_weekYearOf) (pts := pX12_weekYearOf) (rc := 2) (N := 1) (fuel := 4000) (by decide +kernel) rfl rfl (by decide +kernel) rfl rfl (by decide +kernel) eX12_weekYearOf qX12_weekYearOf (fun p e s m args below meth c Q hx hb hml hown hts hKn => by
    have h2 : ∀ w ∈ gT, w.before args s = true := fun w hw => hts w (List.mem_cons_of_mem _ hw)
    exact ⟨hx, hb, zD_all h2 hKn.1, zArN hKn, zf_clause h2 hown hKn.1 gfX12_ok (by decide +kernel), fun i n h => (by obtain ⟨x, h3, h4⟩ := ciX12_ok i n h; exact ⟨_, x, hown, h2 _ h3, h4⟩), fun i n h => (by obtain ⟨x, h3, h4⟩ := clX12_ok i n h; exact ⟨_, x, hown, h2 _ h3, h4⟩), (zgs_n), 
      zct_c (zr_S (idx := 142) hx hb hml hown hts hKn zKb (mX12_firstWeek l D cA ro sz H0) ⟨rfl, rfl⟩ ⟨by decide, by decide⟩ ⟨Nat.zero_le _, Nat.zero_le _⟩ (tb_7 77 rfl rfl) (tb_1 12 rfl rfl) (tb_7 75 rfl rfl) (tb_7 76 rfl rfl) (by decide +kernel) rfl) (
      zct_c (zr_V (idx := 146) (r := 11) (ci := 11) (n0 := 0) (fs := fsX12) (lo := 0) (hi0 := 0) (ts := [(1, (-1000000000000), 1000000000000)]) hx hb hml hown hts hKn zKb (mX12_civil l D cA ro sz H0) ⟨rfl, rfl⟩ ⟨by decide, by decide⟩ ⟨Nat.zero_le _, Nat.zero_le _⟩ (tb_7 71 rfl rfl) (tb_1 12 rfl rfl) (tb_7 68 rfl rfl) (tb_7 70 rfl rfl) (tb_0 6 rfl rfl) (by decide +kernel) rfl rfl (zCX12 hKn.1) rfl) (zct_n))⟩)
def tX12_isYear : List (Nat × Instr × Nat) := [(0, .lload_n 0, 1), (1, .ldc2_w 68, 3), (4, .ldc2_w 78, 3), (7, .invokestatic 130, 3), (10, .ireturn, 1)]
set_option maxRecDepth 100000 in
theorem eX12_isYear : ∀ x ∈ tX12_isYear, decode cX12_isYear x.1 = .ok x.2 := by decide +kernel
def kX12_isYear : zc_C := ([(1, (-9223372036854775808), 9223372036854775807)], [], [], [], [], [(some (0, 1, 1), [], [([(0, (-1))], (-999999)), ([(0, 1)], (-999999))]), (some (0, 0, 0), [], [])])
def pX12_isYear : List zp_P := []
def KX12_isYear : zk_K := (2, RTg, gfX12, ciX12, clX12, [], [(520, kX12_isIn)], [], [])
set_option maxRecDepth 100000 in
theorem qX12_isYear : zy_ck KX12_isYear tX12_isYear pX12_isYear kX12_isYear 1 1 4000 = true := by decide +kernel
set_option maxRecDepth 100000 in
theorem mX12_isYear (l : Launch) (D : va_G) (cA : Nat → ClassId) (ro : Nat → Option Nat) (sz : Nat) (H0 : Heap) : zy_M l D cA RTg ro sz H0 (zKn D cA ro sz H0) yX12_isYear (gW yX12_isYear cX12_isYear 2 (some .boolean)) { frames := 1, cells := 0, slots := 0, locals := 25 } kX12_isYear :=
  zy_met (zn := "MomentTexts$Zone") (K := KX12_isYear) (tb := tX12_isYear) (pts := pX12_isYear) (rc := 1) (N := 1) (fuel := 4000) (by decide +kernel) rfl rfl (by decide +kernel) rfl rfl (by decide +kernel) eX12_isYear qX12_isYear (fun p e s m args below meth c Q hx hb hml hown hts hKn => by
    have h2 : ∀ w ∈ gT, w.before args s = true := fun w hw => hts w (List.mem_cons_of_mem _ hw)
    exact ⟨hx, hb, zD_all h2 hKn.1, zArN hKn, zf_clause h2 hown hKn.1 gfX12_ok (by decide +kernel), fun i n h => (by obtain ⟨x, h3, h4⟩ := ciX12_ok i n h; exact ⟨_, x, hown, h2 _ h3, h4⟩), fun i n h => (by obtain ⟨x, h3, h4⟩ := clX12_ok i n h; exact ⟨_, x, hown, h2 _ h3, h4⟩), (zgs_n), 
      zct_c (zr_S (idx := 130) hx hb hml hown hts hKn zKb (mX12_isIn l D cA ro sz H0) ⟨rfl, rfl⟩ ⟨by decide, by decide⟩ ⟨Nat.zero_le _, Nat.zero_le _⟩ (tb_7 47 rfl rfl) (tb_1 12 rfl rfl) (tb_7 45 rfl rfl) (tb_7 46 rfl rfl) (by decide +kernel) rfl) (zct_n)⟩)
def tX12_day : List (Nat × Instr × Nat) := [(0, .aload_n 0, 1), (1, .iload_n 1, 1), (2, .i2l, 1), (3, .invokestatic 150, 3), (6, .ifCond .eq 47, 3), (9, .iload_n 2, 1), (10, .i2l, 1), (11, .lconst 1, 1), (12, .ldc2_w 153, 3), (15, .invokestatic 130, 3), (18, .ifCond .eq 35, 3), (21, .iload_n 3, 1), (22, .i2l, 1), (23, .lconst 1, 1), (24, .iload_n 1, 1), (25, .i2l, 1), (26, .iload_n 2, 1), (27, .i2l, 1), (28, .lconst 1, 1), (29, .ldc2_w 153, 3), (32, .invokestatic 130, 3), (35, .ifCond .eq 7, 3), (38, .iload_n 2, 1), (39, .goto 4, 3), (42, .iconst 1, 1), (43, .invokestatic 155, 3), (46, .i2l, 1), (47, .invokestatic 130, 3), (50, .ifCond .ne 7, 3), (53, .iconst 1, 1), (54, .goto 4, 3), (57, .iconst 0, 1), (58, .putfield 85, 3), (61, .aload_n 0, 1), (62, .getfield 85, 3), (65, .ifCond .le 7, 3), (68, .lconst 0, 1), (69, .goto 10, 3), (72, .iload_n 1, 1), (73, .i2l, 1), (74, .iload_n 2, 1), (75, .iload_n 3, 1), (76, .invokestatic 70, 3), (79, .lreturn, 1)]
set_option maxRecDepth 100000 in
theorem eX12_day : ∀ x ∈ tX12_day, decode cX12_day x.1 = .ok x.2 := by decide +kernel
def kX12_day : zc_C := ([(26, 0, 0), (0, (-2147483648), 2147483647), (0, (-2147483648), 2147483647), (0, (-2147483648), 2147483647)], [], [], [(11, 0)], [], [(some (1, (-9223372036854775808), 9223372036854775807), [], [])])
def pX12_day : List zp_P := []
def KX12_day : zk_K := (4, RTg, gfX12, ciX12, clX12, [], [(280, kX12_dayOf), (520, kX12_isIn), (600, kX12_isYear), (620, kX12_daysOf)], [(11, 0)], [])
set_option maxRecDepth 100000 in
theorem qX12_day : zy_ck KX12_day tX12_day pX12_day kX12_day 2 1 4000 = true := by decide +kernel
set_option maxRecDepth 100000 in
theorem mX12_day (l : Launch) (D : va_G) (cA : Nat → ClassId) (ro : Nat → Option Nat) (sz : Nat) (H0 : Heap) : zy_M l D cA RTg ro sz H0 (zKn D cA ro sz H0) yX12_day (gW yX12_day cX12_day 4 (some .long)) { frames := 2, cells := 0, slots := 0, locals := 56 } kX12_day :=
  zy_met (zn := "MomentTexts$Zone") (K := KX12_day) (tb := tX12_day) (pts := pX12_day) (rc := 2) (N := 1) (fuel := 4000) (by decide +kernel) rfl rfl (by decide +kernel) rfl rfl (by decide +kernel) eX12_day qX12_day (fun p e s m args below meth c Q hx hb hml hown hts hKn => by
    have h2 : ∀ w ∈ gT, w.before args s = true := fun w hw => hts w (List.mem_cons_of_mem _ hw)
    exact ⟨hx, hb, zD_all h2 hKn.1, zArN hKn, zf_clause h2 hown hKn.1 gfX12_ok (by decide +kernel), fun i n h => (by obtain ⟨x, h3, h4⟩ := ciX12_ok i n h; exact ⟨_, x, hown, h2 _ h3, h4⟩), fun i n h => (by obtain ⟨x, h3, h4⟩ := clX12_ok i n h; exact ⟨_, x, hown, h2 _ h3, h4⟩), (zgs_n), 
      zct_c (zr_S (idx := 70) hx hb hml hown hts hKn zKb (mX12_dayOf l D cA ro sz H0) ⟨rfl, rfl⟩ ⟨by decide, by decide⟩ ⟨Nat.zero_le _, Nat.zero_le _⟩ (tb_6 135 rfl rfl) (tb_1 12 rfl rfl) (tb_6 133 rfl rfl) (tb_6 134 rfl rfl) (by decide +kernel) rfl) (
      zct_c (zr_S (idx := 130) hx hb hml hown hts hKn zKb (mX12_isIn l D cA ro sz H0) ⟨rfl, rfl⟩ ⟨by decide, by decide⟩ ⟨Nat.zero_le _, Nat.zero_le _⟩ (tb_7 47 rfl rfl) (tb_1 12 rfl rfl) (tb_7 45 rfl rfl) (tb_7 46 rfl rfl) (by decide +kernel) rfl) (
      zct_c (zr_S (idx := 150) hx hb hml hown hts hKn zKb (mX12_isYear l D cA ro sz H0) ⟨rfl, rfl⟩ ⟨by decide, by decide⟩ ⟨Nat.zero_le _, Nat.zero_le _⟩ (tb_7 44 rfl rfl) (tb_1 12 rfl rfl) (tb_7 42 rfl rfl) (tb_7 43 rfl rfl) (by decide +kernel) rfl) (
      zct_c (zr_S (idx := 155) hx hb hml hown hts hKn zKb (mX12_daysOf l D cA ro sz H0) ⟨rfl, rfl⟩ ⟨by decide, by decide⟩ ⟨Nat.zero_le _, Nat.zero_le _⟩ (tb_7 51 rfl rfl) (tb_1 12 rfl rfl) (tb_7 49 rfl rfl) (tb_7 50 rfl rfl) (by decide +kernel) rfl) (zct_n))))⟩)
def tX12_date : List (Nat × Instr × Nat) := [(0, .aload_n 0, 1), (1, .aload_n 0, 1), (2, .lload_n 1, 1), (3, .invokevirtual 159, 3), (6, .ifCond .eq 15, 3), (9, .iload_n 3, 1), (10, .i2l, 1), (11, .lconst 0, 1), (12, .ldc2_w 162, 3), (15, .invokestatic 130, 3), (18, .ifCond .ne 7, 3), (21, .iconst 1, 1), (22, .goto 4, 3), (25, .iconst 0, 1), (26, .putfield 85, 3), (29, .aload_n 0, 1), (30, .getfield 85, 3), (33, .ifCond .le 5, 3), (36, .iconst 0, 1), (37, .ireturn, 1), (38, .aload_n 0, 1), (39, .lload_n 1, 1), (40, .invokevirtual 164, 3), (43, .lstore 4, 2), (45, .aload_n 0, 1), (46, .lload_n 1, 1), (47, .invokevirtual 146, 3), (50, .iload_n 3, 1), (51, .tableswitch 132 0 8 #[49, 55, 60, 65, 70, 85, 89, 104, 120], 49), (100, .aload_n 0, 1), (101, .getfield 127, 3), (104, .l2i, 1), (105, .ireturn, 1), (106, .aload_n 0, 1), (107, .getfield 124, 3), (110, .ireturn, 1), (111, .aload_n 0, 1), (112, .getfield 121, 3), (115, .ireturn, 1), (116, .lload_n 1, 1), (117, .invokestatic 138, 3), (120, .ireturn, 1), (121, .lload_n 1, 1), (122, .aload_n 0, 1), (123, .getfield 127, 3), (126, .iconst 1, 1), (127, .iconst 1, 1), (128, .invokestatic 70, 3), (131, .lsub, 1), (132, .l2i, 1), (133, .iconst 1, 1), (134, .iadd, 1), (135, .ireturn, 1), (136, .lload 4, 2), (138, .l2i, 1), (139, .ireturn, 1), (140, .lload_n 1, 1), (141, .lload 4, 2), (143, .invokestatic 142, 3), (146, .lsub, 1), (147, .ldc2_w 136, 3), (150, .ldiv, 1), (151, .l2i, 1), (152, .iconst 1, 1), (153, .iadd, 1), (154, .ireturn, 1), (155, .aload_n 0, 1), (156, .getfield 127, 3), (159, .invokestatic 95, 3), (162, .ifCond .eq 7, 3), (165, .iconst 1, 1), (166, .goto 4, 3), (169, .iconst 0, 1), (170, .ireturn, 1), (171, .aload_n 0, 1), (172, .getfield 127, 3), (175, .aload_n 0, 1), (176, .getfield 124, 3), (179, .invokestatic 155, 3), (182, .ireturn, 1), (183, .lload 4, 2), (185, .invokestatic 167, 3), (188, .ireturn, 1)]
set_option maxRecDepth 100000 in
theorem eX12_date : ∀ x ∈ tX12_date, decode cX12_date x.1 = .ok x.2 := by decide +kernel
def kX12_date : zc_C := ([(26, 0, 0), (1, (-9223372036854775808), 9223372036854775807), (0, (-2147483648), 2147483647)], [], [], [(11, 0), (11, 18), (11, 19), (11, 20)], [], [(some (0, (-2147483648), 2147483647), [], [])])
def pX12_date : List zp_P := []
def KX12_date : zk_K := (6, RTg, gfX12, ciX12, clX12, [], [(280, kX12_dayOf), (380, kX12_isLeapYear), (520, kX12_isIn), (552, kX12_weekdayOf), (568, kX12_firstWeek), (585, kX12_civil), (620, kX12_daysOf), (637, kX12_isDay), (657, kX12_weekYearOf), (668, kX12_weeksOf)], [(11, 0), (11, 18), (11, 19), (11, 20)], [])
set_option maxRecDepth 100000 in
theorem qX12_date : zy_ck KX12_date tX12_date pX12_date kX12_date 1 1 4000 = true := by decide +kernel
set_option maxRecDepth 100000 in
theorem mX12_date (l : Launch) (D : va_G) (cA : Nat → ClassId) (ro : Nat → Option Nat) (sz : Nat) (H0 : Heap) : zy_M l D cA RTg ro sz H0 (zKn D cA ro sz H0) yX12_date (gW yX12_date cX12_date 6 (some .int)) { frames := 4, cells := 0, slots := 0, locals := 103 } kX12_date :=
  zy_met (zn := "MomentTexts$Zone") (K := KX12_date) (tb := tX12_date) (pts := pX12_date) (rc := 1) (N := 1) (fuel := 4000) (by decide +kernel) rfl rfl (by decide +kernel) rfl rfl (by decide +kernel) eX12_date qX12_date (fun p e s m args below meth c Q hx hb hml hown hts hKn => by
    have h2 : ∀ w ∈ gT, w.before args s = true := fun w hw => hts w (List.mem_cons_of_mem _ hw)
    exact ⟨hx, hb, zD_all h2 hKn.1, zArN hKn, zf_clause h2 hown hKn.1 gfX12_ok (by decide +kernel), fun i n h => (by obtain ⟨x, h3, h4⟩ := ciX12_ok i n h; exact ⟨_, x, hown, h2 _ h3, h4⟩), fun i n h => (by obtain ⟨x, h3, h4⟩ := clX12_ok i n h; exact ⟨_, x, hown, h2 _ h3, h4⟩), (zgs_n), 
      zct_c (zr_S (idx := 70) hx hb hml hown hts hKn zKb (mX12_dayOf l D cA ro sz H0) ⟨rfl, rfl⟩ ⟨by decide, by decide⟩ ⟨Nat.zero_le _, Nat.zero_le _⟩ (tb_6 135 rfl rfl) (tb_1 12 rfl rfl) (tb_6 133 rfl rfl) (tb_6 134 rfl rfl) (by decide +kernel) rfl) (
      zct_c (zr_S (idx := 95) hx hb hml hown hts hKn zKb (mX12_isLeapYear l D cA ro sz H0) ⟨rfl, rfl⟩ ⟨by decide, by decide⟩ ⟨Nat.zero_le _, Nat.zero_le _⟩ (tb_7 54 rfl rfl) (tb_1 12 rfl rfl) (tb_7 52 rfl rfl) (tb_7 53 rfl rfl) (by decide +kernel) rfl) (
      zct_c (zr_S (idx := 130) hx hb hml hown hts hKn zKb (mX12_isIn l D cA ro sz H0) ⟨rfl, rfl⟩ ⟨by decide, by decide⟩ ⟨Nat.zero_le _, Nat.zero_le _⟩ (tb_7 47 rfl rfl) (tb_1 12 rfl rfl) (tb_7 45 rfl rfl) (tb_7 46 rfl rfl) (by decide +kernel) rfl) (
      zct_c (zr_S (idx := 138) hx hb hml hown hts hKn zKb (mX12_weekdayOf l D cA ro sz H0) ⟨rfl, rfl⟩ ⟨by decide, by decide⟩ ⟨Nat.zero_le _, Nat.zero_le _⟩ (tb_7 80 rfl rfl) (tb_1 12 rfl rfl) (tb_7 78 rfl rfl) (tb_7 79 rfl rfl) (by decide +kernel) rfl) (
      zct_c (zr_S (idx := 142) hx hb hml hown hts hKn zKb (mX12_firstWeek l D cA ro sz H0) ⟨rfl, rfl⟩ ⟨by decide, by decide⟩ ⟨Nat.zero_le _, Nat.zero_le _⟩ (tb_7 77 rfl rfl) (tb_1 12 rfl rfl) (tb_7 75 rfl rfl) (tb_7 76 rfl rfl) (by decide +kernel) rfl) (
      zct_c (zr_V (idx := 146) (r := 11) (ci := 11) (n0 := 0) (fs := fsX12) (lo := 0) (hi0 := 0) (ts := [(1, (-1000000000000), 1000000000000)]) hx hb hml hown hts hKn zKb (mX12_civil l D cA ro sz H0) ⟨rfl, rfl⟩ ⟨by decide, by decide⟩ ⟨Nat.zero_le _, Nat.zero_le _⟩ (tb_7 71 rfl rfl) (tb_1 12 rfl rfl) (tb_7 68 rfl rfl) (tb_7 70 rfl rfl) (tb_0 6 rfl rfl) (by decide +kernel) rfl rfl (zCX12 hKn.1) rfl) (
      zct_c (zr_S (idx := 155) hx hb hml hown hts hKn zKb (mX12_daysOf l D cA ro sz H0) ⟨rfl, rfl⟩ ⟨by decide, by decide⟩ ⟨Nat.zero_le _, Nat.zero_le _⟩ (tb_7 51 rfl rfl) (tb_1 12 rfl rfl) (tb_7 49 rfl rfl) (tb_7 50 rfl rfl) (by decide +kernel) rfl) (
      zct_c (zr_V (idx := 159) (r := 11) (ci := 11) (n0 := 0) (fs := fsX12) (lo := 0) (hi0 := 0) (ts := [(1, (-9223372036854775808), 9223372036854775807)]) hx hb hml hown hts hKn zKb (mX12_isDay l D cA ro sz H0) ⟨rfl, rfl⟩ ⟨by decide, by decide⟩ ⟨Nat.zero_le _, Nat.zero_le _⟩ (tb_7 62 rfl rfl) (tb_1 12 rfl rfl) (tb_7 59 rfl rfl) (tb_7 61 rfl rfl) (tb_0 4 rfl rfl) (by decide +kernel) rfl rfl (zCX12 hKn.1) rfl) (
      zct_c (zr_V (idx := 164) (r := 11) (ci := 11) (n0 := 0) (fs := fsX12) (lo := 0) (hi0 := 0) (ts := [(1, (-1000000000000), 1000000000000)]) hx hb hml hown hts hKn zKb (mX12_weekYearOf l D cA ro sz H0) ⟨rfl, rfl⟩ ⟨by decide, by decide⟩ ⟨Nat.zero_le _, Nat.zero_le _⟩ (tb_7 67 rfl rfl) (tb_1 12 rfl rfl) (tb_7 64 rfl rfl) (tb_7 66 rfl rfl) (tb_0 5 rfl rfl) (by decide +kernel) rfl rfl (zCX12 hKn.1) rfl) (
      zct_c (zr_S (idx := 167) hx hb hml hown hts hKn zKb (mX12_weeksOf l D cA ro sz H0) ⟨rfl, rfl⟩ ⟨by decide, by decide⟩ ⟨Nat.zero_le _, Nat.zero_le _⟩ (tb_7 85 rfl rfl) (tb_1 12 rfl rfl) (tb_7 83 rfl rfl) (tb_7 84 rfl rfl) (by decide +kernel) rfl) (zct_n))))))))))⟩)
def tX12_weekDay : List (Nat × Instr × Nat) := [(0, .iload_n 1, 1), (1, .i2l, 1), (2, .invokestatic 142, 3), (5, .ldc2_w 136, 3), (8, .iload_n 2, 1), (9, .i2l, 1), (10, .lconst 1, 1), (11, .lsub, 1), (12, .lmul, 1), (13, .ladd, 1), (14, .iload_n 3, 1), (15, .i2l, 1), (16, .ladd, 1), (17, .lconst 1, 1), (18, .lsub, 1), (19, .lstore 4, 2), (21, .aload_n 0, 1), (22, .iload_n 3, 1), (23, .i2l, 1), (24, .lconst 1, 1), (25, .ldc2_w 136, 3), (28, .invokestatic 130, 3), (31, .ifCond .eq 27, 3), (34, .iload_n 2, 1), (35, .i2l, 1), (36, .lconst 1, 1), (37, .iload_n 1, 1), (38, .i2l, 1), (39, .invokestatic 167, 3), (42, .i2l, 1), (43, .invokestatic 130, 3), (46, .ifCond .eq 12, 3), (49, .aload_n 0, 1), (50, .lload 4, 2), (52, .invokevirtual 159, 3), (55, .ifCond .ne 7, 3), (58, .iconst 1, 1), (59, .goto 4, 3), (62, .iconst 0, 1), (63, .putfield 85, 3), (66, .aload_n 0, 1), (67, .getfield 85, 3), (70, .ifCond .le 7, 3), (73, .lconst 0, 1), (74, .goto 5, 3), (77, .lload 4, 2), (79, .lreturn, 1)]
set_option maxRecDepth 100000 in
theorem eX12_weekDay : ∀ x ∈ tX12_weekDay, decode cX12_weekDay x.1 = .ok x.2 := by decide +kernel
def kX12_weekDay : zc_C := ([(26, 0, 0), (0, (-2147483648), 2147483647), (0, (-2147483648), 2147483647), (0, (-2147483648), 2147483647)], [], [], [(11, 0)], [], [(some (1, (-9223372036854775808), 9223372036854775807), [], [])])
def pX12_weekDay : List zp_P := []
def KX12_weekDay : zk_K := (6, RTg, gfX12, ciX12, clX12, [], [(520, kX12_isIn), (568, kX12_firstWeek), (637, kX12_isDay), (668, kX12_weeksOf)], [(11, 0)], [])
set_option maxRecDepth 100000 in
theorem qX12_weekDay : zy_ck KX12_weekDay tX12_weekDay pX12_weekDay kX12_weekDay 2 1 4000 = true := by decide +kernel
set_option maxRecDepth 100000 in
theorem mX12_weekDay (l : Launch) (D : va_G) (cA : Nat → ClassId) (ro : Nat → Option Nat) (sz : Nat) (H0 : Heap) : zy_M l D cA RTg ro sz H0 (zKn D cA ro sz H0) yX12_weekDay (gW yX12_weekDay cX12_weekDay 6 (some .long)) { frames := 4, cells := 0, slots := 0, locals := 100 } kX12_weekDay :=
  zy_met (zn := "MomentTexts$Zone") (K := KX12_weekDay) (tb := tX12_weekDay) (pts := pX12_weekDay) (rc := 2) (N := 1) (fuel := 4000) (by decide +kernel) rfl rfl (by decide +kernel) rfl rfl (by decide +kernel) eX12_weekDay qX12_weekDay (fun p e s m args below meth c Q hx hb hml hown hts hKn => by
    have h2 : ∀ w ∈ gT, w.before args s = true := fun w hw => hts w (List.mem_cons_of_mem _ hw)
    exact ⟨hx, hb, zD_all h2 hKn.1, zArN hKn, zf_clause h2 hown hKn.1 gfX12_ok (by decide +kernel), fun i n h => (by obtain ⟨x, h3, h4⟩ := ciX12_ok i n h; exact ⟨_, x, hown, h2 _ h3, h4⟩), fun i n h => (by obtain ⟨x, h3, h4⟩ := clX12_ok i n h; exact ⟨_, x, hown, h2 _ h3, h4⟩), (zgs_n), 
      zct_c (zr_S (idx := 130) hx hb hml hown hts hKn zKb (mX12_isIn l D cA ro sz H0) ⟨rfl, rfl⟩ ⟨by decide, by decide⟩ ⟨Nat.zero_le _, Nat.zero_le _⟩ (tb_7 47 rfl rfl) (tb_1 12 rfl rfl) (tb_7 45 rfl rfl) (tb_7 46 rfl rfl) (by decide +kernel) rfl) (
      zct_c (zr_S (idx := 142) hx hb hml hown hts hKn zKb (mX12_firstWeek l D cA ro sz H0) ⟨rfl, rfl⟩ ⟨by decide, by decide⟩ ⟨Nat.zero_le _, Nat.zero_le _⟩ (tb_7 77 rfl rfl) (tb_1 12 rfl rfl) (tb_7 75 rfl rfl) (tb_7 76 rfl rfl) (by decide +kernel) rfl) (
      zct_c (zr_V (idx := 159) (r := 11) (ci := 11) (n0 := 0) (fs := fsX12) (lo := 0) (hi0 := 0) (ts := [(1, (-9223372036854775808), 9223372036854775807)]) hx hb hml hown hts hKn zKb (mX12_isDay l D cA ro sz H0) ⟨rfl, rfl⟩ ⟨by decide, by decide⟩ ⟨Nat.zero_le _, Nat.zero_le _⟩ (tb_7 62 rfl rfl) (tb_1 12 rfl rfl) (tb_7 59 rfl rfl) (tb_7 61 rfl rfl) (tb_0 4 rfl rfl) (by decide +kernel) rfl rfl (zCX12 hKn.1) rfl) (
      zct_c (zr_S (idx := 167) hx hb hml hown hts hKn zKb (mX12_weeksOf l D cA ro sz H0) ⟨rfl, rfl⟩ ⟨by decide, by decide⟩ ⟨Nat.zero_le _, Nat.zero_le _⟩ (tb_7 85 rfl rfl) (tb_1 12 rfl rfl) (tb_7 83 rfl rfl) (tb_7 84 rfl rfl) (by decide +kernel) rfl) (zct_n))))⟩)
def kX12_dayOf__b : zc_C := ([(1, (-50000000000), 50000000000), (0, (-1000000), 1000000), (0, (-2147483648), 2147483647)], [], [], [], [], [(some (1, (-20000000000000), 20000000000000), [], [])])
def pX12_dayOf__b : List zp_P := []
def KX12_dayOf__b : zk_K := (12, RTg, gfX12, ciX12, clX12, [], [(396, kX12_down__400)], [], [])
set_option maxRecDepth 100000 in
theorem qX12_dayOf__b : zy_ck KX12_dayOf__b tX12_dayOf pX12_dayOf__b kX12_dayOf__b 2 1 4000 = true := by decide +kernel
set_option maxRecDepth 100000 in
theorem mX12_dayOf__b (l : Launch) (D : va_G) (cA : Nat → ClassId) (ro : Nat → Option Nat) (sz : Nat) (H0 : Heap) : zy_M l D cA RTg ro sz H0 (zKn D cA ro sz H0) yX12_dayOf (gW yX12_dayOf cX12_dayOf 12 (some .long)) { frames := 1, cells := 0, slots := 0, locals := 25 } kX12_dayOf__b :=
  zy_met (zn := "MomentTexts$Zone") (K := KX12_dayOf__b) (tb := tX12_dayOf) (pts := pX12_dayOf__b) (rc := 2) (N := 1) (fuel := 4000) (by decide +kernel) rfl rfl (by decide +kernel) rfl rfl (by decide +kernel) eX12_dayOf qX12_dayOf__b (fun p e s m args below meth c Q hx hb hml hown hts hKn => by
    have h2 : ∀ w ∈ gT, w.before args s = true := fun w hw => hts w (List.mem_cons_of_mem _ hw)
    exact ⟨hx, hb, zD_all h2 hKn.1, zArN hKn, zf_clause h2 hown hKn.1 gfX12_ok (by decide +kernel), fun i n h => (by obtain ⟨x, h3, h4⟩ := ciX12_ok i n h; exact ⟨_, x, hown, h2 _ h3, h4⟩), fun i n h => (by obtain ⟨x, h3, h4⟩ := clX12_ok i n h; exact ⟨_, x, hown, h2 _ h3, h4⟩), (zgs_n), 
      zct_c (zr_S (idx := 99) hx hb hml hown hts hKn zKb (mX12_down__400 l D cA ro sz H0) ⟨rfl, rfl⟩ ⟨by decide, by decide⟩ ⟨Nat.zero_le _, Nat.zero_le _⟩ (tb_6 139 rfl rfl) (tb_1 12 rfl rfl) (tb_6 137 rfl rfl) (tb_6 138 rfl rfl) (by decide +kernel) rfl) (zct_n)⟩)
def tX12_monthsOn : List (Nat × Instr × Nat) := [(0, .aload_n 0, 1), (1, .lload_n 1, 1), (2, .invokevirtual 146, 3), (5, .aload_n 0, 1), (6, .getfield 127, 3), (9, .ldc2_w 153, 3), (12, .lmul, 1), (13, .aload_n 0, 1), (14, .getfield 124, 3), (17, .i2l, 1), (18, .ladd, 1), (19, .lconst 1, 1), (20, .lsub, 1), (21, .lload_n 3, 1), (22, .ladd, 1), (23, .lstore 5, 2), (25, .lload 5, 2), (27, .ldc2_w 153, 3), (30, .invokestatic 99, 3), (33, .lstore 7, 2), (35, .lload 5, 2), (37, .lload 7, 2), (39, .ldc2_w 153, 3), (42, .lmul, 1), (43, .lsub, 1), (44, .l2i, 1), (45, .iconst 1, 1), (46, .iadd, 1), (47, .istore 9, 2), (49, .lload 7, 2), (51, .invokestatic 150, 3), (54, .ifCond .ne 7, 3), (57, .ldc2_w 83, 3), (60, .lreturn, 1), (61, .lload 7, 2), (63, .iload 9, 2), (65, .invokestatic 155, 3), (68, .istore 10, 2), (70, .lload 7, 2), (72, .iload 9, 2), (74, .aload_n 0, 1), (75, .getfield 121, 3), (78, .iload 10, 2), (80, .if_icmp .ge 10, 3), (83, .aload_n 0, 1), (84, .getfield 121, 3), (87, .goto 5, 3), (90, .iload 10, 2), (92, .invokestatic 70, 3), (95, .lreturn, 1)]
set_option maxRecDepth 100000 in
theorem eX12_monthsOn : ∀ x ∈ tX12_monthsOn, decode cX12_monthsOn x.1 = .ok x.2 := by decide +kernel
def kX12_monthsOn : zc_C := ([(26, 0, 0), (1, (-1000000000000), 1000000000000), (1, (-8589934592), 8589934592)], [], [], [(11, 18), (11, 19), (11, 20)], [], [(some (1, (-9223372036854775808), (-9223372036854775808)), [], []), (some (1, (-20000000000000), 20000000000000), [], [])])
def pX12_monthsOn : List zp_P := []
def KX12_monthsOn : zk_K := (11, RTg, gfX12, ciX12, clX12, [], [(280, kX12_dayOf__b), (396, kX12_down__12), (585, kX12_civil), (600, kX12_isYear), (620, kX12_daysOf)], [(11, 18), (11, 19), (11, 20)], [])
set_option maxRecDepth 100000 in
theorem qX12_monthsOn : zy_ck KX12_monthsOn tX12_monthsOn pX12_monthsOn kX12_monthsOn 2 1 4000 = true := by decide +kernel
set_option maxRecDepth 100000 in
theorem mX12_monthsOn (l : Launch) (D : va_G) (cA : Nat → ClassId) (ro : Nat → Option Nat) (sz : Nat) (H0 : Heap) : zy_M l D cA RTg ro sz H0 (zKn D cA ro sz H0) yX12_monthsOn (gW yX12_monthsOn cX12_monthsOn 11 (some .long)) { frames := 2, cells := 0, slots := 0, locals := 58 } kX12_monthsOn :=
  zy_met (zn := "MomentTexts$Zone") (K := KX12_monthsOn) (tb := tX12_monthsOn) (pts := pX12_monthsOn) (rc := 2) (N := 1) (fuel := 4000) (by decide +kernel) rfl rfl (by decide +kernel) rfl rfl (by decide +kernel) eX12_monthsOn qX12_monthsOn (fun p e s m args below meth c Q hx hb hml hown hts hKn => by
    have h2 : ∀ w ∈ gT, w.before args s = true := fun w hw => hts w (List.mem_cons_of_mem _ hw)
    exact ⟨hx, hb, zD_all h2 hKn.1, zArN hKn, zf_clause h2 hown hKn.1 gfX12_ok (by decide +kernel), fun i n h => (by obtain ⟨x, h3, h4⟩ := ciX12_ok i n h; exact ⟨_, x, hown, h2 _ h3, h4⟩), fun i n h => (by obtain ⟨x, h3, h4⟩ := clX12_ok i n h; exact ⟨_, x, hown, h2 _ h3, h4⟩), (zgs_n), 
      zct_c (zr_S (idx := 70) hx hb hml hown hts hKn zKb (mX12_dayOf__b l D cA ro sz H0) ⟨rfl, rfl⟩ ⟨by decide, by decide⟩ ⟨Nat.zero_le _, Nat.zero_le _⟩ (tb_6 135 rfl rfl) (tb_1 12 rfl rfl) (tb_6 133 rfl rfl) (tb_6 134 rfl rfl) (by decide +kernel) rfl) (
      zct_c (zr_S (idx := 99) hx hb hml hown hts hKn zKb (mX12_down__12 l D cA ro sz H0) ⟨rfl, rfl⟩ ⟨by decide, by decide⟩ ⟨Nat.zero_le _, Nat.zero_le _⟩ (tb_6 139 rfl rfl) (tb_1 12 rfl rfl) (tb_6 137 rfl rfl) (tb_6 138 rfl rfl) (by decide +kernel) rfl) (
      zct_c (zr_V (idx := 146) (r := 11) (ci := 11) (n0 := 0) (fs := fsX12) (lo := 0) (hi0 := 0) (ts := [(1, (-1000000000000), 1000000000000)]) hx hb hml hown hts hKn zKb (mX12_civil l D cA ro sz H0) ⟨rfl, rfl⟩ ⟨by decide, by decide⟩ ⟨Nat.zero_le _, Nat.zero_le _⟩ (tb_7 71 rfl rfl) (tb_1 12 rfl rfl) (tb_7 68 rfl rfl) (tb_7 70 rfl rfl) (tb_0 6 rfl rfl) (by decide +kernel) rfl rfl (zCX12 hKn.1) rfl) (
      zct_c (zr_S (idx := 150) hx hb hml hown hts hKn zKb (mX12_isYear l D cA ro sz H0) ⟨rfl, rfl⟩ ⟨by decide, by decide⟩ ⟨Nat.zero_le _, Nat.zero_le _⟩ (tb_7 44 rfl rfl) (tb_1 12 rfl rfl) (tb_7 42 rfl rfl) (tb_7 43 rfl rfl) (by decide +kernel) rfl) (
      zct_c (zr_S (idx := 155) hx hb hml hown hts hKn zKb (mX12_daysOf l D cA ro sz H0) ⟨rfl, rfl⟩ ⟨by decide, by decide⟩ ⟨Nat.zero_le _, Nat.zero_le _⟩ (tb_7 51 rfl rfl) (tb_1 12 rfl rfl) (tb_7 49 rfl rfl) (tb_7 50 rfl rfl) (by decide +kernel) rfl) (zct_n)))))⟩)
def tX12_months : List (Nat × Instr × Nat) := [(0, .aload_n 0, 1), (1, .lload_n 1, 1), (2, .invokevirtual 159, 3), (5, .ifCond .eq 13, 3), (8, .aload_n 0, 1), (9, .lload_n 1, 1), (10, .iload_n 3, 1), (11, .i2l, 1), (12, .invokevirtual 170, 3), (15, .goto 6, 3), (18, .ldc2_w 83, 3), (21, .lstore 4, 2), (23, .aload_n 0, 1), (24, .lload 4, 2), (26, .ldc2_w 83, 3), (29, .lcmp, 1), (30, .ifCond .ne 7, 3), (33, .iconst 1, 1), (34, .goto 4, 3), (37, .iconst 0, 1), (38, .putfield 85, 3), (41, .aload_n 0, 1), (42, .getfield 85, 3), (45, .ifCond .le 7, 3), (48, .lconst 0, 1), (49, .goto 5, 3), (52, .lload 4, 2), (54, .lreturn, 1)]
set_option maxRecDepth 100000 in
theorem eX12_months : ∀ x ∈ tX12_months, decode cX12_months x.1 = .ok x.2 := by decide +kernel
def kX12_months : zc_C := ([(26, 0, 0), (1, (-9223372036854775808), 9223372036854775807), (0, (-2147483648), 2147483647)], [], [], [(11, 0), (11, 18), (11, 19), (11, 20)], [], [(some (1, (-9223372036854775808), 9223372036854775807), [], [])])
def pX12_months : List zp_P := []
def KX12_months : zk_K := (6, RTg, gfX12, ciX12, clX12, [], [(637, kX12_isDay), (681, kX12_monthsOn)], [(11, 0), (11, 18), (11, 19), (11, 20)], [])
set_option maxRecDepth 100000 in
theorem qX12_months : zy_ck KX12_months tX12_months pX12_months kX12_months 2 1 4000 = true := by decide +kernel
set_option maxRecDepth 100000 in
theorem mX12_months (l : Launch) (D : va_G) (cA : Nat → ClassId) (ro : Nat → Option Nat) (sz : Nat) (H0 : Heap) : zy_M l D cA RTg ro sz H0 (zKn D cA ro sz H0) yX12_months (gW yX12_months cX12_months 6 (some .long)) { frames := 3, cells := 0, slots := 0, locals := 88 } kX12_months :=
  zy_met (zn := "MomentTexts$Zone") (K := KX12_months) (tb := tX12_months) (pts := pX12_months) (rc := 2) (N := 1) (fuel := 4000) (by decide +kernel) rfl rfl (by decide +kernel) rfl rfl (by decide +kernel) eX12_months qX12_months (fun p e s m args below meth c Q hx hb hml hown hts hKn => by
    have h2 : ∀ w ∈ gT, w.before args s = true := fun w hw => hts w (List.mem_cons_of_mem _ hw)
    exact ⟨hx, hb, zD_all h2 hKn.1, zArN hKn, zf_clause h2 hown hKn.1 gfX12_ok (by decide +kernel), fun i n h => (by obtain ⟨x, h3, h4⟩ := ciX12_ok i n h; exact ⟨_, x, hown, h2 _ h3, h4⟩), fun i n h => (by obtain ⟨x, h3, h4⟩ := clX12_ok i n h; exact ⟨_, x, hown, h2 _ h3, h4⟩), (zgs_n), 
      zct_c (zr_V (idx := 159) (r := 11) (ci := 11) (n0 := 0) (fs := fsX12) (lo := 0) (hi0 := 0) (ts := [(1, (-9223372036854775808), 9223372036854775807)]) hx hb hml hown hts hKn zKb (mX12_isDay l D cA ro sz H0) ⟨rfl, rfl⟩ ⟨by decide, by decide⟩ ⟨Nat.zero_le _, Nat.zero_le _⟩ (tb_7 62 rfl rfl) (tb_1 12 rfl rfl) (tb_7 59 rfl rfl) (tb_7 61 rfl rfl) (tb_0 4 rfl rfl) (by decide +kernel) rfl rfl (zCX12 hKn.1) rfl) (
      zct_c (zr_V (idx := 170) (r := 11) (ci := 11) (n0 := 0) (fs := fsX12) (lo := 0) (hi0 := 0) (ts := [(1, (-1000000000000), 1000000000000), (1, (-8589934592), 8589934592)]) hx hb hml hown hts hKn zKb (mX12_monthsOn l D cA ro sz H0) ⟨rfl, rfl⟩ ⟨by decide, by decide⟩ ⟨Nat.zero_le _, Nat.zero_le _⟩ (tb_7 97 rfl rfl) (tb_1 12 rfl rfl) (tb_7 94 rfl rfl) (tb_7 96 rfl rfl) (tb_0 7 rfl rfl) (by decide +kernel) rfl rfl (zCX12 hKn.1) rfl) (zct_n))⟩)
def tX12_leapsBefore : List (Nat × Instr × Nat) := [(0, .lconst 0, 1), (1, .lstore_n 3, 1), (2, .iconst 0, 1), (3, .istore 5, 2), (5, .iload 5, 2), (7, .aload_n 0, 1), (8, .getfield 173, 3), (11, .if_icmp .ge 71, 3), (14, .lload_n 3, 1), (15, .aload_n 0, 1), (16, .getfield 9, 3), (19, .iload 5, 2), (21, .laload, 1), (22, .lconst 0, 1), (23, .lcmp, 1), (24, .ifCond .lt 19, 3), (27, .aload_n 0, 1), (28, .getfield 9, 3), (31, .iload 5, 2), (33, .laload, 1), (34, .lload_n 1, 1), (35, .lcmp, 1), (36, .ifCond .ge 7, 3), (39, .lconst 1, 1), (40, .goto 34, 3), (43, .aload_n 0, 1), (44, .getfield 9, 3), (47, .iload 5, 2), (49, .laload, 1), (50, .lconst 0, 1), (51, .lcmp, 1), (52, .ifCond .ge 21, 3), (55, .aload_n 0, 1), (56, .getfield 9, 3), (59, .iload 5, 2), (61, .laload, 1), (62, .lload_n 1, 1), (63, .lcmp, 1), (64, .ifCond .lt 9, 3), (67, .ldc2_w 176, 3), (70, .goto 4, 3), (73, .lconst 0, 1), (74, .ladd, 1), (75, .lstore_n 3, 1), (76, .iinc 5 1, 3), (79, .goto (-74), 3), (82, .lload_n 3, 1), (83, .lreturn, 1)]
set_option maxRecDepth 100000 in
theorem eX12_leapsBefore : ∀ x ∈ tX12_leapsBefore, decode cX12_leapsBefore x.1 = .ok x.2 := by decide +kernel
def kX12_leapsBefore : zc_C := ([(26, 0, 0), (1, (-9223372036854775808), 9223372036854775807)], [], [], [], [], [(some (1, (-40), 40), [], [])])
def pX12_leapsBefore : List zp_P := [(5, [(0, (-1)), ((-9223372036854775808), 9223372036854775807), ((-40), 40), (0, 40), (0, (-1)), ((-9223372036854775808), 9223372036854775807)], [([(0, 1), (4, (-1))], 0), ([(4, 1), (0, (-1))], 0), ([(2, 1), (3, (-1))], 0), ([(3, (-1)), (2, (-1))], 0)], [(0, 26), (1, 1), (3, 1), (5, 0)], [], [], 2, [([], 45), ([(3, (-1))], 2147483649), ([], 45)])]
def KX12_leapsBefore : zk_K := (6, RTg, gfX12, ciX12, clX12, [], [], [], [])
set_option maxRecDepth 100000 in
theorem qX12_leapsBefore : zy_ck KX12_leapsBefore tX12_leapsBefore pX12_leapsBefore kX12_leapsBefore 2 3 4000 = true := by decide +kernel
set_option maxRecDepth 100000 in
theorem mX12_leapsBefore (l : Launch) (D : va_G) (cA : Nat → ClassId) (ro : Nat → Option Nat) (sz : Nat) (H0 : Heap) : zy_M l D cA RTg ro sz H0 (zKn D cA ro sz H0) yX12_leapsBefore (gW yX12_leapsBefore cX12_leapsBefore 6 (some .long)) { frames := 0, cells := 0, slots := 0, locals := 0 } kX12_leapsBefore :=
  zy_met (zn := "MomentTexts$Zone") (K := KX12_leapsBefore) (tb := tX12_leapsBefore) (pts := pX12_leapsBefore) (rc := 2) (N := 3) (fuel := 4000) (by decide +kernel) rfl rfl (by decide +kernel) rfl rfl (by decide +kernel) eX12_leapsBefore qX12_leapsBefore (fun p e s m args below meth c Q hx hb hml hown hts hKn => by
    have h2 : ∀ w ∈ gT, w.before args s = true := fun w hw => hts w (List.mem_cons_of_mem _ hw)
    exact ⟨hx, hb, zD_all h2 hKn.1, zArN hKn, zf_clause h2 hown hKn.1 gfX12_ok (by decide +kernel), fun i n h => (by obtain ⟨x, h3, h4⟩ := ciX12_ok i n h; exact ⟨_, x, hown, h2 _ h3, h4⟩), fun i n h => (by obtain ⟨x, h3, h4⟩ := clX12_ok i n h; exact ⟨_, x, hown, h2 _ h3, h4⟩), (zgs_n), zct_n⟩)
def tX12_startOf : List (Nat × Instr × Nat) := [(0, .ldc2_w 178, 3), (3, .lload_n 1, 1), (4, .lmul, 1), (5, .aload_n 0, 1), (6, .lload_n 1, 1), (7, .ldc2_w 180, 3), (10, .invokestatic 99, 3), (13, .invokevirtual 182, 3), (16, .ladd, 1), (17, .lreturn, 1)]
set_option maxRecDepth 100000 in
theorem eX12_startOf : ∀ x ∈ tX12_startOf, decode cX12_startOf x.1 = .ok x.2 := by decide +kernel
def kX12_startOf : zc_C := ([(26, 0, 0), (1, (-100000000000000000), 100000000000000000)], [], [], [], [], [(some (1, (-9223372036854775808), 9223372036854775807), [], [([(1, 60), (2, (-1))], (-40)), ([(2, 1), (1, (-60))], (-40))])])
def pX12_startOf : List zp_P := []
def KX12_startOf : zk_K := (3, RTg, gfX12, ciX12, clX12, [], [(396, kX12_down__1440), (729, kX12_leapsBefore)], [], [])
set_option maxRecDepth 100000 in
theorem qX12_startOf : zy_ck KX12_startOf tX12_startOf pX12_startOf kX12_startOf 2 1 4000 = true := by decide +kernel
set_option maxRecDepth 100000 in
theorem mX12_startOf (l : Launch) (D : va_G) (cA : Nat → ClassId) (ro : Nat → Option Nat) (sz : Nat) (H0 : Heap) : zy_M l D cA RTg ro sz H0 (zKn D cA ro sz H0) yX12_startOf (gW yX12_startOf cX12_startOf 3 (some .long)) { frames := 1, cells := 0, slots := 0, locals := 25 } kX12_startOf :=
  zy_met (zn := "MomentTexts$Zone") (K := KX12_startOf) (tb := tX12_startOf) (pts := pX12_startOf) (rc := 2) (N := 1) (fuel := 4000) (by decide +kernel) rfl rfl (by decide +kernel) rfl rfl (by decide +kernel) eX12_startOf qX12_startOf (fun p e s m args below meth c Q hx hb hml hown hts hKn => by
    have h2 : ∀ w ∈ gT, w.before args s = true := fun w hw => hts w (List.mem_cons_of_mem _ hw)
    exact ⟨hx, hb, zD_all h2 hKn.1, zArN hKn, zf_clause h2 hown hKn.1 gfX12_ok (by decide +kernel), fun i n h => (by obtain ⟨x, h3, h4⟩ := ciX12_ok i n h; exact ⟨_, x, hown, h2 _ h3, h4⟩), fun i n h => (by obtain ⟨x, h3, h4⟩ := clX12_ok i n h; exact ⟨_, x, hown, h2 _ h3, h4⟩), (zgs_n), 
      zct_c (zr_S (idx := 99) hx hb hml hown hts hKn zKb (mX12_down__1440 l D cA ro sz H0) ⟨rfl, rfl⟩ ⟨by decide, by decide⟩ ⟨Nat.zero_le _, Nat.zero_le _⟩ (tb_6 139 rfl rfl) (tb_1 12 rfl rfl) (tb_6 137 rfl rfl) (tb_6 138 rfl rfl) (by decide +kernel) rfl) (
      zct_c (zr_V (idx := 182) (r := 11) (ci := 11) (n0 := 0) (fs := fsX12) (lo := 0) (hi0 := 0) (ts := [(1, (-9223372036854775808), 9223372036854775807)]) hx hb hml hown hts hKn zKb (mX12_leapsBefore l D cA ro sz H0) ⟨rfl, rfl⟩ ⟨by decide, by decide⟩ ⟨Nat.zero_le _, Nat.zero_le _⟩ (tb_7 132 rfl rfl) (tb_1 12 rfl rfl) (tb_7 129 rfl rfl) (tb_7 131 rfl rfl) (tb_0 12 rfl rfl) (by decide +kernel) rfl rfl (zCX12 hKn.1) rfl) (zct_n))⟩)
def tX12_isLeapDay : List (Nat × Instr × Nat) := [(0, .iconst 0, 1), (1, .istore_n 3, 1), (2, .iload_n 3, 1), (3, .aload_n 0, 1), (4, .getfield 173, 3), (7, .if_icmp .ge 22, 3), (10, .aload_n 0, 1), (11, .getfield 9, 3), (14, .iload_n 3, 1), (15, .laload, 1), (16, .lload_n 1, 1), (17, .lcmp, 1), (18, .ifCond .ne 5, 3), (21, .iconst 1, 1), (22, .ireturn, 1), (23, .iinc 3 1, 3), (26, .goto (-24), 3), (29, .iconst 0, 1), (30, .ireturn, 1)]
set_option maxRecDepth 100000 in
theorem eX12_isLeapDay : ∀ x ∈ tX12_isLeapDay, decode cX12_isLeapDay x.1 = .ok x.2 := by decide +kernel
def kX12_isLeapDay : zc_C := ([(26, 0, 0), (1, (-9223372036854775808), 9223372036854775807)], [], [], [], [], [(some (0, 0, 1), [], [])])
def pX12_isLeapDay : List zp_P := [(2, [(0, (-1)), ((-9223372036854775808), 9223372036854775807), (0, 40), (0, (-1)), ((-9223372036854775808), 9223372036854775807)], [([(0, 1), (3, (-1))], 0), ([(3, 1), (0, (-1))], 0)], [(0, 26), (1, 1), (3, 0)], [], [], 2, [([], 18), ([(2, (-1))], 2147483649), ([], 18)])]
def KX12_isLeapDay : zk_K := (4, RTg, gfX12, ciX12, clX12, [], [], [], [])
set_option maxRecDepth 100000 in
theorem qX12_isLeapDay : zy_ck KX12_isLeapDay tX12_isLeapDay pX12_isLeapDay kX12_isLeapDay 1 3 4000 = true := by decide +kernel
set_option maxRecDepth 100000 in
theorem mX12_isLeapDay (l : Launch) (D : va_G) (cA : Nat → ClassId) (ro : Nat → Option Nat) (sz : Nat) (H0 : Heap) : zy_M l D cA RTg ro sz H0 (zKn D cA ro sz H0) yX12_isLeapDay (gW yX12_isLeapDay cX12_isLeapDay 4 (some .boolean)) { frames := 0, cells := 0, slots := 0, locals := 0 } kX12_isLeapDay :=
  zy_met (zn := "MomentTexts$Zone") (K := KX12_isLeapDay) (tb := tX12_isLeapDay) (pts := pX12_isLeapDay) (rc := 1) (N := 3) (fuel := 4000) (by decide +kernel) rfl rfl (by decide +kernel) rfl rfl (by decide +kernel) eX12_isLeapDay qX12_isLeapDay (fun p e s m args below meth c Q hx hb hml hown hts hKn => by
    have h2 : ∀ w ∈ gT, w.before args s = true := fun w hw => hts w (List.mem_cons_of_mem _ hw)
    exact ⟨hx, hb, zD_all h2 hKn.1, zArN hKn, zf_clause h2 hown hKn.1 gfX12_ok (by decide +kernel), fun i n h => (by obtain ⟨x, h3, h4⟩ := ciX12_ok i n h; exact ⟨_, x, hown, h2 _ h3, h4⟩), fun i n h => (by obtain ⟨x, h3, h4⟩ := clX12_ok i n h; exact ⟨_, x, hown, h2 _ h3, h4⟩), (zgs_n), zct_n⟩)
def tX12_secondsOf : List (Nat × Instr × Nat) := [(0, .lload_n 1, 1), (1, .ldc2_w 180, 3), (4, .invokestatic 99, 3), (7, .lstore_n 3, 1), (8, .lload_n 1, 1), (9, .lload_n 3, 1), (10, .ldc2_w 180, 3), (13, .lmul, 1), (14, .lsub, 1), (15, .ldc2_w 185, 3), (18, .lcmp, 1), (19, .ifCond .ne 16, 3), (22, .aload_n 0, 1), (23, .lload_n 3, 1), (24, .invokevirtual 187, 3), (27, .ifCond .eq 8, 3), (30, .bipush 61, 2), (32, .goto 5, 3), (35, .bipush 60, 2), (37, .ireturn, 1)]
set_option maxRecDepth 100000 in
theorem eX12_secondsOf : ∀ x ∈ tX12_secondsOf, decode cX12_secondsOf x.1 = .ok x.2 := by decide +kernel
def kX12_secondsOf : zc_C := ([(26, 0, 0), (1, (-9223372036854775808), 9223372036854775807)], [], [], [], [], [(some (0, 60, 61), [], [])])
def pX12_secondsOf : List zp_P := []
def KX12_secondsOf : zk_K := (5, RTg, gfX12, ciX12, clX12, [], [(396, kX12_down__1440), (749, kX12_isLeapDay)], [], [])
set_option maxRecDepth 100000 in
theorem qX12_secondsOf : zy_ck KX12_secondsOf tX12_secondsOf pX12_secondsOf kX12_secondsOf 1 1 4000 = true := by decide +kernel
set_option maxRecDepth 100000 in
theorem mX12_secondsOf (l : Launch) (D : va_G) (cA : Nat → ClassId) (ro : Nat → Option Nat) (sz : Nat) (H0 : Heap) : zy_M l D cA RTg ro sz H0 (zKn D cA ro sz H0) yX12_secondsOf (gW yX12_secondsOf cX12_secondsOf 5 (some .int)) { frames := 1, cells := 0, slots := 0, locals := 25 } kX12_secondsOf :=
  zy_met (zn := "MomentTexts$Zone") (K := KX12_secondsOf) (tb := tX12_secondsOf) (pts := pX12_secondsOf) (rc := 1) (N := 1) (fuel := 4000) (by decide +kernel) rfl rfl (by decide +kernel) rfl rfl (by decide +kernel) eX12_secondsOf qX12_secondsOf (fun p e s m args below meth c Q hx hb hml hown hts hKn => by
    have h2 : ∀ w ∈ gT, w.before args s = true := fun w hw => hts w (List.mem_cons_of_mem _ hw)
    exact ⟨hx, hb, zD_all h2 hKn.1, zArN hKn, zf_clause h2 hown hKn.1 gfX12_ok (by decide +kernel), fun i n h => (by obtain ⟨x, h3, h4⟩ := ciX12_ok i n h; exact ⟨_, x, hown, h2 _ h3, h4⟩), fun i n h => (by obtain ⟨x, h3, h4⟩ := clX12_ok i n h; exact ⟨_, x, hown, h2 _ h3, h4⟩), (zgs_n), 
      zct_c (zr_S (idx := 99) hx hb hml hown hts hKn zKb (mX12_down__1440 l D cA ro sz H0) ⟨rfl, rfl⟩ ⟨by decide, by decide⟩ ⟨Nat.zero_le _, Nat.zero_le _⟩ (tb_6 139 rfl rfl) (tb_1 12 rfl rfl) (tb_6 137 rfl rfl) (tb_6 138 rfl rfl) (by decide +kernel) rfl) (
      zct_c (zr_V (idx := 187) (r := 11) (ci := 11) (n0 := 0) (fs := fsX12) (lo := 0) (hi0 := 0) (ts := [(1, (-9223372036854775808), 9223372036854775807)]) hx hb hml hown hts hKn zKb (mX12_isLeapDay l D cA ro sz H0) ⟨rfl, rfl⟩ ⟨by decide, by decide⟩ ⟨Nat.zero_le _, Nat.zero_le _⟩ (tb_7 109 rfl rfl) (tb_1 12 rfl rfl) (tb_7 106 rfl rfl) (tb_7 108 rfl rfl) (tb_0 8 rfl rfl) (by decide +kernel) rfl rfl (zCX12 hKn.1) rfl) (zct_n))⟩)
def tX12_isMinute : List (Nat × Instr × Nat) := [(0, .lload_n 1, 1), (1, .aload_n 0, 1), (2, .getfield 74, 3), (5, .ldc2_w 180, 3), (8, .lmul, 1), (9, .aload_n 0, 1), (10, .getfield 80, 3), (13, .ldc2_w 180, 3), (16, .lmul, 1), (17, .ldc2_w 185, 3), (20, .ladd, 1), (21, .invokestatic 130, 3), (24, .ireturn, 1)]
set_option maxRecDepth 100000 in
theorem eX12_isMinute : ∀ x ∈ tX12_isMinute, decode cX12_isMinute x.1 = .ok x.2 := by decide +kernel
def kX12_isMinute : zc_C := ([(26, 0, 0), (1, (-9223372036854775808), 9223372036854775807)], [], [], [], [], [(some (0, 1, 1), [], [([(1, (-1))], (-526984793280)), ([(1, 1)], (-524913079679))]), (some (0, 0, 0), [], [])])
def pX12_isMinute : List zp_P := []
def KX12_isMinute : zk_K := (3, RTg, gfX12, ciX12, clX12, [], [(520, kX12_isIn)], [], [])
set_option maxRecDepth 100000 in
theorem qX12_isMinute : zy_ck KX12_isMinute tX12_isMinute pX12_isMinute kX12_isMinute 1 1 4000 = true := by decide +kernel
set_option maxRecDepth 100000 in
theorem mX12_isMinute (l : Launch) (D : va_G) (cA : Nat → ClassId) (ro : Nat → Option Nat) (sz : Nat) (H0 : Heap) : zy_M l D cA RTg ro sz H0 (zKn D cA ro sz H0) yX12_isMinute (gW yX12_isMinute cX12_isMinute 3 (some .boolean)) { frames := 1, cells := 0, slots := 0, locals := 25 } kX12_isMinute :=
  zy_met (zn := "MomentTexts$Zone") (K := KX12_isMinute) (tb := tX12_isMinute) (pts := pX12_isMinute) (rc := 1) (N := 1) (fuel := 4000) (by decide +kernel) rfl rfl (by decide +kernel) rfl rfl (by decide +kernel) eX12_isMinute qX12_isMinute (fun p e s m args below meth c Q hx hb hml hown hts hKn => by
    have h2 : ∀ w ∈ gT, w.before args s = true := fun w hw => hts w (List.mem_cons_of_mem _ hw)
    exact ⟨hx, hb, zD_all h2 hKn.1, zArN hKn, zf_clause h2 hown hKn.1 gfX12_ok (by decide +kernel), fun i n h => (by obtain ⟨x, h3, h4⟩ := ciX12_ok i n h; exact ⟨_, x, hown, h2 _ h3, h4⟩), fun i n h => (by obtain ⟨x, h3, h4⟩ := clX12_ok i n h; exact ⟨_, x, hown, h2 _ h3, h4⟩), (zgs_n), 
      zct_c (zr_S (idx := 130) hx hb hml hown hts hKn zKb (mX12_isIn l D cA ro sz H0) ⟨rfl, rfl⟩ ⟨by decide, by decide⟩ ⟨Nat.zero_le _, Nat.zero_le _⟩ (tb_7 47 rfl rfl) (tb_1 12 rfl rfl) (tb_7 45 rfl rfl) (tb_7 46 rfl rfl) (by decide +kernel) rfl) (zct_n)⟩)
def tX12_isInstant : List (Nat × Instr × Nat) := [(0, .lload_n 1, 1), (1, .aload_n 0, 1), (2, .aload_n 0, 1), (3, .getfield 74, 3), (6, .ldc2_w 180, 3), (9, .lmul, 1), (10, .invokevirtual 190, 3), (13, .lcmp, 1), (14, .ifCond .lt 28, 3), (17, .lload_n 1, 1), (18, .aload_n 0, 1), (19, .aload_n 0, 1), (20, .getfield 80, 3), (23, .ldc2_w 180, 3), (26, .lmul, 1), (27, .ldc2_w 180, 3), (30, .ladd, 1), (31, .invokevirtual 190, 3), (34, .lcmp, 1), (35, .ifCond .ge 7, 3), (38, .iconst 1, 1), (39, .goto 4, 3), (42, .iconst 0, 1), (43, .ireturn, 1)]
set_option maxRecDepth 100000 in
theorem eX12_isInstant : ∀ x ∈ tX12_isInstant, decode cX12_isInstant x.1 = .ok x.2 := by decide +kernel
def kX12_isInstant : zc_C := ([(26, 0, 0), (1, (-9223372036854775808), 9223372036854775807)], [], [], [], [], [(some (0, 1, 1), [], [([(1, (-1))], (-40000000000000)), ([(1, 1)], (-40000000000000))]), (some (0, 0, 0), [], [])])
def pX12_isInstant : List zp_P := []
def KX12_isInstant : zk_K := (3, RTg, gfX12, ciX12, clX12, [], [(761, kX12_startOf)], [], [])
set_option maxRecDepth 100000 in
theorem qX12_isInstant : zy_ck KX12_isInstant tX12_isInstant pX12_isInstant kX12_isInstant 1 1 4000 = true := by decide +kernel
set_option maxRecDepth 100000 in
theorem mX12_isInstant (l : Launch) (D : va_G) (cA : Nat → ClassId) (ro : Nat → Option Nat) (sz : Nat) (H0 : Heap) : zy_M l D cA RTg ro sz H0 (zKn D cA ro sz H0) yX12_isInstant (gW yX12_isInstant cX12_isInstant 3 (some .boolean)) { frames := 2, cells := 0, slots := 0, locals := 47 } kX12_isInstant :=
  zy_met (zn := "MomentTexts$Zone") (K := KX12_isInstant) (tb := tX12_isInstant) (pts := pX12_isInstant) (rc := 1) (N := 1) (fuel := 4000) (by decide +kernel) rfl rfl (by decide +kernel) rfl rfl (by decide +kernel) eX12_isInstant qX12_isInstant (fun p e s m args below meth c Q hx hb hml hown hts hKn => by
    have h2 : ∀ w ∈ gT, w.before args s = true := fun w hw => hts w (List.mem_cons_of_mem _ hw)
    exact ⟨hx, hb, zD_all h2 hKn.1, zArN hKn, zf_clause h2 hown hKn.1 gfX12_ok (by decide +kernel), fun i n h => (by obtain ⟨x, h3, h4⟩ := ciX12_ok i n h; exact ⟨_, x, hown, h2 _ h3, h4⟩), fun i n h => (by obtain ⟨x, h3, h4⟩ := clX12_ok i n h; exact ⟨_, x, hown, h2 _ h3, h4⟩), (zgs_n), 
      zct_c (zr_V (idx := 190) (r := 11) (ci := 11) (n0 := 0) (fs := fsX12) (lo := 0) (hi0 := 0) (ts := [(1, (-100000000000000000), 100000000000000000)]) hx hb hml hown hts hKn zKb (mX12_startOf l D cA ro sz H0) ⟨rfl, rfl⟩ ⟨by decide, by decide⟩ ⟨Nat.zero_le _, Nat.zero_le _⟩ (tb_7 127 rfl rfl) (tb_1 12 rfl rfl) (tb_7 124 rfl rfl) (tb_7 126 rfl rfl) (tb_0 11 rfl rfl) (by decide +kernel) rfl rfl (zCX12 hKn.1) rfl) (zct_n)⟩)
def tX12_read0 : List (Nat × Instr × Nat) := [(0, .lload_n 1, 1), (1, .ldc2_w 193, 3), (4, .lsub, 1), (5, .ldc2_w 178, 3), (8, .invokestatic 99, 3), (11, .ldc2_w 105, 3), (14, .lsub, 1), (15, .lstore_n 3, 1), (16, .aload_n 0, 1), (17, .lload_n 3, 1), (18, .lconst 1, 1), (19, .ladd, 1), (20, .invokevirtual 190, 3), (23, .lload_n 1, 1), (24, .lcmp, 1), (25, .ifCond .gt 10, 3), (28, .lload_n 3, 1), (29, .lconst 1, 1), (30, .ladd, 1), (31, .lstore_n 3, 1), (32, .goto (-16), 3), (35, .aload_n 0, 1), (36, .lload_n 3, 1), (37, .putfield 195, 3), (40, .aload_n 0, 1), (41, .lload_n 1, 1), (42, .aload_n 0, 1), (43, .lload_n 3, 1), (44, .invokevirtual 190, 3), (47, .lsub, 1), (48, .l2i, 1), (49, .putfield 198, 3), (52, .return_, 1)]
set_option maxRecDepth 100000 in
theorem eX12_read0 : ∀ x ∈ tX12_read0, decode cX12_read0 x.1 = .ok x.2 := by decide +kernel
def kX12_read0 : zc_C := ([(26, 0, 0), (1, (-200000000000000), 200000000000000)], [], [], [(11, 21), (11, 22)], [(0, 11, 21)], [(none, [(1, (-1000000000000000), 1000000000000000)], [])])
def pX12_read0 : List zp_P := [(16, [(0, (-1)), ((-200000000000000), 200000000000000), ((-3333333333337), 1000000000000000), (0, (-1)), ((-200000000000000), 200000000000000)], [([(0, 1), (3, (-1))], 0), ([(3, 1), (0, (-1))], 0), ([(2, 60), (1, (-1))], (-40))], [(0, 26), (1, 1), (3, 1)], [], [], 2, [([], 26), ([(2, (-1))], 9223372036854775809), ([], 26)])]
def KX12_read0 : zk_K := (5, RTg, gfX12, ciX12, clX12, [], [(396, kX12_down__60), (761, kX12_startOf)], [(11, 21), (11, 22)], [])
set_option maxRecDepth 100000 in
theorem qX12_read0 : zy_ck KX12_read0 tX12_read0 pX12_read0 kX12_read0 4 3 4000 = true := by decide +kernel
set_option maxRecDepth 100000 in
theorem mX12_read0 (l : Launch) (D : va_G) (cA : Nat → ClassId) (ro : Nat → Option Nat) (sz : Nat) (H0 : Heap) : zy_M l D cA RTg ro sz H0 (zKn D cA ro sz H0) yX12_read0 (gW yX12_read0 cX12_read0 5 none) { frames := 2, cells := 0, slots := 0, locals := 47 } kX12_read0 :=
  zy_met (zn := "MomentTexts$Zone") (K := KX12_read0) (tb := tX12_read0) (pts := pX12_read0) (rc := 4) (N := 3) (fuel := 4000) (by decide +kernel) rfl rfl (by decide +kernel) rfl rfl (by decide +kernel) eX12_read0 qX12_read0 (fun p e s m args below meth c Q hx hb hml hown hts hKn => by
    have h2 : ∀ w ∈ gT, w.before args s = true := fun w hw => hts w (List.mem_cons_of_mem _ hw)
    exact ⟨hx, hb, zD_all h2 hKn.1, zArN hKn, zf_clause h2 hown hKn.1 gfX12_ok (by decide +kernel), fun i n h => (by obtain ⟨x, h3, h4⟩ := ciX12_ok i n h; exact ⟨_, x, hown, h2 _ h3, h4⟩), fun i n h => (by obtain ⟨x, h3, h4⟩ := clX12_ok i n h; exact ⟨_, x, hown, h2 _ h3, h4⟩), (zgs_n), 
      zct_c (zr_S (idx := 99) hx hb hml hown hts hKn zKb (mX12_down__60 l D cA ro sz H0) ⟨rfl, rfl⟩ ⟨by decide, by decide⟩ ⟨Nat.zero_le _, Nat.zero_le _⟩ (tb_6 139 rfl rfl) (tb_1 12 rfl rfl) (tb_6 137 rfl rfl) (tb_6 138 rfl rfl) (by decide +kernel) rfl) (
      zct_c (zr_V (idx := 190) (r := 11) (ci := 11) (n0 := 0) (fs := fsX12) (lo := 0) (hi0 := 0) (ts := [(1, (-100000000000000000), 100000000000000000)]) hx hb hml hown hts hKn zKb (mX12_startOf l D cA ro sz H0) ⟨rfl, rfl⟩ ⟨by decide, by decide⟩ ⟨Nat.zero_le _, Nat.zero_le _⟩ (tb_7 127 rfl rfl) (tb_1 12 rfl rfl) (tb_7 124 rfl rfl) (tb_7 126 rfl rfl) (tb_0 11 rfl rfl) (by decide +kernel) rfl rfl (zCX12 hKn.1) rfl) (zct_n))⟩)
def tX12_leap : List (Nat × Instr × Nat) := [(0, .aload_n 0, 1), (1, .aload_n 0, 1), (2, .lload_n 1, 1), (3, .invokevirtual 159, 3), (6, .ifCond .eq 11, 3), (9, .aload_n 0, 1), (10, .lload_n 1, 1), (11, .invokevirtual 187, 3), (14, .ifCond .eq 7, 3), (17, .iconst 1, 1), (18, .goto 17, 3), (21, .aload_n 0, 1), (22, .getfield 173, 3), (25, .bipush 40, 2), (27, .if_icmp .ne 7, 3), (30, .iconst 2, 1), (31, .goto 4, 3), (34, .iconst 0, 1), (35, .putfield 85, 3), (38, .aload_n 0, 1), (39, .getfield 85, 3), (42, .ifCond .le 5, 3), (45, .iconst 0, 1), (46, .ireturn, 1), (47, .aload_n 0, 1), (48, .getfield 9, 3), (51, .aload_n 0, 1), (52, .getfield 173, 3), (55, .lload_n 1, 1), (56, .lastore, 1), (57, .aload_n 0, 1), (58, .dup, 1), (59, .getfield 173, 3), (62, .iconst 1, 1), (63, .iadd, 1), (64, .putfield 173, 3), (67, .aload_n 0, 1), (68, .getfield 173, 3), (71, .ireturn, 1)]
set_option maxRecDepth 100000 in
theorem eX12_leap : ∀ x ∈ tX12_leap, decode cX12_leap x.1 = .ok x.2 := by decide +kernel
def kX12_leap : zc_C := ([(26, 0, 0), (1, (-9223372036854775808), 9223372036854775807)], [], [], [(11, 0), (11, 1), (21, 0)], [], [(some (0, (-2147483648), 2147483647), [], [])])
def pX12_leap : List zp_P := []
def KX12_leap : zk_K := (3, RTg, gfX12, ciX12, clX12, [], [(637, kX12_isDay), (749, kX12_isLeapDay)], [(11, 0), (11, 1), (21, 0)], [])
set_option maxRecDepth 100000 in
theorem qX12_leap : zy_ck KX12_leap tX12_leap pX12_leap kX12_leap 1 1 4000 = true := by decide +kernel
set_option maxRecDepth 100000 in
theorem mX12_leap (l : Launch) (D : va_G) (cA : Nat → ClassId) (ro : Nat → Option Nat) (sz : Nat) (H0 : Heap) : zy_M l D cA RTg ro sz H0 (zKn D cA ro sz H0) yX12_leap (gW yX12_leap cX12_leap 3 (some .int)) { frames := 2, cells := 0, slots := 0, locals := 47 } kX12_leap :=
  zy_met (zn := "MomentTexts$Zone") (K := KX12_leap) (tb := tX12_leap) (pts := pX12_leap) (rc := 1) (N := 1) (fuel := 4000) (by decide +kernel) rfl rfl (by decide +kernel) rfl rfl (by decide +kernel) eX12_leap qX12_leap (fun p e s m args below meth c Q hx hb hml hown hts hKn => by
    have h2 : ∀ w ∈ gT, w.before args s = true := fun w hw => hts w (List.mem_cons_of_mem _ hw)
    exact ⟨hx, hb, zD_all h2 hKn.1, zArN hKn, zf_clause h2 hown hKn.1 gfX12_ok (by decide +kernel), fun i n h => (by obtain ⟨x, h3, h4⟩ := ciX12_ok i n h; exact ⟨_, x, hown, h2 _ h3, h4⟩), fun i n h => (by obtain ⟨x, h3, h4⟩ := clX12_ok i n h; exact ⟨_, x, hown, h2 _ h3, h4⟩), (zgs_n), 
      zct_c (zr_V (idx := 159) (r := 11) (ci := 11) (n0 := 0) (fs := fsX12) (lo := 0) (hi0 := 0) (ts := [(1, (-9223372036854775808), 9223372036854775807)]) hx hb hml hown hts hKn zKb (mX12_isDay l D cA ro sz H0) ⟨rfl, rfl⟩ ⟨by decide, by decide⟩ ⟨Nat.zero_le _, Nat.zero_le _⟩ (tb_7 62 rfl rfl) (tb_1 12 rfl rfl) (tb_7 59 rfl rfl) (tb_7 61 rfl rfl) (tb_0 4 rfl rfl) (by decide +kernel) rfl rfl (zCX12 hKn.1) rfl) (
      zct_c (zr_V (idx := 187) (r := 11) (ci := 11) (n0 := 0) (fs := fsX12) (lo := 0) (hi0 := 0) (ts := [(1, (-9223372036854775808), 9223372036854775807)]) hx hb hml hown hts hKn zKb (mX12_isLeapDay l D cA ro sz H0) ⟨rfl, rfl⟩ ⟨by decide, by decide⟩ ⟨Nat.zero_le _, Nat.zero_le _⟩ (tb_7 109 rfl rfl) (tb_1 12 rfl rfl) (tb_7 106 rfl rfl) (tb_7 108 rfl rfl) (tb_0 8 rfl rfl) (by decide +kernel) rfl rfl (zCX12 hKn.1) rfl) (zct_n))⟩)
def tX12_instant : List (Nat × Instr × Nat) := [(0, .aload_n 0, 1), (1, .aload_n 0, 1), (2, .lload_n 1, 1), (3, .invokevirtual 201, 3), (6, .ifCond .eq 20, 3), (9, .iload_n 3, 1), (10, .i2l, 1), (11, .lconst 0, 1), (12, .aload_n 0, 1), (13, .lload_n 1, 1), (14, .invokevirtual 204, 3), (17, .i2l, 1), (18, .lconst 1, 1), (19, .lsub, 1), (20, .invokestatic 130, 3), (23, .ifCond .ne 7, 3), (26, .iconst 1, 1), (27, .goto 4, 3), (30, .iconst 0, 1), (31, .putfield 85, 3), (34, .aload_n 0, 1), (35, .getfield 85, 3), (38, .ifCond .le 7, 3), (41, .lconst 0, 1), (42, .goto 11, 3), (45, .aload_n 0, 1), (46, .lload_n 1, 1), (47, .invokevirtual 190, 3), (50, .iload_n 3, 1), (51, .i2l, 1), (52, .ladd, 1), (53, .lreturn, 1)]
set_option maxRecDepth 100000 in
theorem eX12_instant : ∀ x ∈ tX12_instant, decode cX12_instant x.1 = .ok x.2 := by decide +kernel
def kX12_instant : zc_C := ([(26, 0, 0), (1, (-9223372036854775808), 9223372036854775807), (0, (-2147483648), 2147483647)], [], [], [(11, 0)], [], [(some (1, (-9223372036854775808), 9223372036854775807), [], [])])
def pX12_instant : List zp_P := []
def KX12_instant : zk_K := (4, RTg, gfX12, ciX12, clX12, [], [(520, kX12_isIn), (761, kX12_startOf), (805, kX12_isMinute), (817, kX12_secondsOf)], [(11, 0)], [])
set_option maxRecDepth 100000 in
theorem qX12_instant : zy_ck KX12_instant tX12_instant pX12_instant kX12_instant 2 1 4000 = true := by decide +kernel
set_option maxRecDepth 100000 in
theorem mX12_instant (l : Launch) (D : va_G) (cA : Nat → ClassId) (ro : Nat → Option Nat) (sz : Nat) (H0 : Heap) : zy_M l D cA RTg ro sz H0 (zKn D cA ro sz H0) yX12_instant (gW yX12_instant cX12_instant 4 (some .long)) { frames := 2, cells := 0, slots := 0, locals := 49 } kX12_instant :=
  zy_met (zn := "MomentTexts$Zone") (K := KX12_instant) (tb := tX12_instant) (pts := pX12_instant) (rc := 2) (N := 1) (fuel := 4000) (by decide +kernel) rfl rfl (by decide +kernel) rfl rfl (by decide +kernel) eX12_instant qX12_instant (fun p e s m args below meth c Q hx hb hml hown hts hKn => by
    have h2 : ∀ w ∈ gT, w.before args s = true := fun w hw => hts w (List.mem_cons_of_mem _ hw)
    exact ⟨hx, hb, zD_all h2 hKn.1, zArN hKn, zf_clause h2 hown hKn.1 gfX12_ok (by decide +kernel), fun i n h => (by obtain ⟨x, h3, h4⟩ := ciX12_ok i n h; exact ⟨_, x, hown, h2 _ h3, h4⟩), fun i n h => (by obtain ⟨x, h3, h4⟩ := clX12_ok i n h; exact ⟨_, x, hown, h2 _ h3, h4⟩), (zgs_n), 
      zct_c (zr_S (idx := 130) hx hb hml hown hts hKn zKb (mX12_isIn l D cA ro sz H0) ⟨rfl, rfl⟩ ⟨by decide, by decide⟩ ⟨Nat.zero_le _, Nat.zero_le _⟩ (tb_7 47 rfl rfl) (tb_1 12 rfl rfl) (tb_7 45 rfl rfl) (tb_7 46 rfl rfl) (by decide +kernel) rfl) (
      zct_c (zr_V (idx := 190) (r := 11) (ci := 11) (n0 := 0) (fs := fsX12) (lo := 0) (hi0 := 0) (ts := [(1, (-100000000000000000), 100000000000000000)]) hx hb hml hown hts hKn zKb (mX12_startOf l D cA ro sz H0) ⟨rfl, rfl⟩ ⟨by decide, by decide⟩ ⟨Nat.zero_le _, Nat.zero_le _⟩ (tb_7 127 rfl rfl) (tb_1 12 rfl rfl) (tb_7 124 rfl rfl) (tb_7 126 rfl rfl) (tb_0 11 rfl rfl) (by decide +kernel) rfl rfl (zCX12 hKn.1) rfl) (
      zct_c (zr_V (idx := 201) (r := 11) (ci := 11) (n0 := 0) (fs := fsX12) (lo := 0) (hi0 := 0) (ts := [(1, (-9223372036854775808), 9223372036854775807)]) hx hb hml hown hts hKn zKb (mX12_isMinute l D cA ro sz H0) ⟨rfl, rfl⟩ ⟨by decide, by decide⟩ ⟨Nat.zero_le _, Nat.zero_le _⟩ (tb_7 117 rfl rfl) (tb_1 12 rfl rfl) (tb_7 114 rfl rfl) (tb_7 116 rfl rfl) (tb_0 9 rfl rfl) (by decide +kernel) rfl rfl (zCX12 hKn.1) rfl) (
      zct_c (zr_V (idx := 204) (r := 11) (ci := 11) (n0 := 0) (fs := fsX12) (lo := 0) (hi0 := 0) (ts := [(1, (-9223372036854775808), 9223372036854775807)]) hx hb hml hown hts hKn zKb (mX12_secondsOf l D cA ro sz H0) ⟨rfl, rfl⟩ ⟨by decide, by decide⟩ ⟨Nat.zero_le _, Nat.zero_le _⟩ (tb_7 123 rfl rfl) (tb_1 12 rfl rfl) (tb_7 120 rfl rfl) (tb_7 122 rfl rfl) (tb_0 10 rfl rfl) (by decide +kernel) rfl rfl (zCX12 hKn.1) rfl) (zct_n))))⟩)
def tX12_reading : List (Nat × Instr × Nat) := [(0, .aload_n 0, 1), (1, .aload_n 0, 1), (2, .lload_n 1, 1), (3, .invokevirtual 207, 3), (6, .ifCond .eq 13, 3), (9, .iload_n 3, 1), (10, .i2l, 1), (11, .lconst 0, 1), (12, .lconst 1, 1), (13, .invokestatic 130, 3), (16, .ifCond .ne 7, 3), (19, .iconst 1, 1), (20, .goto 4, 3), (23, .iconst 0, 1), (24, .putfield 85, 3), (27, .aload_n 0, 1), (28, .getfield 85, 3), (31, .ifCond .le 5, 3), (34, .lconst 0, 1), (35, .lreturn, 1), (36, .aload_n 0, 1), (37, .lload_n 1, 1), (38, .invokevirtual 210, 3), (41, .iload_n 3, 1), (42, .ifCond .ne 10, 3), (45, .aload_n 0, 1), (46, .getfield 195, 3), (49, .goto 8, 3), (52, .aload_n 0, 1), (53, .getfield 198, 3), (56, .i2l, 1), (57, .lreturn, 1)]
set_option maxRecDepth 100000 in
theorem eX12_reading : ∀ x ∈ tX12_reading, decode cX12_reading x.1 = .ok x.2 := by decide +kernel
def kX12_reading : zc_C := ([(26, 0, 0), (1, (-9223372036854775808), 9223372036854775807), (0, (-2147483648), 2147483647)], [], [], [(11, 0), (11, 21), (11, 22)], [], [(some (1, (-9223372036854775808), 9223372036854775807), [], [])])
def pX12_reading : List zp_P := []
def KX12_reading : zk_K := (4, RTg, gfX12, ciX12, clX12, [], [(520, kX12_isIn), (829, kX12_isInstant), (841, kX12_read0)], [(11, 0), (11, 21), (11, 22)], [])
set_option maxRecDepth 100000 in
theorem qX12_reading : zy_ck KX12_reading tX12_reading pX12_reading kX12_reading 2 1 4000 = true := by decide +kernel
set_option maxRecDepth 100000 in
theorem mX12_reading (l : Launch) (D : va_G) (cA : Nat → ClassId) (ro : Nat → Option Nat) (sz : Nat) (H0 : Heap) : zy_M l D cA RTg ro sz H0 (zKn D cA ro sz H0) yX12_reading (gW yX12_reading cX12_reading 4 (some .long)) { frames := 3, cells := 0, slots := 0, locals := 71 } kX12_reading :=
  zy_met (zn := "MomentTexts$Zone") (K := KX12_reading) (tb := tX12_reading) (pts := pX12_reading) (rc := 2) (N := 1) (fuel := 4000) (by decide +kernel) rfl rfl (by decide +kernel) rfl rfl (by decide +kernel) eX12_reading qX12_reading (fun p e s m args below meth c Q hx hb hml hown hts hKn => by
    have h2 : ∀ w ∈ gT, w.before args s = true := fun w hw => hts w (List.mem_cons_of_mem _ hw)
    exact ⟨hx, hb, zD_all h2 hKn.1, zArN hKn, zf_clause h2 hown hKn.1 gfX12_ok (by decide +kernel), fun i n h => (by obtain ⟨x, h3, h4⟩ := ciX12_ok i n h; exact ⟨_, x, hown, h2 _ h3, h4⟩), fun i n h => (by obtain ⟨x, h3, h4⟩ := clX12_ok i n h; exact ⟨_, x, hown, h2 _ h3, h4⟩), (zgs_n), 
      zct_c (zr_S (idx := 130) hx hb hml hown hts hKn zKb (mX12_isIn l D cA ro sz H0) ⟨rfl, rfl⟩ ⟨by decide, by decide⟩ ⟨Nat.zero_le _, Nat.zero_le _⟩ (tb_7 47 rfl rfl) (tb_1 12 rfl rfl) (tb_7 45 rfl rfl) (tb_7 46 rfl rfl) (by decide +kernel) rfl) (
      zct_c (zr_V (idx := 207) (r := 11) (ci := 11) (n0 := 0) (fs := fsX12) (lo := 0) (hi0 := 0) (ts := [(1, (-9223372036854775808), 9223372036854775807)]) hx hb hml hown hts hKn zKb (mX12_isInstant l D cA ro sz H0) ⟨rfl, rfl⟩ ⟨by decide, by decide⟩ ⟨Nat.zero_le _, Nat.zero_le _⟩ (tb_7 141 rfl rfl) (tb_1 12 rfl rfl) (tb_7 138 rfl rfl) (tb_7 140 rfl rfl) (tb_0 13 rfl rfl) (by decide +kernel) rfl rfl (zCX12 hKn.1) rfl) (
      zct_c (zr_V (idx := 210) (r := 11) (ci := 11) (n0 := 0) (fs := fsX12) (lo := 0) (hi0 := 0) (ts := [(1, (-200000000000000), 200000000000000)]) hx hb hml hown hts hKn zKb (mX12_read0 l D cA ro sz H0) ⟨rfl, rfl⟩ ⟨by decide, by decide⟩ ⟨Nat.zero_le _, Nat.zero_le _⟩ (tb_7 145 rfl rfl) (tb_1 12 rfl rfl) (tb_7 142 rfl rfl) (tb_7 144 rfl rfl) (tb_0 14 rfl rfl) (by decide +kernel) rfl rfl (zCX12 hKn.1) rfl) (zct_n)))⟩)
def tX12_isOffset : List (Nat × Instr × Nat) := [(0, .lload_n 0, 1), (1, .ldc2_w 213, 3), (4, .ldc2_w 185, 3), (7, .invokestatic 130, 3), (10, .ireturn, 1)]
set_option maxRecDepth 100000 in
theorem eX12_isOffset : ∀ x ∈ tX12_isOffset, decode cX12_isOffset x.1 = .ok x.2 := by decide +kernel
def kX12_isOffset : zc_C := ([(1, (-9223372036854775808), 9223372036854775807)], [], [], [], [], [(some (0, 1, 1), [], [([(0, (-1))], (-1439)), ([(0, 1)], (-1439))]), (some (0, 0, 0), [], [])])
def pX12_isOffset : List zp_P := []
def KX12_isOffset : zk_K := (2, RTg, gfX12, ciX12, clX12, [], [(520, kX12_isIn)], [], [])
set_option maxRecDepth 100000 in
theorem qX12_isOffset : zy_ck KX12_isOffset tX12_isOffset pX12_isOffset kX12_isOffset 1 1 4000 = true := by decide +kernel
set_option maxRecDepth 100000 in
theorem mX12_isOffset (l : Launch) (D : va_G) (cA : Nat → ClassId) (ro : Nat → Option Nat) (sz : Nat) (H0 : Heap) : zy_M l D cA RTg ro sz H0 (zKn D cA ro sz H0) yX12_isOffset (gW yX12_isOffset cX12_isOffset 2 (some .boolean)) { frames := 1, cells := 0, slots := 0, locals := 25 } kX12_isOffset :=
  zy_met (zn := "MomentTexts$Zone") (K := KX12_isOffset) (tb := tX12_isOffset) (pts := pX12_isOffset) (rc := 1) (N := 1) (fuel := 4000) (by decide +kernel) rfl rfl (by decide +kernel) rfl rfl (by decide +kernel) eX12_isOffset qX12_isOffset (fun p e s m args below meth c Q hx hb hml hown hts hKn => by
    have h2 : ∀ w ∈ gT, w.before args s = true := fun w hw => hts w (List.mem_cons_of_mem _ hw)
    exact ⟨hx, hb, zD_all h2 hKn.1, zArN hKn, zf_clause h2 hown hKn.1 gfX12_ok (by decide +kernel), fun i n h => (by obtain ⟨x, h3, h4⟩ := ciX12_ok i n h; exact ⟨_, x, hown, h2 _ h3, h4⟩), fun i n h => (by obtain ⟨x, h3, h4⟩ := clX12_ok i n h; exact ⟨_, x, hown, h2 _ h3, h4⟩), (zgs_n), 
      zct_c (zr_S (idx := 130) hx hb hml hown hts hKn zKb (mX12_isIn l D cA ro sz H0) ⟨rfl, rfl⟩ ⟨by decide, by decide⟩ ⟨Nat.zero_le _, Nat.zero_le _⟩ (tb_7 47 rfl rfl) (tb_1 12 rfl rfl) (tb_7 45 rfl rfl) (tb_7 46 rfl rfl) (by decide +kernel) rfl) (zct_n)⟩)
def tX12_isZone : List (Nat × Instr × Nat) := [(0, .iload_n 1, 1), (1, .ifCond .lt 15, 3), (4, .iload_n 1, 1), (5, .aload_n 0, 1), (6, .getfield 215, 3), (9, .if_icmp .ge 7, 3), (12, .iconst 1, 1), (13, .goto 4, 3), (16, .iconst 0, 1), (17, .ireturn, 1)]
set_option maxRecDepth 100000 in
theorem eX12_isZone : ∀ x ∈ tX12_isZone, decode cX12_isZone x.1 = .ok x.2 := by decide +kernel
def kX12_isZone : zc_C := ([(26, 0, 0), (0, (-2147483648), 2147483647)], [], [], [], [], [(some (0, 1, 1), [], [([(1, (-1))], 0), ([(1, 1)], (-7))]), (some (0, 0, 0), [], [])])
def pX12_isZone : List zp_P := []
def KX12_isZone : zk_K := (2, RTg, gfX12, ciX12, clX12, [], [], [], [])
set_option maxRecDepth 100000 in
theorem qX12_isZone : zy_ck KX12_isZone tX12_isZone pX12_isZone kX12_isZone 1 1 4000 = true := by decide +kernel
set_option maxRecDepth 100000 in
theorem mX12_isZone (l : Launch) (D : va_G) (cA : Nat → ClassId) (ro : Nat → Option Nat) (sz : Nat) (H0 : Heap) : zy_M l D cA RTg ro sz H0 (zKn D cA ro sz H0) yX12_isZone (gW yX12_isZone cX12_isZone 2 (some .boolean)) { frames := 0, cells := 0, slots := 0, locals := 0 } kX12_isZone :=
  zy_met (zn := "MomentTexts$Zone") (K := KX12_isZone) (tb := tX12_isZone) (pts := pX12_isZone) (rc := 1) (N := 1) (fuel := 4000) (by decide +kernel) rfl rfl (by decide +kernel) rfl rfl (by decide +kernel) eX12_isZone qX12_isZone (fun p e s m args below meth c Q hx hb hml hown hts hKn => by
    have h2 : ∀ w ∈ gT, w.before args s = true := fun w hw => hts w (List.mem_cons_of_mem _ hw)
    exact ⟨hx, hb, zD_all h2 hKn.1, zArN hKn, zf_clause h2 hown hKn.1 gfX12_ok (by decide +kernel), fun i n h => (by obtain ⟨x, h3, h4⟩ := ciX12_ok i n h; exact ⟨_, x, hown, h2 _ h3, h4⟩), fun i n h => (by obtain ⟨x, h3, h4⟩ := clX12_ok i n h; exact ⟨_, x, hown, h2 _ h3, h4⟩), (zgs_n), zct_n⟩)
def tX12_zone : List (Nat × Instr × Nat) := [(0, .aload_n 0, 1), (1, .iload_n 1, 1), (2, .i2l, 1), (3, .invokestatic 218, 3), (6, .ifCond .ne 7, 3), (9, .iconst 1, 1), (10, .goto 17, 3), (13, .aload_n 0, 1), (14, .getfield 215, 3), (17, .bipush 8, 2), (19, .if_icmp .ne 7, 3), (22, .iconst 2, 1), (23, .goto 4, 3), (26, .iconst 0, 1), (27, .putfield 85, 3), (30, .aload_n 0, 1), (31, .getfield 85, 3), (34, .ifCond .le 5, 3), (37, .iconst 0, 1), (38, .ireturn, 1), (39, .aload_n 0, 1), (40, .getfield 15, 3), (43, .aload_n 0, 1), (44, .getfield 215, 3), (47, .iload_n 1, 1), (48, .iastore, 1), (49, .aload_n 0, 1), (50, .getfield 19, 3), (53, .aload_n 0, 1), (54, .getfield 215, 3), (57, .iconst 0, 1), (58, .iastore, 1), (59, .aload_n 0, 1), (60, .getfield 28, 3), (63, .aload_n 0, 1), (64, .getfield 215, 3), (67, .iconst 0, 1), (68, .iastore, 1), (69, .aload_n 0, 1), (70, .dup, 1), (71, .getfield 215, 3), (74, .iconst 1, 1), (75, .iadd, 1), (76, .putfield 215, 3), (79, .aload_n 0, 1), (80, .getfield 215, 3), (83, .iconst 1, 1), (84, .isub, 1), (85, .ireturn, 1)]
set_option maxRecDepth 100000 in
theorem eX12_zone : ∀ x ∈ tX12_zone, decode cX12_zone x.1 = .ok x.2 := by decide +kernel
def kX12_zone : zc_C := ([(26, 0, 0), (0, (-2147483648), 2147483647)], [], [], [(11, 0), (11, 3), (22, 0), (23, 0), (26, 0)], [], [(some (0, (-2147483648), 2147483647), [], [])])
def pX12_zone : List zp_P := []
def KX12_zone : zk_K := (2, RTg, gfX12, ciX12, clX12, [], [(872, kX12_isOffset)], [(11, 0), (11, 3), (22, 0), (23, 0), (26, 0)], [])
set_option maxRecDepth 100000 in
theorem qX12_zone : zy_ck KX12_zone tX12_zone pX12_zone kX12_zone 1 1 4000 = true := by decide +kernel
set_option maxRecDepth 100000 in
theorem mX12_zone (l : Launch) (D : va_G) (cA : Nat → ClassId) (ro : Nat → Option Nat) (sz : Nat) (H0 : Heap) : zy_M l D cA RTg ro sz H0 (zKn D cA ro sz H0) yX12_zone (gW yX12_zone cX12_zone 2 (some .int)) { frames := 2, cells := 0, slots := 0, locals := 46 } kX12_zone :=
  zy_met (zn := "MomentTexts$Zone") (K := KX12_zone) (tb := tX12_zone) (pts := pX12_zone) (rc := 1) (N := 1) (fuel := 4000) (by decide +kernel) rfl rfl (by decide +kernel) rfl rfl (by decide +kernel) eX12_zone qX12_zone (fun p e s m args below meth c Q hx hb hml hown hts hKn => by
    have h2 : ∀ w ∈ gT, w.before args s = true := fun w hw => hts w (List.mem_cons_of_mem _ hw)
    exact ⟨hx, hb, zD_all h2 hKn.1, zArN hKn, zf_clause h2 hown hKn.1 gfX12_ok (by decide +kernel), fun i n h => (by obtain ⟨x, h3, h4⟩ := ciX12_ok i n h; exact ⟨_, x, hown, h2 _ h3, h4⟩), fun i n h => (by obtain ⟨x, h3, h4⟩ := clX12_ok i n h; exact ⟨_, x, hown, h2 _ h3, h4⟩), (zgs_n), 
      zct_c (zr_S (idx := 218) hx hb hml hown hts hKn zKb (mX12_isOffset l D cA ro sz H0) ⟨rfl, rfl⟩ ⟨by decide, by decide⟩ ⟨Nat.zero_le _, Nat.zero_le _⟩ (tb_7 153 rfl rfl) (tb_1 12 rfl rfl) (tb_7 151 rfl rfl) (tb_7 152 rfl rfl) (by decide +kernel) rfl) (zct_n)⟩)
