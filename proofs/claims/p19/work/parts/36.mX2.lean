def tX2_yearStart : List (Nat × Instr × Nat) := [(0, .iload_n 0, 1), (1, .i2l, 1), (2, .ldc2_w 29, 3), (5, .ladd, 1), (6, .lstore_n 1, 1), (7, .ldc2_w 31, 3), (10, .lload_n 1, 1), (11, .lmul, 1), (12, .lload_n 1, 1), (13, .ldc2_w 33, 3), (16, .ladd, 1), (17, .ldc2_w 35, 3), (20, .ldiv, 1), (21, .ladd, 1), (22, .lload_n 1, 1), (23, .ldc2_w 37, 3), (26, .ladd, 1), (27, .ldc2_w 39, 3), (30, .ldiv, 1), (31, .lsub, 1), (32, .lload_n 1, 1), (33, .ldc2_w 41, 3), (36, .ladd, 1), (37, .ldc2_w 43, 3), (40, .ldiv, 1), (41, .ladd, 1), (42, .ldc2_w 45, 3), (45, .lsub, 1), (46, .lreturn, 1)]
set_option maxRecDepth 100000 in
theorem eX2_yearStart : ∀ x ∈ tX2_yearStart, decode cX2_yearStart x.1 = .ok x.2 := by decide +kernel
def kX2_yearStart : zc_C := ([(0, (-2147483648), 2147483647)], [], [], [], [], [(some (1, (-9223372036854775808), 9223372036854775807), [], [])])
def pX2_yearStart : List zp_P := []
def KX2_yearStart : zk_K := (3, RTg, gfX2, ciX2, clX2, [], [], [], [])
set_option maxRecDepth 100000 in
theorem qX2_yearStart : zy_ck KX2_yearStart tX2_yearStart pX2_yearStart kX2_yearStart 2 1 4000 = true := by decide +kernel
set_option maxRecDepth 100000 in
theorem mX2_yearStart (l : Launch) (D : va_G) (cA : Nat → ClassId) (ro : Nat → Option Nat) (sz : Nat) (H0 : Heap) : zy_M l D cA RTg ro sz H0 (zKn D cA ro sz H0) yX2_yearStart (gW yX2_yearStart cX2_yearStart 3 (some .long)) { frames := 0, cells := 0, slots := 0, locals := 0 } kX2_yearStart :=
  zy_met (zn := "MomentTexts$Zone") (K := KX2_yearStart) (tb := tX2_yearStart) (pts := pX2_yearStart) (rc := 2) (N := 1) (fuel := 4000) (by decide +kernel) rfl rfl (by decide +kernel) rfl rfl (by decide +kernel) eX2_yearStart qX2_yearStart (fun p e s m args below meth c Q hx hb hml hown hts hKn => by
    have h2 : ∀ w ∈ gT, w.before args s = true := fun w hw => hts w (List.mem_cons_of_mem _ hw)
    exact ⟨hx, hb, zD_all h2 hKn.1, zArN hKn, zf_clause h2 hown hKn.1 gfX2_ok (by decide +kernel), fun i n h => (by obtain ⟨x, h3, h4⟩ := ciX2_ok i n h; exact ⟨_, x, hown, h2 _ h3, h4⟩), fun i n h => (by obtain ⟨x, h3, h4⟩ := clX2_ok i n h; exact ⟨_, x, hown, h2 _ h3, h4⟩), (zgs_n), zct_n⟩)
def tX2_weekdayOf : List (Nat × Instr × Nat) := [(0, .lload_n 0, 1), (1, .ldc2_w 104, 3), (4, .ladd, 1), (5, .ldc2_w 33, 3), (8, .ladd, 1), (9, .ldc2_w 106, 3), (12, .lrem, 1), (13, .l2i, 1), (14, .iconst 1, 1), (15, .iadd, 1), (16, .ireturn, 1)]
set_option maxRecDepth 100000 in
theorem eX2_weekdayOf : ∀ x ∈ tX2_weekdayOf, decode cX2_weekdayOf x.1 = .ok x.2 := by decide +kernel
def kX2_weekdayOf : zc_C := ([(1, (-9223372036854775808), 9223372036854775807)], [], [], [], [], [(some (0, (-2147483648), 2147483647), [], [])])
def pX2_weekdayOf : List zp_P := []
def KX2_weekdayOf : zk_K := (2, RTg, gfX2, ciX2, clX2, [], [], [], [])
set_option maxRecDepth 100000 in
theorem qX2_weekdayOf : zy_ck KX2_weekdayOf tX2_weekdayOf pX2_weekdayOf kX2_weekdayOf 1 1 4000 = true := by decide +kernel
set_option maxRecDepth 100000 in
theorem mX2_weekdayOf (l : Launch) (D : va_G) (cA : Nat → ClassId) (ro : Nat → Option Nat) (sz : Nat) (H0 : Heap) : zy_M l D cA RTg ro sz H0 (zKn D cA ro sz H0) yX2_weekdayOf (gW yX2_weekdayOf cX2_weekdayOf 2 (some .int)) { frames := 0, cells := 0, slots := 0, locals := 0 } kX2_weekdayOf :=
  zy_met (zn := "MomentTexts$Zone") (K := KX2_weekdayOf) (tb := tX2_weekdayOf) (pts := pX2_weekdayOf) (rc := 1) (N := 1) (fuel := 4000) (by decide +kernel) rfl rfl (by decide +kernel) rfl rfl (by decide +kernel) eX2_weekdayOf qX2_weekdayOf (fun p e s m args below meth c Q hx hb hml hown hts hKn => by
    have h2 : ∀ w ∈ gT, w.before args s = true := fun w hw => hts w (List.mem_cons_of_mem _ hw)
    exact ⟨hx, hb, zD_all h2 hKn.1, zArN hKn, zf_clause h2 hown hKn.1 gfX2_ok (by decide +kernel), fun i n h => (by obtain ⟨x, h3, h4⟩ := ciX2_ok i n h; exact ⟨_, x, hown, h2 _ h3, h4⟩), fun i n h => (by obtain ⟨x, h3, h4⟩ := clX2_ok i n h; exact ⟨_, x, hown, h2 _ h3, h4⟩), (zgs_n), zct_n⟩)
def tX2_isLeapYear : List (Nat × Instr × Nat) := [(0, .iload_n 0, 1), (1, .iconst 4, 1), (2, .irem, 1), (3, .ifCond .ne 22, 3), (6, .iload_n 0, 1), (7, .bipush 100, 2), (9, .irem, 1), (10, .ifCond .ne 11, 3), (13, .iload_n 0, 1), (14, .sipush 400, 3), (17, .irem, 1), (18, .ifCond .ne 7, 3), (21, .iconst 1, 1), (22, .goto 4, 3), (25, .iconst 0, 1), (26, .ireturn, 1)]
set_option maxRecDepth 100000 in
theorem eX2_isLeapYear : ∀ x ∈ tX2_isLeapYear, decode cX2_isLeapYear x.1 = .ok x.2 := by decide +kernel
def kX2_isLeapYear : zc_C := ([(0, (-2147483648), 2147483647)], [], [], [], [], [(some (0, 0, 1), [], [])])
def pX2_isLeapYear : List zp_P := []
def KX2_isLeapYear : zk_K := (1, RTg, gfX2, ciX2, clX2, [], [], [], [])
set_option maxRecDepth 100000 in
theorem qX2_isLeapYear : zy_ck KX2_isLeapYear tX2_isLeapYear pX2_isLeapYear kX2_isLeapYear 1 1 4000 = true := by decide +kernel
set_option maxRecDepth 100000 in
theorem mX2_isLeapYear (l : Launch) (D : va_G) (cA : Nat → ClassId) (ro : Nat → Option Nat) (sz : Nat) (H0 : Heap) : zy_M l D cA RTg ro sz H0 (zKn D cA ro sz H0) yX2_isLeapYear (gW yX2_isLeapYear cX2_isLeapYear 1 (some .boolean)) { frames := 0, cells := 0, slots := 0, locals := 0 } kX2_isLeapYear :=
  zy_met (zn := "MomentTexts$Zone") (K := KX2_isLeapYear) (tb := tX2_isLeapYear) (pts := pX2_isLeapYear) (rc := 1) (N := 1) (fuel := 4000) (by decide +kernel) rfl rfl (by decide +kernel) rfl rfl (by decide +kernel) eX2_isLeapYear qX2_isLeapYear (fun p e s m args below meth c Q hx hb hml hown hts hKn => by
    have h2 : ∀ w ∈ gT, w.before args s = true := fun w hw => hts w (List.mem_cons_of_mem _ hw)
    exact ⟨hx, hb, zD_all h2 hKn.1, zArN hKn, zf_clause h2 hown hKn.1 gfX2_ok (by decide +kernel), fun i n h => (by obtain ⟨x, h3, h4⟩ := ciX2_ok i n h; exact ⟨_, x, hown, h2 _ h3, h4⟩), fun i n h => (by obtain ⟨x, h3, h4⟩ := clX2_ok i n h; exact ⟨_, x, hown, h2 _ h3, h4⟩), (zgs_n), zct_n⟩)
def tX2_weeksOf : List (Nat × Instr × Nat) := [(0, .iload_n 0, 1), (1, .invokestatic 49, 3), (4, .invokestatic 108, 3), (7, .istore_n 1, 1), (8, .iload_n 1, 1), (9, .iconst 4, 1), (10, .if_icmp .eq 15, 3), (13, .iload_n 1, 1), (14, .iconst 3, 1), (15, .if_icmp .ne 15, 3), (18, .iload_n 0, 1), (19, .invokestatic 21, 3), (22, .ifCond .eq 8, 3), (25, .bipush 53, 2), (27, .goto 5, 3), (30, .bipush 52, 2), (32, .ireturn, 1)]
set_option maxRecDepth 100000 in
theorem eX2_weeksOf : ∀ x ∈ tX2_weeksOf, decode cX2_weeksOf x.1 = .ok x.2 := by decide +kernel
def kX2_weeksOf : zc_C := ([(0, (-2147483648), 2147483647)], [], [], [], [], [(some (0, (-2147483648), 2147483647), [], [])])
def pX2_weeksOf : List zp_P := []
def KX2_weeksOf : zk_K := (2, RTg, gfX2, ciX2, clX2, [], [(84, kX2_isLeapYear), (196, kX2_yearStart), (432, kX2_weekdayOf)], [], [])
set_option maxRecDepth 100000 in
theorem qX2_weeksOf : zy_ck KX2_weeksOf tX2_weeksOf pX2_weeksOf kX2_weeksOf 1 1 4000 = true := by decide +kernel
set_option maxRecDepth 100000 in
theorem mX2_weeksOf (l : Launch) (D : va_G) (cA : Nat → ClassId) (ro : Nat → Option Nat) (sz : Nat) (H0 : Heap) : zy_M l D cA RTg ro sz H0 (zKn D cA ro sz H0) yX2_weeksOf (gW yX2_weeksOf cX2_weeksOf 2 (some .int)) { frames := 1, cells := 0, slots := 0, locals := 22 } kX2_weeksOf :=
  zy_met (zn := "MomentTexts$Zone") (K := KX2_weeksOf) (tb := tX2_weeksOf) (pts := pX2_weeksOf) (rc := 1) (N := 1) (fuel := 4000) (by decide +kernel) rfl rfl (by decide +kernel) rfl rfl (by decide +kernel) eX2_weeksOf qX2_weeksOf (fun p e s m args below meth c Q hx hb hml hown hts hKn => by
    have h2 : ∀ w ∈ gT, w.before args s = true := fun w hw => hts w (List.mem_cons_of_mem _ hw)
    exact ⟨hx, hb, zD_all h2 hKn.1, zArN hKn, zf_clause h2 hown hKn.1 gfX2_ok (by decide +kernel), fun i n h => (by obtain ⟨x, h3, h4⟩ := ciX2_ok i n h; exact ⟨_, x, hown, h2 _ h3, h4⟩), fun i n h => (by obtain ⟨x, h3, h4⟩ := clX2_ok i n h; exact ⟨_, x, hown, h2 _ h3, h4⟩), (zgs_n), 
      zct_c (zr_S (idx := 21) hx hb hml hown hts hKn zKb (mX2_isLeapYear l D cA ro sz H0) ⟨rfl, rfl⟩ ⟨by decide, by decide⟩ ⟨Nat.zero_le _, Nat.zero_le _⟩ (tb_2 120 rfl rfl) (tb_1 13 rfl rfl) (tb_2 118 rfl rfl) (tb_2 119 rfl rfl) (by decide +kernel) rfl) (
      zct_c (zr_S (idx := 49) hx hb hml hown hts hKn zKb (mX2_yearStart l D cA ro sz H0) ⟨rfl, rfl⟩ ⟨by decide, by decide⟩ ⟨Nat.zero_le _, Nat.zero_le _⟩ (tb_2 193 rfl rfl) (tb_1 13 rfl rfl) (tb_2 191 rfl rfl) (tb_2 192 rfl rfl) (by decide +kernel) rfl) (
      zct_c (zr_S (idx := 108) hx hb hml hown hts hKn zKb (mX2_weekdayOf l D cA ro sz H0) ⟨rfl, rfl⟩ ⟨by decide, by decide⟩ ⟨Nat.zero_le _, Nat.zero_le _⟩ (tb_2 231 rfl rfl) (tb_1 13 rfl rfl) (tb_3 1 rfl rfl) (tb_2 230 rfl rfl) (by decide +kernel) rfl) (zct_n)))⟩)
def tX2_weekStart : List (Nat × Instr × Nat) := [(0, .iload_n 0, 1), (1, .invokestatic 49, 3), (4, .ldc2_w 33, 3), (7, .ladd, 1), (8, .lstore_n 2, 1), (9, .lload_n 2, 1), (10, .lload_n 2, 1), (11, .invokestatic 108, 3), (14, .i2l, 1), (15, .lsub, 1), (16, .lconst 1, 1), (17, .ladd, 1), (18, .ldc2_w 106, 3), (21, .iload_n 1, 1), (22, .iconst 1, 1), (23, .isub, 1), (24, .i2l, 1), (25, .lmul, 1), (26, .ladd, 1), (27, .lreturn, 1)]
set_option maxRecDepth 100000 in
theorem eX2_weekStart : ∀ x ∈ tX2_weekStart, decode cX2_weekStart x.1 = .ok x.2 := by decide +kernel
def kX2_weekStart : zc_C := ([(0, (-2147483648), 2147483647), (0, (-2147483648), 2147483647)], [], [], [], [], [(some (1, (-9223372036854775808), 9223372036854775807), [], [])])
def pX2_weekStart : List zp_P := []
def KX2_weekStart : zk_K := (4, RTg, gfX2, ciX2, clX2, [], [(196, kX2_yearStart), (432, kX2_weekdayOf)], [], [])
set_option maxRecDepth 100000 in
theorem qX2_weekStart : zy_ck KX2_weekStart tX2_weekStart pX2_weekStart kX2_weekStart 2 1 4000 = true := by decide +kernel
set_option maxRecDepth 100000 in
theorem mX2_weekStart (l : Launch) (D : va_G) (cA : Nat → ClassId) (ro : Nat → Option Nat) (sz : Nat) (H0 : Heap) : zy_M l D cA RTg ro sz H0 (zKn D cA ro sz H0) yX2_weekStart (gW yX2_weekStart cX2_weekStart 4 (some .long)) { frames := 1, cells := 0, slots := 0, locals := 22 } kX2_weekStart :=
  zy_met (zn := "MomentTexts$Zone") (K := KX2_weekStart) (tb := tX2_weekStart) (pts := pX2_weekStart) (rc := 2) (N := 1) (fuel := 4000) (by decide +kernel) rfl rfl (by decide +kernel) rfl rfl (by decide +kernel) eX2_weekStart qX2_weekStart (fun p e s m args below meth c Q hx hb hml hown hts hKn => by
    have h2 : ∀ w ∈ gT, w.before args s = true := fun w hw => hts w (List.mem_cons_of_mem _ hw)
    exact ⟨hx, hb, zD_all h2 hKn.1, zArN hKn, zf_clause h2 hown hKn.1 gfX2_ok (by decide +kernel), fun i n h => (by obtain ⟨x, h3, h4⟩ := ciX2_ok i n h; exact ⟨_, x, hown, h2 _ h3, h4⟩), fun i n h => (by obtain ⟨x, h3, h4⟩ := clX2_ok i n h; exact ⟨_, x, hown, h2 _ h3, h4⟩), (zgs_n), 
      zct_c (zr_S (idx := 49) hx hb hml hown hts hKn zKb (mX2_yearStart l D cA ro sz H0) ⟨rfl, rfl⟩ ⟨by decide, by decide⟩ ⟨Nat.zero_le _, Nat.zero_le _⟩ (tb_2 193 rfl rfl) (tb_1 13 rfl rfl) (tb_2 191 rfl rfl) (tb_2 192 rfl rfl) (by decide +kernel) rfl) (
      zct_c (zr_S (idx := 108) hx hb hml hown hts hKn zKb (mX2_weekdayOf l D cA ro sz H0) ⟨rfl, rfl⟩ ⟨by decide, by decide⟩ ⟨Nat.zero_le _, Nat.zero_le _⟩ (tb_2 231 rfl rfl) (tb_1 13 rfl rfl) (tb_3 1 rfl rfl) (tb_2 230 rfl rfl) (by decide +kernel) rfl) (zct_n))⟩)
def tX2_holds : List (Nat × Instr × Nat) := [(0, .lload_n 0, 1), (1, .ldc2_w 11, 3), (4, .lcmp, 1), (5, .ifCond .lt 15, 3), (8, .lload_n 0, 1), (9, .ldc2_w 13, 3), (12, .lcmp, 1), (13, .ifCond .gt 7, 3), (16, .iconst 1, 1), (17, .goto 4, 3), (20, .iconst 0, 1), (21, .ireturn, 1)]
set_option maxRecDepth 100000 in
theorem eX2_holds : ∀ x ∈ tX2_holds, decode cX2_holds x.1 = .ok x.2 := by decide +kernel
def kX2_holds : zc_C := ([(1, (-9223372036854775808), 9223372036854775807)], [], [], [], [], [(some (0, 0, 1), [], [])])
def pX2_holds : List zp_P := []
def KX2_holds : zk_K := (2, RTg, gfX2, ciX2, clX2, [], [], [], [])
set_option maxRecDepth 100000 in
theorem qX2_holds : zy_ck KX2_holds tX2_holds pX2_holds kX2_holds 1 1 4000 = true := by decide +kernel
set_option maxRecDepth 100000 in
theorem mX2_holds (l : Launch) (D : va_G) (cA : Nat → ClassId) (ro : Nat → Option Nat) (sz : Nat) (H0 : Heap) : zy_M l D cA RTg ro sz H0 (zKn D cA ro sz H0) yX2_holds (gW yX2_holds cX2_holds 2 (some .boolean)) { frames := 0, cells := 0, slots := 0, locals := 0 } kX2_holds :=
  zy_met (zn := "MomentTexts$Zone") (K := KX2_holds) (tb := tX2_holds) (pts := pX2_holds) (rc := 1) (N := 1) (fuel := 4000) (by decide +kernel) rfl rfl (by decide +kernel) rfl rfl (by decide +kernel) eX2_holds qX2_holds (fun p e s m args below meth c Q hx hb hml hown hts hKn => by
    have h2 : ∀ w ∈ gT, w.before args s = true := fun w hw => hts w (List.mem_cons_of_mem _ hw)
    exact ⟨hx, hb, zD_all h2 hKn.1, zArN hKn, zf_clause h2 hown hKn.1 gfX2_ok (by decide +kernel), fun i n h => (by obtain ⟨x, h3, h4⟩ := ciX2_ok i n h; exact ⟨_, x, hown, h2 _ h3, h4⟩), fun i n h => (by obtain ⟨x, h3, h4⟩ := clX2_ok i n h; exact ⟨_, x, hown, h2 _ h3, h4⟩), (zgs_n), zct_n⟩)
def tX2_yearLength : List (Nat × Instr × Nat) := [(0, .iload_n 0, 1), (1, .invokestatic 21, 3), (4, .ifCond .eq 9, 3), (7, .sipush 366, 3), (10, .goto 6, 3), (13, .sipush 365, 3), (16, .ireturn, 1)]
set_option maxRecDepth 100000 in
theorem eX2_yearLength : ∀ x ∈ tX2_yearLength, decode cX2_yearLength x.1 = .ok x.2 := by decide +kernel
def kX2_yearLength : zc_C := ([(0, (-2147483648), 2147483647)], [], [], [], [], [(some (0, (-2147483648), 2147483647), [], [])])
def pX2_yearLength : List zp_P := []
def KX2_yearLength : zk_K := (1, RTg, gfX2, ciX2, clX2, [], [(84, kX2_isLeapYear)], [], [])
set_option maxRecDepth 100000 in
theorem qX2_yearLength : zy_ck KX2_yearLength tX2_yearLength pX2_yearLength kX2_yearLength 1 1 4000 = true := by decide +kernel
set_option maxRecDepth 100000 in
theorem mX2_yearLength (l : Launch) (D : va_G) (cA : Nat → ClassId) (ro : Nat → Option Nat) (sz : Nat) (H0 : Heap) : zy_M l D cA RTg ro sz H0 (zKn D cA ro sz H0) yX2_yearLength (gW yX2_yearLength cX2_yearLength 1 (some .int)) { frames := 1, cells := 0, slots := 0, locals := 20 } kX2_yearLength :=
  zy_met (zn := "MomentTexts$Zone") (K := KX2_yearLength) (tb := tX2_yearLength) (pts := pX2_yearLength) (rc := 1) (N := 1) (fuel := 4000) (by decide +kernel) rfl rfl (by decide +kernel) rfl rfl (by decide +kernel) eX2_yearLength qX2_yearLength (fun p e s m args below meth c Q hx hb hml hown hts hKn => by
    have h2 : ∀ w ∈ gT, w.before args s = true := fun w hw => hts w (List.mem_cons_of_mem _ hw)
    exact ⟨hx, hb, zD_all h2 hKn.1, zArN hKn, zf_clause h2 hown hKn.1 gfX2_ok (by decide +kernel), fun i n h => (by obtain ⟨x, h3, h4⟩ := ciX2_ok i n h; exact ⟨_, x, hown, h2 _ h3, h4⟩), fun i n h => (by obtain ⟨x, h3, h4⟩ := clX2_ok i n h; exact ⟨_, x, hown, h2 _ h3, h4⟩), (zgs_n), 
      zct_c (zr_S (idx := 21) hx hb hml hown hts hKn zKb (mX2_isLeapYear l D cA ro sz H0) ⟨rfl, rfl⟩ ⟨by decide, by decide⟩ ⟨Nat.zero_le _, Nat.zero_le _⟩ (tb_2 120 rfl rfl) (tb_1 13 rfl rfl) (tb_2 118 rfl rfl) (tb_2 119 rfl rfl) (by decide +kernel) rfl) (zct_n)⟩)
def tX2_monthLength : List (Nat × Instr × Nat) := [(0, .iload_n 1, 1), (1, .iconst 1, 1), (2, .if_icmp .lt 9, 3), (5, .iload_n 1, 1), (6, .bipush 12, 2), (8, .if_icmp .le 5, 3), (11, .iconst 0, 1), (12, .ireturn, 1), (13, .getstatic 25, 3), (16, .iload_n 1, 1), (17, .iaload, 1), (18, .getstatic 25, 3), (21, .iload_n 1, 1), (22, .iconst 1, 1), (23, .isub, 1), (24, .iaload, 1), (25, .isub, 1), (26, .istore_n 2, 1), (27, .iload_n 1, 1), (28, .iconst 2, 1), (29, .if_icmp .ne 16, 3), (32, .iload_n 0, 1), (33, .invokestatic 21, 3), (36, .ifCond .eq 9, 3), (39, .iload_n 2, 1), (40, .iconst 1, 1), (41, .iadd, 1), (42, .goto 4, 3), (45, .iload_n 2, 1), (46, .ireturn, 1)]
set_option maxRecDepth 100000 in
theorem eX2_monthLength : ∀ x ∈ tX2_monthLength, decode cX2_monthLength x.1 = .ok x.2 := by decide +kernel
def kX2_monthLength : zc_C := ([(0, (-2147483648), 2147483647), (0, (-2147483648), 2147483647)], [], [], [], [], [(some (0, (-2147483648), 2147483647), [], [])])
def pX2_monthLength : List zp_P := []
def KX2_monthLength : zk_K := (3, RTg, gfX2, ciX2, clX2, [(25, (82, 0, 0))], [(84, kX2_isLeapYear)], [], [])
set_option maxRecDepth 100000 in
theorem qX2_monthLength : zy_ck KX2_monthLength tX2_monthLength pX2_monthLength kX2_monthLength 1 1 4000 = true := by decide +kernel
set_option maxRecDepth 100000 in
theorem mX2_monthLength (l : Launch) (D : va_G) (cA : Nat → ClassId) (ro : Nat → Option Nat) (sz : Nat) (H0 : Heap) : zy_M l D cA RTg ro sz H0 (zKn D cA ro sz H0) yX2_monthLength (gW yX2_monthLength cX2_monthLength 3 (some .int)) { frames := 1, cells := 0, slots := 0, locals := 20 } kX2_monthLength :=
  zy_met (zn := "MomentTexts$Zone") (K := KX2_monthLength) (tb := tX2_monthLength) (pts := pX2_monthLength) (rc := 1) (N := 1) (fuel := 4000) (by decide +kernel) rfl rfl (by decide +kernel) rfl rfl (by decide +kernel) eX2_monthLength qX2_monthLength (fun p e s m args below meth c Q hx hb hml hown hts hKn => by
    have h2 : ∀ w ∈ gT, w.before args s = true := fun w hw => hts w (List.mem_cons_of_mem _ hw)
    exact ⟨hx, hb, zD_all h2 hKn.1, zArN hKn, zf_clause h2 hown hKn.1 gfX2_ok (by decide +kernel), fun i n h => (by obtain ⟨x, h3, h4⟩ := ciX2_ok i n h; exact ⟨_, x, hown, h2 _ h3, h4⟩), fun i n h => (by obtain ⟨x, h3, h4⟩ := clX2_ok i n h; exact ⟨_, x, hown, h2 _ h3, h4⟩), (zgs_c (zgs_row hx hb hown hKn.2.1 (h2 _ (tb_2 116 rfl rfl))) (zgs_n)), 
      zct_c (zr_S (idx := 21) hx hb hml hown hts hKn zKb (mX2_isLeapYear l D cA ro sz H0) ⟨rfl, rfl⟩ ⟨by decide, by decide⟩ ⟨Nat.zero_le _, Nat.zero_le _⟩ (tb_2 120 rfl rfl) (tb_1 13 rfl rfl) (tb_2 118 rfl rfl) (tb_2 119 rfl rfl) (by decide +kernel) rfl) (zct_n)⟩)
def tX2_numberOf : List (Nat × Instr × Nat) := [(0, .iload_n 1, 1), (1, .iconst 1, 1), (2, .if_icmp .lt 9, 3), (5, .iload_n 1, 1), (6, .bipush 12, 2), (8, .if_icmp .le 7, 3), (11, .iconst 0, 1), (12, .goto 10, 3), (15, .getstatic 25, 3), (18, .iload_n 1, 1), (19, .iconst 1, 1), (20, .isub, 1), (21, .iaload, 1), (22, .istore_n 3, 1), (23, .iload_n 1, 1), (24, .iconst 2, 1), (25, .if_icmp .le 14, 3), (28, .iload_n 0, 1), (29, .invokestatic 21, 3), (32, .ifCond .eq 7, 3), (35, .iconst 1, 1), (36, .goto 4, 3), (39, .iconst 0, 1), (40, .istore 4, 2), (42, .iload_n 0, 1), (43, .invokestatic 49, 3), (46, .iload_n 3, 1), (47, .i2l, 1), (48, .ladd, 1), (49, .iload 4, 2), (51, .i2l, 1), (52, .ladd, 1), (53, .iload_n 2, 1), (54, .i2l, 1), (55, .ladd, 1), (56, .lconst 1, 1), (57, .lsub, 1), (58, .lreturn, 1)]
set_option maxRecDepth 100000 in
theorem eX2_numberOf : ∀ x ∈ tX2_numberOf, decode cX2_numberOf x.1 = .ok x.2 := by decide +kernel
def kX2_numberOf : zc_C := ([(0, (-2147483648), 2147483647), (0, (-2147483648), 2147483647), (0, (-2147483648), 2147483647)], [], [], [], [], [(some (1, (-9223372036854775808), 9223372036854775807), [], [])])
def pX2_numberOf : List zp_P := []
def KX2_numberOf : zk_K := (5, RTg, gfX2, ciX2, clX2, [(25, (82, 0, 0))], [(84, kX2_isLeapYear), (196, kX2_yearStart)], [], [])
set_option maxRecDepth 100000 in
theorem qX2_numberOf : zy_ck KX2_numberOf tX2_numberOf pX2_numberOf kX2_numberOf 2 1 4000 = true := by decide +kernel
set_option maxRecDepth 100000 in
theorem mX2_numberOf (l : Launch) (D : va_G) (cA : Nat → ClassId) (ro : Nat → Option Nat) (sz : Nat) (H0 : Heap) : zy_M l D cA RTg ro sz H0 (zKn D cA ro sz H0) yX2_numberOf (gW yX2_numberOf cX2_numberOf 5 (some .long)) { frames := 1, cells := 0, slots := 0, locals := 22 } kX2_numberOf :=
  zy_met (zn := "MomentTexts$Zone") (K := KX2_numberOf) (tb := tX2_numberOf) (pts := pX2_numberOf) (rc := 2) (N := 1) (fuel := 4000) (by decide +kernel) rfl rfl (by decide +kernel) rfl rfl (by decide +kernel) eX2_numberOf qX2_numberOf (fun p e s m args below meth c Q hx hb hml hown hts hKn => by
    have h2 : ∀ w ∈ gT, w.before args s = true := fun w hw => hts w (List.mem_cons_of_mem _ hw)
    exact ⟨hx, hb, zD_all h2 hKn.1, zArN hKn, zf_clause h2 hown hKn.1 gfX2_ok (by decide +kernel), fun i n h => (by obtain ⟨x, h3, h4⟩ := ciX2_ok i n h; exact ⟨_, x, hown, h2 _ h3, h4⟩), fun i n h => (by obtain ⟨x, h3, h4⟩ := clX2_ok i n h; exact ⟨_, x, hown, h2 _ h3, h4⟩), (zgs_c (zgs_row hx hb hown hKn.2.1 (h2 _ (tb_2 116 rfl rfl))) (zgs_n)), 
      zct_c (zr_S (idx := 21) hx hb hml hown hts hKn zKb (mX2_isLeapYear l D cA ro sz H0) ⟨rfl, rfl⟩ ⟨by decide, by decide⟩ ⟨Nat.zero_le _, Nat.zero_le _⟩ (tb_2 120 rfl rfl) (tb_1 13 rfl rfl) (tb_2 118 rfl rfl) (tb_2 119 rfl rfl) (by decide +kernel) rfl) (
      zct_c (zr_S (idx := 49) hx hb hml hown hts hKn zKb (mX2_yearStart l D cA ro sz H0) ⟨rfl, rfl⟩ ⟨by decide, by decide⟩ ⟨Nat.zero_le _, Nat.zero_le _⟩ (tb_2 193 rfl rfl) (tb_1 13 rfl rfl) (tb_2 191 rfl rfl) (tb_2 192 rfl rfl) (by decide +kernel) rfl) (zct_n))⟩)
def tX2_holdsMinute : List (Nat × Instr × Nat) := [(0, .lload_n 0, 1), (1, .ldc2_w 15, 3), (4, .lcmp, 1), (5, .ifCond .lt 15, 3), (8, .lload_n 0, 1), (9, .ldc2_w 17, 3), (12, .lcmp, 1), (13, .ifCond .gt 7, 3), (16, .iconst 1, 1), (17, .goto 4, 3), (20, .iconst 0, 1), (21, .ireturn, 1)]
set_option maxRecDepth 100000 in
theorem eX2_holdsMinute : ∀ x ∈ tX2_holdsMinute, decode cX2_holdsMinute x.1 = .ok x.2 := by decide +kernel
def kX2_holdsMinute : zc_C := ([(1, (-9223372036854775808), 9223372036854775807)], [], [], [], [], [(some (0, 0, 1), [], [])])
def pX2_holdsMinute : List zp_P := []
def KX2_holdsMinute : zk_K := (2, RTg, gfX2, ciX2, clX2, [], [], [], [])
set_option maxRecDepth 100000 in
theorem qX2_holdsMinute : zy_ck KX2_holdsMinute tX2_holdsMinute pX2_holdsMinute kX2_holdsMinute 1 1 4000 = true := by decide +kernel
set_option maxRecDepth 100000 in
theorem mX2_holdsMinute (l : Launch) (D : va_G) (cA : Nat → ClassId) (ro : Nat → Option Nat) (sz : Nat) (H0 : Heap) : zy_M l D cA RTg ro sz H0 (zKn D cA ro sz H0) yX2_holdsMinute (gW yX2_holdsMinute cX2_holdsMinute 2 (some .boolean)) { frames := 0, cells := 0, slots := 0, locals := 0 } kX2_holdsMinute :=
  zy_met (zn := "MomentTexts$Zone") (K := KX2_holdsMinute) (tb := tX2_holdsMinute) (pts := pX2_holdsMinute) (rc := 1) (N := 1) (fuel := 4000) (by decide +kernel) rfl rfl (by decide +kernel) rfl rfl (by decide +kernel) eX2_holdsMinute qX2_holdsMinute (fun p e s m args below meth c Q hx hb hml hown hts hKn => by
    have h2 : ∀ w ∈ gT, w.before args s = true := fun w hw => hts w (List.mem_cons_of_mem _ hw)
    exact ⟨hx, hb, zD_all h2 hKn.1, zArN hKn, zf_clause h2 hown hKn.1 gfX2_ok (by decide +kernel), fun i n h => (by obtain ⟨x, h3, h4⟩ := ciX2_ok i n h; exact ⟨_, x, hown, h2 _ h3, h4⟩), fun i n h => (by obtain ⟨x, h3, h4⟩ := clX2_ok i n h; exact ⟨_, x, hown, h2 _ h3, h4⟩), (zgs_n), zct_n⟩)
def tX2_holdsYear : List (Nat × Instr × Nat) := [(0, .iload_n 0, 1), (1, .ldc 19, 2), (3, .if_icmp .lt 13, 3), (6, .iload_n 0, 1), (7, .ldc 20, 2), (9, .if_icmp .gt 7, 3), (12, .iconst 1, 1), (13, .goto 4, 3), (16, .iconst 0, 1), (17, .ireturn, 1)]
set_option maxRecDepth 100000 in
theorem eX2_holdsYear : ∀ x ∈ tX2_holdsYear, decode cX2_holdsYear x.1 = .ok x.2 := by decide +kernel
def kX2_holdsYear : zc_C := ([(0, (-2147483648), 2147483647)], [], [], [], [], [(some (0, 0, 1), [], [])])
def pX2_holdsYear : List zp_P := []
def KX2_holdsYear : zk_K := (1, RTg, gfX2, ciX2, clX2, [], [], [], [])
set_option maxRecDepth 100000 in
theorem qX2_holdsYear : zy_ck KX2_holdsYear tX2_holdsYear pX2_holdsYear kX2_holdsYear 1 1 4000 = true := by decide +kernel
set_option maxRecDepth 100000 in
theorem mX2_holdsYear (l : Launch) (D : va_G) (cA : Nat → ClassId) (ro : Nat → Option Nat) (sz : Nat) (H0 : Heap) : zy_M l D cA RTg ro sz H0 (zKn D cA ro sz H0) yX2_holdsYear (gW yX2_holdsYear cX2_holdsYear 1 (some .boolean)) { frames := 0, cells := 0, slots := 0, locals := 0 } kX2_holdsYear :=
  zy_met (zn := "MomentTexts$Zone") (K := KX2_holdsYear) (tb := tX2_holdsYear) (pts := pX2_holdsYear) (rc := 1) (N := 1) (fuel := 4000) (by decide +kernel) rfl rfl (by decide +kernel) rfl rfl (by decide +kernel) eX2_holdsYear qX2_holdsYear (fun p e s m args below meth c Q hx hb hml hown hts hKn => by
    have h2 : ∀ w ∈ gT, w.before args s = true := fun w hw => hts w (List.mem_cons_of_mem _ hw)
    exact ⟨hx, hb, zD_all h2 hKn.1, zArN hKn, zf_clause h2 hown hKn.1 gfX2_ok (by decide +kernel), fun i n h => (by obtain ⟨x, h3, h4⟩ := ciX2_ok i n h; exact ⟨_, x, hown, h2 _ h3, h4⟩), fun i n h => (by obtain ⟨x, h3, h4⟩ := clX2_ok i n h; exact ⟨_, x, hown, h2 _ h3, h4⟩), (zgs_n), zct_n⟩)
def tX2_yearOf : List (Nat × Instr × Nat) := [(0, .lload_n 0, 1), (1, .ldc2_w 45, 3), (4, .ladd, 1), (5, .ldc2_w 43, 3), (8, .lmul, 1), (9, .ldc2_w 47, 3), (12, .ldiv, 1), (13, .ldc2_w 29, 3), (16, .lsub, 1), (17, .l2i, 1), (18, .istore_n 2, 1), (19, .iload_n 2, 1), (20, .invokestatic 49, 3), (23, .lload_n 0, 1), (24, .lcmp, 1), (25, .ifCond .le 7, 3), (28, .iload_n 2, 1), (29, .iconst 1, 1), (30, .isub, 1), (31, .ireturn, 1), (32, .iload_n 2, 1), (33, .iconst 1, 1), (34, .iadd, 1), (35, .invokestatic 49, 3), (38, .lload_n 0, 1), (39, .lcmp, 1), (40, .ifCond .gt 9, 3), (43, .iload_n 2, 1), (44, .iconst 1, 1), (45, .iadd, 1), (46, .goto 4, 3), (49, .iload_n 2, 1), (50, .ireturn, 1)]
set_option maxRecDepth 100000 in
theorem eX2_yearOf : ∀ x ∈ tX2_yearOf, decode cX2_yearOf x.1 = .ok x.2 := by decide +kernel
def kX2_yearOf : zc_C := ([(1, (-9223372036854775808), 9223372036854775807)], [], [], [], [], [(some (0, (-2147483648), 2147483647), [], [])])
def pX2_yearOf : List zp_P := []
def KX2_yearOf : zk_K := (3, RTg, gfX2, ciX2, clX2, [], [(196, kX2_yearStart)], [], [])
set_option maxRecDepth 100000 in
theorem qX2_yearOf : zy_ck KX2_yearOf tX2_yearOf pX2_yearOf kX2_yearOf 1 1 4000 = true := by decide +kernel
set_option maxRecDepth 100000 in
theorem mX2_yearOf (l : Launch) (D : va_G) (cA : Nat → ClassId) (ro : Nat → Option Nat) (sz : Nat) (H0 : Heap) : zy_M l D cA RTg ro sz H0 (zKn D cA ro sz H0) yX2_yearOf (gW yX2_yearOf cX2_yearOf 3 (some .int)) { frames := 1, cells := 0, slots := 0, locals := 22 } kX2_yearOf :=
  zy_met (zn := "MomentTexts$Zone") (K := KX2_yearOf) (tb := tX2_yearOf) (pts := pX2_yearOf) (rc := 1) (N := 1) (fuel := 4000) (by decide +kernel) rfl rfl (by decide +kernel) rfl rfl (by decide +kernel) eX2_yearOf qX2_yearOf (fun p e s m args below meth c Q hx hb hml hown hts hKn => by
    have h2 : ∀ w ∈ gT, w.before args s = true := fun w hw => hts w (List.mem_cons_of_mem _ hw)
    exact ⟨hx, hb, zD_all h2 hKn.1, zArN hKn, zf_clause h2 hown hKn.1 gfX2_ok (by decide +kernel), fun i n h => (by obtain ⟨x, h3, h4⟩ := ciX2_ok i n h; exact ⟨_, x, hown, h2 _ h3, h4⟩), fun i n h => (by obtain ⟨x, h3, h4⟩ := clX2_ok i n h; exact ⟨_, x, hown, h2 _ h3, h4⟩), (zgs_n), 
      zct_c (zr_S (idx := 49) hx hb hml hown hts hKn zKb (mX2_yearStart l D cA ro sz H0) ⟨rfl, rfl⟩ ⟨by decide, by decide⟩ ⟨Nat.zero_le _, Nat.zero_le _⟩ (tb_2 193 rfl rfl) (tb_1 13 rfl rfl) (tb_2 191 rfl rfl) (tb_2 192 rfl rfl) (by decide +kernel) rfl) (zct_n)⟩)
def tX2_monthOf : List (Nat × Instr × Nat) := [(0, .lload_n 0, 1), (1, .invokestatic 53, 3), (4, .istore_n 2, 1), (5, .bipush 12, 2), (7, .istore_n 3, 1), (8, .iload_n 3, 1), (9, .iconst 1, 1), (10, .if_icmp .le 22, 3), (13, .lload_n 0, 1), (14, .iload_n 2, 1), (15, .iload_n 3, 1), (16, .iconst 1, 1), (17, .invokestatic 57, 3), (20, .lcmp, 1), (21, .ifCond .lt 5, 3), (24, .iload_n 3, 1), (25, .ireturn, 1), (26, .iinc 3 (-1), 3), (29, .goto (-21), 3), (32, .iconst 1, 1), (33, .ireturn, 1)]
set_option maxRecDepth 100000 in
theorem eX2_monthOf : ∀ x ∈ tX2_monthOf, decode cX2_monthOf x.1 = .ok x.2 := by decide +kernel
def kX2_monthOf : zc_C := ([(1, (-9223372036854775808), 9223372036854775807)], [], [], [], [], [(some (0, (-2147483648), 2147483647), [], [])])
def pX2_monthOf : List zp_P := [(8, [((-9223372036854775808), 9223372036854775807), ((-2147483648), 2147483647), (1, 12), ((-9223372036854775808), 9223372036854775807)], [], [(0, 1), (2, 0), (3, 0)], [], [], 1, [([], 17), ([(2, 1)], 2147483649), ([], 17)])]
def KX2_monthOf : zk_K := (4, RTg, gfX2, ciX2, clX2, [], [(212, kX2_yearOf), (228, kX2_numberOf)], [], [])
set_option maxRecDepth 100000 in
theorem qX2_monthOf : zy_ck KX2_monthOf tX2_monthOf pX2_monthOf kX2_monthOf 1 3 4000 = true := by decide +kernel
set_option maxRecDepth 100000 in
theorem mX2_monthOf (l : Launch) (D : va_G) (cA : Nat → ClassId) (ro : Nat → Option Nat) (sz : Nat) (H0 : Heap) : zy_M l D cA RTg ro sz H0 (zKn D cA ro sz H0) yX2_monthOf (gW yX2_monthOf cX2_monthOf 4 (some .int)) { frames := 2, cells := 0, slots := 0, locals := 46 } kX2_monthOf :=
  zy_met (zn := "MomentTexts$Zone") (K := KX2_monthOf) (tb := tX2_monthOf) (pts := pX2_monthOf) (rc := 1) (N := 3) (fuel := 4000) (by decide +kernel) rfl rfl (by decide +kernel) rfl rfl (by decide +kernel) eX2_monthOf qX2_monthOf (fun p e s m args below meth c Q hx hb hml hown hts hKn => by
    have h2 : ∀ w ∈ gT, w.before args s = true := fun w hw => hts w (List.mem_cons_of_mem _ hw)
    exact ⟨hx, hb, zD_all h2 hKn.1, zArN hKn, zf_clause h2 hown hKn.1 gfX2_ok (by decide +kernel), fun i n h => (by obtain ⟨x, h3, h4⟩ := ciX2_ok i n h; exact ⟨_, x, hown, h2 _ h3, h4⟩), fun i n h => (by obtain ⟨x, h3, h4⟩ := clX2_ok i n h; exact ⟨_, x, hown, h2 _ h3, h4⟩), (zgs_n), 
      zct_c (zr_S (idx := 53) hx hb hml hown hts hKn zKb (mX2_yearOf l D cA ro sz H0) ⟨rfl, rfl⟩ ⟨by decide, by decide⟩ ⟨Nat.zero_le _, Nat.zero_le _⟩ (tb_2 218 rfl rfl) (tb_1 13 rfl rfl) (tb_2 223 rfl rfl) (tb_2 217 rfl rfl) (by decide +kernel) rfl) (
      zct_c (zr_S (idx := 57) hx hb hml hown hts hKn zKb (mX2_numberOf l D cA ro sz H0) ⟨rfl, rfl⟩ ⟨by decide, by decide⟩ ⟨Nat.zero_le _, Nat.zero_le _⟩ (tb_2 190 rfl rfl) (tb_1 13 rfl rfl) (tb_2 224 rfl rfl) (tb_2 189 rfl rfl) (by decide +kernel) rfl) (zct_n))⟩)
def tX2_dayOfMonth : List (Nat × Instr × Nat) := [(0, .lload_n 0, 1), (1, .lload_n 0, 1), (2, .invokestatic 53, 3), (5, .lload_n 0, 1), (6, .invokestatic 61, 3), (9, .iconst 1, 1), (10, .invokestatic 57, 3), (13, .lsub, 1), (14, .l2i, 1), (15, .iconst 1, 1), (16, .iadd, 1), (17, .ireturn, 1)]
set_option maxRecDepth 100000 in
theorem eX2_dayOfMonth : ∀ x ∈ tX2_dayOfMonth, decode cX2_dayOfMonth x.1 = .ok x.2 := by decide +kernel
def kX2_dayOfMonth : zc_C := ([(1, (-9223372036854775808), 9223372036854775807)], [], [], [], [], [(some (0, (-2147483648), 2147483647), [], [])])
def pX2_dayOfMonth : List zp_P := []
def KX2_dayOfMonth : zk_K := (2, RTg, gfX2, ciX2, clX2, [], [(212, kX2_yearOf), (228, kX2_numberOf), (244, kX2_monthOf)], [], [])
set_option maxRecDepth 100000 in
theorem qX2_dayOfMonth : zy_ck KX2_dayOfMonth tX2_dayOfMonth pX2_dayOfMonth kX2_dayOfMonth 1 1 4000 = true := by decide +kernel
set_option maxRecDepth 100000 in
theorem mX2_dayOfMonth (l : Launch) (D : va_G) (cA : Nat → ClassId) (ro : Nat → Option Nat) (sz : Nat) (H0 : Heap) : zy_M l D cA RTg ro sz H0 (zKn D cA ro sz H0) yX2_dayOfMonth (gW yX2_dayOfMonth cX2_dayOfMonth 2 (some .int)) { frames := 3, cells := 0, slots := 0, locals := 69 } kX2_dayOfMonth :=
  zy_met (zn := "MomentTexts$Zone") (K := KX2_dayOfMonth) (tb := tX2_dayOfMonth) (pts := pX2_dayOfMonth) (rc := 1) (N := 1) (fuel := 4000) (by decide +kernel) rfl rfl (by decide +kernel) rfl rfl (by decide +kernel) eX2_dayOfMonth qX2_dayOfMonth (fun p e s m args below meth c Q hx hb hml hown hts hKn => by
    have h2 : ∀ w ∈ gT, w.before args s = true := fun w hw => hts w (List.mem_cons_of_mem _ hw)
    exact ⟨hx, hb, zD_all h2 hKn.1, zArN hKn, zf_clause h2 hown hKn.1 gfX2_ok (by decide +kernel), fun i n h => (by obtain ⟨x, h3, h4⟩ := ciX2_ok i n h; exact ⟨_, x, hown, h2 _ h3, h4⟩), fun i n h => (by obtain ⟨x, h3, h4⟩ := clX2_ok i n h; exact ⟨_, x, hown, h2 _ h3, h4⟩), (zgs_n), 
      zct_c (zr_S (idx := 53) hx hb hml hown hts hKn zKb (mX2_yearOf l D cA ro sz H0) ⟨rfl, rfl⟩ ⟨by decide, by decide⟩ ⟨Nat.zero_le _, Nat.zero_le _⟩ (tb_2 218 rfl rfl) (tb_1 13 rfl rfl) (tb_2 223 rfl rfl) (tb_2 217 rfl rfl) (by decide +kernel) rfl) (
      zct_c (zr_S (idx := 57) hx hb hml hown hts hKn zKb (mX2_numberOf l D cA ro sz H0) ⟨rfl, rfl⟩ ⟨by decide, by decide⟩ ⟨Nat.zero_le _, Nat.zero_le _⟩ (tb_2 190 rfl rfl) (tb_1 13 rfl rfl) (tb_2 224 rfl rfl) (tb_2 189 rfl rfl) (by decide +kernel) rfl) (
      zct_c (zr_S (idx := 61) hx hb hml hown hts hKn zKb (mX2_monthOf l D cA ro sz H0) ⟨rfl, rfl⟩ ⟨by decide, by decide⟩ ⟨Nat.zero_le _, Nat.zero_le _⟩ (tb_2 222 rfl rfl) (tb_1 13 rfl rfl) (tb_2 228 rfl rfl) (tb_2 221 rfl rfl) (by decide +kernel) rfl) (zct_n)))⟩)
def tX2_monthNumber : List (Nat × Instr × Nat) := [(0, .lload_n 0, 1), (1, .invokestatic 53, 3), (4, .bipush 12, 2), (6, .imul, 1), (7, .lload_n 0, 1), (8, .invokestatic 61, 3), (11, .iadd, 1), (12, .iconst 1, 1), (13, .isub, 1), (14, .ireturn, 1)]
set_option maxRecDepth 100000 in
theorem eX2_monthNumber : ∀ x ∈ tX2_monthNumber, decode cX2_monthNumber x.1 = .ok x.2 := by decide +kernel
def kX2_monthNumber : zc_C := ([(1, (-9223372036854775808), 9223372036854775807)], [], [], [], [], [(some (0, (-2147483648), 2147483647), [], [])])
def pX2_monthNumber : List zp_P := []
def KX2_monthNumber : zk_K := (2, RTg, gfX2, ciX2, clX2, [], [(212, kX2_yearOf), (244, kX2_monthOf)], [], [])
set_option maxRecDepth 100000 in
theorem qX2_monthNumber : zy_ck KX2_monthNumber tX2_monthNumber pX2_monthNumber kX2_monthNumber 1 1 4000 = true := by decide +kernel
set_option maxRecDepth 100000 in
theorem mX2_monthNumber (l : Launch) (D : va_G) (cA : Nat → ClassId) (ro : Nat → Option Nat) (sz : Nat) (H0 : Heap) : zy_M l D cA RTg ro sz H0 (zKn D cA ro sz H0) yX2_monthNumber (gW yX2_monthNumber cX2_monthNumber 2 (some .int)) { frames := 3, cells := 0, slots := 0, locals := 69 } kX2_monthNumber :=
  zy_met (zn := "MomentTexts$Zone") (K := KX2_monthNumber) (tb := tX2_monthNumber) (pts := pX2_monthNumber) (rc := 1) (N := 1) (fuel := 4000) (by decide +kernel) rfl rfl (by decide +kernel) rfl rfl (by decide +kernel) eX2_monthNumber qX2_monthNumber (fun p e s m args below meth c Q hx hb hml hown hts hKn => by
    have h2 : ∀ w ∈ gT, w.before args s = true := fun w hw => hts w (List.mem_cons_of_mem _ hw)
    exact ⟨hx, hb, zD_all h2 hKn.1, zArN hKn, zf_clause h2 hown hKn.1 gfX2_ok (by decide +kernel), fun i n h => (by obtain ⟨x, h3, h4⟩ := ciX2_ok i n h; exact ⟨_, x, hown, h2 _ h3, h4⟩), fun i n h => (by obtain ⟨x, h3, h4⟩ := clX2_ok i n h; exact ⟨_, x, hown, h2 _ h3, h4⟩), (zgs_n), 
      zct_c (zr_S (idx := 53) hx hb hml hown hts hKn zKb (mX2_yearOf l D cA ro sz H0) ⟨rfl, rfl⟩ ⟨by decide, by decide⟩ ⟨Nat.zero_le _, Nat.zero_le _⟩ (tb_2 218 rfl rfl) (tb_1 13 rfl rfl) (tb_2 223 rfl rfl) (tb_2 217 rfl rfl) (by decide +kernel) rfl) (
      zct_c (zr_S (idx := 61) hx hb hml hown hts hKn zKb (mX2_monthOf l D cA ro sz H0) ⟨rfl, rfl⟩ ⟨by decide, by decide⟩ ⟨Nat.zero_le _, Nat.zero_le _⟩ (tb_2 222 rfl rfl) (tb_1 13 rfl rfl) (tb_2 228 rfl rfl) (tb_2 221 rfl rfl) (by decide +kernel) rfl) (zct_n))⟩)
def tX2_monthsLater : List (Nat × Instr × Nat) := [(0, .lload_n 0, 1), (1, .invokestatic 64, 3), (4, .ifCond .ne 7, 3), (7, .ldc2_w 68, 3), (10, .lreturn, 1), (11, .lload_n 0, 1), (12, .invokestatic 70, 3), (15, .i2l, 1), (16, .iload_n 2, 1), (17, .i2l, 1), (18, .ladd, 1), (19, .lstore_n 3, 1), (20, .lload_n 3, 1), (21, .ldc2_w 73, 3), (24, .invokestatic 75, 3), (27, .lstore 5, 2), (29, .lload 5, 2), (31, .ldc2_w 81, 3), (34, .lcmp, 1), (35, .ifCond .lt 12, 3), (38, .lload 5, 2), (40, .ldc2_w 83, 3), (43, .lcmp, 1), (44, .ifCond .le 7, 3), (47, .ldc2_w 68, 3), (50, .lreturn, 1), (51, .lload_n 3, 1), (52, .ldc2_w 73, 3), (55, .invokestatic 85, 3), (58, .l2i, 1), (59, .iconst 1, 1), (60, .iadd, 1), (61, .istore 7, 2), (63, .lload 5, 2), (65, .l2i, 1), (66, .iload 7, 2), (68, .invokestatic 88, 3), (71, .istore 8, 2), (73, .lload 5, 2), (75, .l2i, 1), (76, .iload 7, 2), (78, .lload_n 0, 1), (79, .invokestatic 92, 3), (82, .iload 8, 2), (84, .invokestatic 95, 3), (87, .invokestatic 57, 3), (90, .lreturn, 1)]
set_option maxRecDepth 100000 in
theorem eX2_monthsLater : ∀ x ∈ tX2_monthsLater, decode cX2_monthsLater x.1 = .ok x.2 := by decide +kernel
def kX2_monthsLater : zc_C := ([(1, (-9223372036854775808), 9223372036854775807), (0, (-2147483648), 2147483647)], [], [], [], [], [(some (1, (-9223372036854775808), 9223372036854775807), [], [])])
def pX2_monthsLater : List zp_P := []
def KX2_monthsLater : zk_K := (9, RTg, gfX2, ciX2, clX2, [], [(228, kX2_numberOf), (256, kX2_holds), (280, kX2_monthNumber), (300, kJ9_floorDiv_f86c9), (340, kJ9_floorMod_f86c9), (352, kX2_monthLength), (368, kX2_dayOfMonth), (380, kJ9_min_7cf53)], [], [])
set_option maxRecDepth 100000 in
theorem qX2_monthsLater : zy_ck KX2_monthsLater tX2_monthsLater pX2_monthsLater kX2_monthsLater 2 1 4000 = true := by decide +kernel
set_option maxRecDepth 100000 in
theorem mX2_monthsLater (l : Launch) (D : va_G) (cA : Nat → ClassId) (ro : Nat → Option Nat) (sz : Nat) (H0 : Heap) : zy_M l D cA RTg ro sz H0 (zKn D cA ro sz H0) yX2_monthsLater (gW yX2_monthsLater cX2_monthsLater 9 (some .long)) { frames := 4, cells := 0, slots := 0, locals := 90 } kX2_monthsLater :=
  zy_met (zn := "MomentTexts$Zone") (K := KX2_monthsLater) (tb := tX2_monthsLater) (pts := pX2_monthsLater) (rc := 2) (N := 1) (fuel := 4000) (by decide +kernel) rfl rfl (by decide +kernel) rfl rfl (by decide +kernel) eX2_monthsLater qX2_monthsLater (fun p e s m args below meth c Q hx hb hml hown hts hKn => by
    have h2 : ∀ w ∈ gT, w.before args s = true := fun w hw => hts w (List.mem_cons_of_mem _ hw)
    exact ⟨hx, hb, zD_all h2 hKn.1, zArN hKn, zf_clause h2 hown hKn.1 gfX2_ok (by decide +kernel), fun i n h => (by obtain ⟨x, h3, h4⟩ := ciX2_ok i n h; exact ⟨_, x, hown, h2 _ h3, h4⟩), fun i n h => (by obtain ⟨x, h3, h4⟩ := clX2_ok i n h; exact ⟨_, x, hown, h2 _ h3, h4⟩), (zgs_n), 
      zct_c (zr_S (idx := 57) hx hb hml hown hts hKn zKb (mX2_numberOf l D cA ro sz H0) ⟨rfl, rfl⟩ ⟨by decide, by decide⟩ ⟨Nat.zero_le _, Nat.zero_le _⟩ (tb_2 190 rfl rfl) (tb_1 13 rfl rfl) (tb_2 224 rfl rfl) (tb_2 189 rfl rfl) (by decide +kernel) rfl) (
      zct_c (zr_S (idx := 64) hx hb hml hown hts hKn zKb (mX2_holds l D cA ro sz H0) ⟨rfl, rfl⟩ ⟨by decide, by decide⟩ ⟨Nat.zero_le _, Nat.zero_le _⟩ (tb_2 212 rfl rfl) (tb_1 13 rfl rfl) (tb_3 31 rfl rfl) (tb_2 211 rfl rfl) (by decide +kernel) rfl) (
      zct_c (zr_S (idx := 70) hx hb hml hown hts hKn zKb (mX2_monthNumber l D cA ro sz H0) ⟨rfl, rfl⟩ ⟨by decide, by decide⟩ ⟨Nat.zero_le _, Nat.zero_le _⟩ (tb_3 35 rfl rfl) (tb_1 13 rfl rfl) (tb_3 33 rfl rfl) (tb_3 34 rfl rfl) (by decide +kernel) rfl) (
      zct_c (zr_S (idx := 75) hx hb hml hown hts hKn zKb (mJ9_floorDiv_f86c9 l D cA ro sz H0) ⟨rfl, rfl⟩ ⟨by decide, by decide⟩ ⟨Nat.zero_le _, Nat.zero_le _⟩ (tb_3 39 rfl rfl) (tb_1 18 rfl rfl) (tb_3 37 rfl rfl) (tb_3 38 rfl rfl) (by decide +kernel) rfl) (
      zct_c (zr_S (idx := 85) hx hb hml hown hts hKn zKb (mJ9_floorMod_f86c9 l D cA ro sz H0) ⟨rfl, rfl⟩ ⟨by decide, by decide⟩ ⟨Nat.zero_le _, Nat.zero_le _⟩ (tb_3 44 rfl rfl) (tb_1 18 rfl rfl) (tb_3 42 rfl rfl) (tb_3 43 rfl rfl) (by decide +kernel) rfl) (
      zct_c (zr_S (idx := 88) hx hb hml hown hts hKn zKb (mX2_monthLength l D cA ro sz H0) ⟨rfl, rfl⟩ ⟨by decide, by decide⟩ ⟨Nat.zero_le _, Nat.zero_le _⟩ (tb_2 115 rfl rfl) (tb_1 13 rfl rfl) (tb_3 45 rfl rfl) (tb_2 114 rfl rfl) (by decide +kernel) rfl) (
      zct_c (zr_S (idx := 92) hx hb hml hown hts hKn zKb (mX2_dayOfMonth l D cA ro sz H0) ⟨rfl, rfl⟩ ⟨by decide, by decide⟩ ⟨Nat.zero_le _, Nat.zero_le _⟩ (tb_2 227 rfl rfl) (tb_1 13 rfl rfl) (tb_3 46 rfl rfl) (tb_2 226 rfl rfl) (by decide +kernel) rfl) (
      zct_c (zr_S (idx := 95) hx hb hml hown hts hKn zKb (mJ9_min_7cf53 l D cA ro sz H0) ⟨rfl, rfl⟩ ⟨by decide, by decide⟩ ⟨Nat.zero_le _, Nat.zero_le _⟩ (tb_3 49 rfl rfl) (tb_1 18 rfl rfl) (tb_3 47 rfl rfl) (tb_3 48 rfl rfl) (by decide +kernel) rfl) (zct_n))))))))⟩)
def tX2_monthsApart : List (Nat × Instr × Nat) := [(0, .lload_n 2, 1), (1, .ldc2_w 98, 3), (4, .invokestatic 75, 3), (7, .invokestatic 70, 3), (10, .lload_n 0, 1), (11, .ldc2_w 98, 3), (14, .invokestatic 75, 3), (17, .invokestatic 70, 3), (20, .isub, 1), (21, .ireturn, 1)]
set_option maxRecDepth 100000 in
theorem eX2_monthsApart : ∀ x ∈ tX2_monthsApart, decode cX2_monthsApart x.1 = .ok x.2 := by decide +kernel
def kX2_monthsApart : zc_C := ([(1, (-9223372036854775808), 9223372036854775807), (1, (-9223372036854775808), 9223372036854775807)], [], [], [], [], [(some (0, (-2147483648), 2147483647), [], [])])
def pX2_monthsApart : List zp_P := []
def KX2_monthsApart : zk_K := (4, RTg, gfX2, ciX2, clX2, [], [(280, kX2_monthNumber), (300, kJ9_floorDiv_f86c9)], [], [])
set_option maxRecDepth 100000 in
theorem qX2_monthsApart : zy_ck KX2_monthsApart tX2_monthsApart pX2_monthsApart kX2_monthsApart 1 1 4000 = true := by decide +kernel
set_option maxRecDepth 100000 in
theorem mX2_monthsApart (l : Launch) (D : va_G) (cA : Nat → ClassId) (ro : Nat → Option Nat) (sz : Nat) (H0 : Heap) : zy_M l D cA RTg ro sz H0 (zKn D cA ro sz H0) yX2_monthsApart (gW yX2_monthsApart cX2_monthsApart 4 (some .int)) { frames := 4, cells := 0, slots := 0, locals := 90 } kX2_monthsApart :=
  zy_met (zn := "MomentTexts$Zone") (K := KX2_monthsApart) (tb := tX2_monthsApart) (pts := pX2_monthsApart) (rc := 1) (N := 1) (fuel := 4000) (by decide +kernel) rfl rfl (by decide +kernel) rfl rfl (by decide +kernel) eX2_monthsApart qX2_monthsApart (fun p e s m args below meth c Q hx hb hml hown hts hKn => by
    have h2 : ∀ w ∈ gT, w.before args s = true := fun w hw => hts w (List.mem_cons_of_mem _ hw)
    exact ⟨hx, hb, zD_all h2 hKn.1, zArN hKn, zf_clause h2 hown hKn.1 gfX2_ok (by decide +kernel), fun i n h => (by obtain ⟨x, h3, h4⟩ := ciX2_ok i n h; exact ⟨_, x, hown, h2 _ h3, h4⟩), fun i n h => (by obtain ⟨x, h3, h4⟩ := clX2_ok i n h; exact ⟨_, x, hown, h2 _ h3, h4⟩), (zgs_n), 
      zct_c (zr_S (idx := 70) hx hb hml hown hts hKn zKb (mX2_monthNumber l D cA ro sz H0) ⟨rfl, rfl⟩ ⟨by decide, by decide⟩ ⟨Nat.zero_le _, Nat.zero_le _⟩ (tb_3 35 rfl rfl) (tb_1 13 rfl rfl) (tb_3 33 rfl rfl) (tb_3 34 rfl rfl) (by decide +kernel) rfl) (
      zct_c (zr_S (idx := 75) hx hb hml hown hts hKn zKb (mJ9_floorDiv_f86c9 l D cA ro sz H0) ⟨rfl, rfl⟩ ⟨by decide, by decide⟩ ⟨Nat.zero_le _, Nat.zero_le _⟩ (tb_3 39 rfl rfl) (tb_1 18 rfl rfl) (tb_3 37 rfl rfl) (tb_3 38 rfl rfl) (by decide +kernel) rfl) (zct_n))⟩)
def tX2_daysApart : List (Nat × Instr × Nat) := [(0, .lload_n 0, 1), (1, .ldc2_w 98, 3), (4, .invokestatic 75, 3), (7, .lstore 5, 2), (9, .lload 5, 2), (11, .iload_n 2, 1), (12, .invokestatic 100, 3), (15, .lstore 7, 2), (17, .lload 7, 2), (19, .ldc2_w 68, 3), (22, .lcmp, 1), (23, .ifCond .ne 5, 3), (26, .iconst 0, 1), (27, .ireturn, 1), (28, .lload_n 3, 1), (29, .lload_n 0, 1), (30, .lload 5, 2), (32, .ldc2_w 98, 3), (35, .lmul, 1), (36, .lsub, 1), (37, .lsub, 1), (38, .lload 7, 2), (40, .ldc2_w 98, 3), (43, .lmul, 1), (44, .lsub, 1), (45, .lstore 9, 2), (47, .lload 9, 2), (49, .ldc2_w 98, 3), (52, .invokestatic 75, 3), (55, .l2i, 1), (56, .ireturn, 1)]
set_option maxRecDepth 100000 in
theorem eX2_daysApart : ∀ x ∈ tX2_daysApart, decode cX2_daysApart x.1 = .ok x.2 := by decide +kernel
def kX2_daysApart : zc_C := ([(1, (-9223372036854775808), 9223372036854775807), (0, (-2147483648), 2147483647), (1, (-9223372036854775808), 9223372036854775807)], [], [], [], [], [(some (0, (-2147483648), 2147483647), [], [])])
def pX2_daysApart : List zp_P := []
def KX2_daysApart : zk_K := (11, RTg, gfX2, ciX2, clX2, [], [(300, kJ9_floorDiv_f86c9), (400, kX2_monthsLater)], [], [])
set_option maxRecDepth 100000 in
theorem qX2_daysApart : zy_ck KX2_daysApart tX2_daysApart pX2_daysApart kX2_daysApart 1 1 4000 = true := by decide +kernel
set_option maxRecDepth 100000 in
theorem mX2_daysApart (l : Launch) (D : va_G) (cA : Nat → ClassId) (ro : Nat → Option Nat) (sz : Nat) (H0 : Heap) : zy_M l D cA RTg ro sz H0 (zKn D cA ro sz H0) yX2_daysApart (gW yX2_daysApart cX2_daysApart 11 (some .int)) { frames := 5, cells := 0, slots := 0, locals := 118 } kX2_daysApart :=
  zy_met (zn := "MomentTexts$Zone") (K := KX2_daysApart) (tb := tX2_daysApart) (pts := pX2_daysApart) (rc := 1) (N := 1) (fuel := 4000) (by decide +kernel) rfl rfl (by decide +kernel) rfl rfl (by decide +kernel) eX2_daysApart qX2_daysApart (fun p e s m args below meth c Q hx hb hml hown hts hKn => by
    have h2 : ∀ w ∈ gT, w.before args s = true := fun w hw => hts w (List.mem_cons_of_mem _ hw)
    exact ⟨hx, hb, zD_all h2 hKn.1, zArN hKn, zf_clause h2 hown hKn.1 gfX2_ok (by decide +kernel), fun i n h => (by obtain ⟨x, h3, h4⟩ := ciX2_ok i n h; exact ⟨_, x, hown, h2 _ h3, h4⟩), fun i n h => (by obtain ⟨x, h3, h4⟩ := clX2_ok i n h; exact ⟨_, x, hown, h2 _ h3, h4⟩), (zgs_n), 
      zct_c (zr_S (idx := 75) hx hb hml hown hts hKn zKb (mJ9_floorDiv_f86c9 l D cA ro sz H0) ⟨rfl, rfl⟩ ⟨by decide, by decide⟩ ⟨Nat.zero_le _, Nat.zero_le _⟩ (tb_3 39 rfl rfl) (tb_1 18 rfl rfl) (tb_3 37 rfl rfl) (tb_3 38 rfl rfl) (by decide +kernel) rfl) (
      zct_c (zr_S (idx := 100) hx hb hml hown hts hKn zKb (mX2_monthsLater l D cA ro sz H0) ⟨rfl, rfl⟩ ⟨by decide, by decide⟩ ⟨Nat.zero_le _, Nat.zero_le _⟩ (tb_3 30 rfl rfl) (tb_1 13 rfl rfl) (tb_6 125 rfl rfl) (tb_3 29 rfl rfl) (by decide +kernel) rfl) (zct_n))⟩)
def tX2_thursdayOf : List (Nat × Instr × Nat) := [(0, .lload_n 0, 1), (1, .lload_n 0, 1), (2, .invokestatic 108, 3), (5, .i2l, 1), (6, .lsub, 1), (7, .ldc2_w 35, 3), (10, .ladd, 1), (11, .lreturn, 1)]
set_option maxRecDepth 100000 in
theorem eX2_thursdayOf : ∀ x ∈ tX2_thursdayOf, decode cX2_thursdayOf x.1 = .ok x.2 := by decide +kernel
def kX2_thursdayOf : zc_C := ([(1, (-9223372036854775808), 9223372036854775807)], [], [], [], [], [(some (1, (-9223372036854775808), 9223372036854775807), [], [])])
def pX2_thursdayOf : List zp_P := []
def KX2_thursdayOf : zk_K := (2, RTg, gfX2, ciX2, clX2, [], [(432, kX2_weekdayOf)], [], [])
set_option maxRecDepth 100000 in
theorem qX2_thursdayOf : zy_ck KX2_thursdayOf tX2_thursdayOf pX2_thursdayOf kX2_thursdayOf 2 1 4000 = true := by decide +kernel
set_option maxRecDepth 100000 in
theorem mX2_thursdayOf (l : Launch) (D : va_G) (cA : Nat → ClassId) (ro : Nat → Option Nat) (sz : Nat) (H0 : Heap) : zy_M l D cA RTg ro sz H0 (zKn D cA ro sz H0) yX2_thursdayOf (gW yX2_thursdayOf cX2_thursdayOf 2 (some .long)) { frames := 1, cells := 0, slots := 0, locals := 21 } kX2_thursdayOf :=
  zy_met (zn := "MomentTexts$Zone") (K := KX2_thursdayOf) (tb := tX2_thursdayOf) (pts := pX2_thursdayOf) (rc := 2) (N := 1) (fuel := 4000) (by decide +kernel) rfl rfl (by decide +kernel) rfl rfl (by decide +kernel) eX2_thursdayOf qX2_thursdayOf (fun p e s m args below meth c Q hx hb hml hown hts hKn => by
    have h2 : ∀ w ∈ gT, w.before args s = true := fun w hw => hts w (List.mem_cons_of_mem _ hw)
    exact ⟨hx, hb, zD_all h2 hKn.1, zArN hKn, zf_clause h2 hown hKn.1 gfX2_ok (by decide +kernel), fun i n h => (by obtain ⟨x, h3, h4⟩ := ciX2_ok i n h; exact ⟨_, x, hown, h2 _ h3, h4⟩), fun i n h => (by obtain ⟨x, h3, h4⟩ := clX2_ok i n h; exact ⟨_, x, hown, h2 _ h3, h4⟩), (zgs_n), 
      zct_c (zr_S (idx := 108) hx hb hml hown hts hKn zKb (mX2_weekdayOf l D cA ro sz H0) ⟨rfl, rfl⟩ ⟨by decide, by decide⟩ ⟨Nat.zero_le _, Nat.zero_le _⟩ (tb_2 231 rfl rfl) (tb_1 13 rfl rfl) (tb_3 1 rfl rfl) (tb_2 230 rfl rfl) (by decide +kernel) rfl) (zct_n)⟩)
def tX2_weekYearOf : List (Nat × Instr × Nat) := [(0, .lload_n 0, 1), (1, .invokestatic 111, 3), (4, .invokestatic 53, 3), (7, .ireturn, 1)]
set_option maxRecDepth 100000 in
theorem eX2_weekYearOf : ∀ x ∈ tX2_weekYearOf, decode cX2_weekYearOf x.1 = .ok x.2 := by decide +kernel
def kX2_weekYearOf : zc_C := ([(1, (-9223372036854775808), 9223372036854775807)], [], [], [], [], [(some (0, (-2147483648), 2147483647), [], [])])
def pX2_weekYearOf : List zp_P := []
def KX2_weekYearOf : zk_K := (2, RTg, gfX2, ciX2, clX2, [], [(212, kX2_yearOf), (444, kX2_thursdayOf)], [], [])
set_option maxRecDepth 100000 in
theorem qX2_weekYearOf : zy_ck KX2_weekYearOf tX2_weekYearOf pX2_weekYearOf kX2_weekYearOf 1 1 4000 = true := by decide +kernel
set_option maxRecDepth 100000 in
theorem mX2_weekYearOf (l : Launch) (D : va_G) (cA : Nat → ClassId) (ro : Nat → Option Nat) (sz : Nat) (H0 : Heap) : zy_M l D cA RTg ro sz H0 (zKn D cA ro sz H0) yX2_weekYearOf (gW yX2_weekYearOf cX2_weekYearOf 2 (some .int)) { frames := 2, cells := 0, slots := 0, locals := 44 } kX2_weekYearOf :=
  zy_met (zn := "MomentTexts$Zone") (K := KX2_weekYearOf) (tb := tX2_weekYearOf) (pts := pX2_weekYearOf) (rc := 1) (N := 1) (fuel := 4000) (by decide +kernel) rfl rfl (by decide +kernel) rfl rfl (by decide +kernel) eX2_weekYearOf qX2_weekYearOf (fun p e s m args below meth c Q hx hb hml hown hts hKn => by
    have h2 : ∀ w ∈ gT, w.before args s = true := fun w hw => hts w (List.mem_cons_of_mem _ hw)
    exact ⟨hx, hb, zD_all h2 hKn.1, zArN hKn, zf_clause h2 hown hKn.1 gfX2_ok (by decide +kernel), fun i n h => (by obtain ⟨x, h3, h4⟩ := ciX2_ok i n h; exact ⟨_, x, hown, h2 _ h3, h4⟩), fun i n h => (by obtain ⟨x, h3, h4⟩ := clX2_ok i n h; exact ⟨_, x, hown, h2 _ h3, h4⟩), (zgs_n), 
      zct_c (zr_S (idx := 53) hx hb hml hown hts hKn zKb (mX2_yearOf l D cA ro sz H0) ⟨rfl, rfl⟩ ⟨by decide, by decide⟩ ⟨Nat.zero_le _, Nat.zero_le _⟩ (tb_2 218 rfl rfl) (tb_1 13 rfl rfl) (tb_2 223 rfl rfl) (tb_2 217 rfl rfl) (by decide +kernel) rfl) (
      zct_c (zr_S (idx := 111) hx hb hml hown hts hKn zKb (mX2_thursdayOf l D cA ro sz H0) ⟨rfl, rfl⟩ ⟨by decide, by decide⟩ ⟨Nat.zero_le _, Nat.zero_le _⟩ (tb_3 0 rfl rfl) (tb_1 13 rfl rfl) (tb_2 238 rfl rfl) (tb_2 239 rfl rfl) (by decide +kernel) rfl) (zct_n))⟩)
def tX2_weekOf : List (Nat × Instr × Nat) := [(0, .lload_n 0, 1), (1, .invokestatic 111, 3), (4, .lstore_n 2, 1), (5, .lload_n 2, 1), (6, .lload_n 2, 1), (7, .invokestatic 53, 3), (10, .invokestatic 49, 3), (13, .lsub, 1), (14, .l2i, 1), (15, .bipush 7, 2), (17, .idiv, 1), (18, .iconst 1, 1), (19, .iadd, 1), (20, .ireturn, 1)]
set_option maxRecDepth 100000 in
theorem eX2_weekOf : ∀ x ∈ tX2_weekOf, decode cX2_weekOf x.1 = .ok x.2 := by decide +kernel
def kX2_weekOf : zc_C := ([(1, (-9223372036854775808), 9223372036854775807)], [], [], [], [], [(some (0, (-2147483648), 2147483647), [], [])])
def pX2_weekOf : List zp_P := []
def KX2_weekOf : zk_K := (4, RTg, gfX2, ciX2, clX2, [], [(196, kX2_yearStart), (212, kX2_yearOf), (444, kX2_thursdayOf)], [], [])
set_option maxRecDepth 100000 in
theorem qX2_weekOf : zy_ck KX2_weekOf tX2_weekOf pX2_weekOf kX2_weekOf 1 1 4000 = true := by decide +kernel
set_option maxRecDepth 100000 in
theorem mX2_weekOf (l : Launch) (D : va_G) (cA : Nat → ClassId) (ro : Nat → Option Nat) (sz : Nat) (H0 : Heap) : zy_M l D cA RTg ro sz H0 (zKn D cA ro sz H0) yX2_weekOf (gW yX2_weekOf cX2_weekOf 4 (some .int)) { frames := 2, cells := 0, slots := 0, locals := 44 } kX2_weekOf :=
  zy_met (zn := "MomentTexts$Zone") (K := KX2_weekOf) (tb := tX2_weekOf) (pts := pX2_weekOf) (rc := 1) (N := 1) (fuel := 4000) (by decide +kernel) rfl rfl (by decide +kernel) rfl rfl (by decide +kernel) eX2_weekOf qX2_weekOf (fun p e s m args below meth c Q hx hb hml hown hts hKn => by
    have h2 : ∀ w ∈ gT, w.before args s = true := fun w hw => hts w (List.mem_cons_of_mem _ hw)
    exact ⟨hx, hb, zD_all h2 hKn.1, zArN hKn, zf_clause h2 hown hKn.1 gfX2_ok (by decide +kernel), fun i n h => (by obtain ⟨x, h3, h4⟩ := ciX2_ok i n h; exact ⟨_, x, hown, h2 _ h3, h4⟩), fun i n h => (by obtain ⟨x, h3, h4⟩ := clX2_ok i n h; exact ⟨_, x, hown, h2 _ h3, h4⟩), (zgs_n), 
      zct_c (zr_S (idx := 49) hx hb hml hown hts hKn zKb (mX2_yearStart l D cA ro sz H0) ⟨rfl, rfl⟩ ⟨by decide, by decide⟩ ⟨Nat.zero_le _, Nat.zero_le _⟩ (tb_2 193 rfl rfl) (tb_1 13 rfl rfl) (tb_2 191 rfl rfl) (tb_2 192 rfl rfl) (by decide +kernel) rfl) (
      zct_c (zr_S (idx := 53) hx hb hml hown hts hKn zKb (mX2_yearOf l D cA ro sz H0) ⟨rfl, rfl⟩ ⟨by decide, by decide⟩ ⟨Nat.zero_le _, Nat.zero_le _⟩ (tb_2 218 rfl rfl) (tb_1 13 rfl rfl) (tb_2 223 rfl rfl) (tb_2 217 rfl rfl) (by decide +kernel) rfl) (
      zct_c (zr_S (idx := 111) hx hb hml hown hts hKn zKb (mX2_thursdayOf l D cA ro sz H0) ⟨rfl, rfl⟩ ⟨by decide, by decide⟩ ⟨Nat.zero_le _, Nat.zero_le _⟩ (tb_3 0 rfl rfl) (tb_1 13 rfl rfl) (tb_2 238 rfl rfl) (tb_2 239 rfl rfl) (by decide +kernel) rfl) (zct_n)))⟩)
def tX2_easterOf : List (Nat × Instr × Nat) := [(0, .iload_n 0, 1), (1, .bipush 19, 2), (3, .irem, 1), (4, .istore_n 1, 1), (5, .iload_n 0, 1), (6, .bipush 100, 2), (8, .idiv, 1), (9, .istore_n 2, 1), (10, .iload_n 2, 1), (11, .iconst 4, 1), (12, .idiv, 1), (13, .istore_n 3, 1), (14, .iload_n 2, 1), (15, .iload_n 2, 1), (16, .bipush 8, 2), (18, .iadd, 1), (19, .bipush 25, 2), (21, .idiv, 1), (22, .isub, 1), (23, .iconst 1, 1), (24, .iadd, 1), (25, .iconst 3, 1), (26, .idiv, 1), (27, .istore 4, 2), (29, .bipush 19, 2), (31, .iload_n 1, 1), (32, .imul, 1), (33, .iload_n 2, 1), (34, .iadd, 1), (35, .iload_n 3, 1), (36, .isub, 1), (37, .iload 4, 2), (39, .isub, 1), (40, .bipush 15, 2), (42, .iadd, 1), (43, .bipush 30, 2), (45, .irem, 1), (46, .istore 5, 2), (48, .iload_n 0, 1), (49, .bipush 100, 2), (51, .irem, 1), (52, .istore 6, 2), (54, .bipush 32, 2), (56, .iconst 2, 1), (57, .iload_n 2, 1), (58, .iconst 4, 1), (59, .irem, 1), (60, .imul, 1), (61, .iadd, 1), (62, .iconst 2, 1), (63, .iload 6, 2), (65, .iconst 4, 1), (66, .idiv, 1), (67, .imul, 1), (68, .iadd, 1), (69, .iload 5, 2), (71, .isub, 1), (72, .iload 6, 2), (74, .iconst 4, 1), (75, .irem, 1), (76, .isub, 1), (77, .bipush 7, 2), (79, .irem, 1), (80, .istore 7, 2), (82, .iload_n 1, 1), (83, .bipush 11, 2), (85, .iload 5, 2), (87, .imul, 1), (88, .iadd, 1), (89, .bipush 22, 2), (91, .iload 7, 2), (93, .imul, 1), (94, .iadd, 1), (95, .sipush 451, 3), (98, .idiv, 1), (99, .istore 8, 2), (101, .iload 5, 2), (103, .iload 7, 2), (105, .iadd, 1), (106, .bipush 7, 2), (108, .iload 8, 2), (110, .imul, 1), (111, .isub, 1), (112, .bipush 114, 2), (114, .iadd, 1), (115, .istore 9, 2), (117, .iload_n 0, 1), (118, .iload 9, 2), (120, .bipush 31, 2), (122, .idiv, 1), (123, .iload 9, 2), (125, .bipush 31, 2), (127, .irem, 1), (128, .iconst 1, 1), (129, .iadd, 1), (130, .invokestatic 57, 3), (133, .lreturn, 1)]
set_option maxRecDepth 100000 in
theorem eX2_easterOf : ∀ x ∈ tX2_easterOf, decode cX2_easterOf x.1 = .ok x.2 := by decide +kernel
def kX2_easterOf : zc_C := ([(0, (-2147483648), 2147483647)], [], [], [], [], [(some (1, (-9223372036854775808), 9223372036854775807), [], [])])
def pX2_easterOf : List zp_P := []
def KX2_easterOf : zk_K := (10, RTg, gfX2, ciX2, clX2, [], [(228, kX2_numberOf)], [], [])
set_option maxRecDepth 100000 in
theorem qX2_easterOf : zy_ck KX2_easterOf tX2_easterOf pX2_easterOf kX2_easterOf 2 1 4000 = true := by decide +kernel
set_option maxRecDepth 100000 in
theorem mX2_easterOf (l : Launch) (D : va_G) (cA : Nat → ClassId) (ro : Nat → Option Nat) (sz : Nat) (H0 : Heap) : zy_M l D cA RTg ro sz H0 (zKn D cA ro sz H0) yX2_easterOf (gW yX2_easterOf cX2_easterOf 10 (some .long)) { frames := 2, cells := 0, slots := 0, locals := 46 } kX2_easterOf :=
  zy_met (zn := "MomentTexts$Zone") (K := KX2_easterOf) (tb := tX2_easterOf) (pts := pX2_easterOf) (rc := 2) (N := 1) (fuel := 4000) (by decide +kernel) rfl rfl (by decide +kernel) rfl rfl (by decide +kernel) eX2_easterOf qX2_easterOf (fun p e s m args below meth c Q hx hb hml hown hts hKn => by
    have h2 : ∀ w ∈ gT, w.before args s = true := fun w hw => hts w (List.mem_cons_of_mem _ hw)
    exact ⟨hx, hb, zD_all h2 hKn.1, zArN hKn, zf_clause h2 hown hKn.1 gfX2_ok (by decide +kernel), fun i n h => (by obtain ⟨x, h3, h4⟩ := ciX2_ok i n h; exact ⟨_, x, hown, h2 _ h3, h4⟩), fun i n h => (by obtain ⟨x, h3, h4⟩ := clX2_ok i n h; exact ⟨_, x, hown, h2 _ h3, h4⟩), (zgs_n), 
      zct_c (zr_S (idx := 57) hx hb hml hown hts hKn zKb (mX2_numberOf l D cA ro sz H0) ⟨rfl, rfl⟩ ⟨by decide, by decide⟩ ⟨Nat.zero_le _, Nat.zero_le _⟩ (tb_2 190 rfl rfl) (tb_1 13 rfl rfl) (tb_2 224 rfl rfl) (tb_2 189 rfl rfl) (by decide +kernel) rfl) (zct_n)⟩)
