def tX2_yearStart : List (Nat × Instr × Nat) := [(0, .iload_n 0, 1), (1, .i2l, 1), (2, .ldc2_w 29, 3), (5, .ladd, 1), (6, .lstore_n 1, 1), (7, .ldc2_w 31, 3), (10, .lload_n 1, 1), (11, .lmul, 1), (12, .lload_n 1, 1), (13, .ldc2_w 33, 3), (16, .ladd, 1), (17, .ldc2_w 35, 3), (20, .ldiv, 1), (21, .ladd, 1), (22, .lload_n 1, 1), (23, .ldc2_w 37, 3), (26, .ladd, 1), (27, .ldc2_w 39, 3), (30, .ldiv, 1), (31, .lsub, 1), (32, .lload_n 1, 1), (33, .ldc2_w 41, 3), (36, .ladd, 1), (37, .ldc2_w 43, 3), (40, .ldiv, 1), (41, .ladd, 1), (42, .ldc2_w 45, 3), (45, .lsub, 1), (46, .lreturn, 1)]
set_option maxRecDepth 100000 in
theorem eX2_yearStart : ∀ x ∈ tX2_yearStart, decode cX2_yearStart x.1 = .ok x.2 := by decide +kernel
def kX2_yearStart : zc_C := ([(0, (-2147483648), 2147483647)], [], [], [], [], [(some (1, (-9223372036854775808), 9223372036854775807), [], [])])
def pX2_yearStart : List zp_P := []
def KX2_yearStart : zk_K := (3, RTg, gfX2, ciX2, clX2, [], [], [], [])
set_option maxRecDepth 100000 in
theorem qX2_yearStart : zy_ck KX2_yearStart tX2_yearStart pX2_yearStart kX2_yearStart 2 1 1000 = true := by decide +kernel
set_option maxRecDepth 100000 in
theorem mX2_yearStart (l : Launch) (D : va_G) (cA : Nat → ClassId) (ro : Nat → Option Nat) (sz : Nat) (H0 : Heap) : zy_M l D cA RTg ro sz H0 (zKn D cA) yX2_yearStart (gW yX2_yearStart cX2_yearStart 3 (some .long)) { frames := 0, cells := 0, slots := 0, locals := 0 } kX2_yearStart :=
  zy_met (zn := "MomentTexts$Zone") (K := KX2_yearStart) (tb := tX2_yearStart) (pts := pX2_yearStart) (rc := 2) (N := 1) (fuel := 1000) (by decide +kernel) rfl rfl (by decide +kernel) rfl rfl (by decide +kernel) eX2_yearStart qX2_yearStart (fun p e s m args below meth c Q hx hb hml hown hts hKn => by
    have h2 : ∀ w ∈ gT, w.before args s = true := fun w hw => hts w (List.mem_cons_of_mem _ hw)
    exact ⟨hx, hb, zD_all h2 hKn, zAr hKn, zf_clause h2 hown hKn gfX2_ok (by decide +kernel), fun i n h => (by obtain ⟨x, h3, h4⟩ := ciX2_ok i n h; exact ⟨_, x, hown, h2 _ h3, h4⟩), fun i n h => (by obtain ⟨x, h3, h4⟩ := clX2_ok i n h; exact ⟨_, x, hown, h2 _ h3, h4⟩), (fun _ _ h => (nomatch h)), zct_n⟩)
def tX2_weekdayOf : List (Nat × Instr × Nat) := [(0, .lload_n 0, 1), (1, .ldc2_w 104, 3), (4, .ladd, 1), (5, .ldc2_w 33, 3), (8, .ladd, 1), (9, .ldc2_w 106, 3), (12, .lrem, 1), (13, .l2i, 1), (14, .iconst 1, 1), (15, .iadd, 1), (16, .ireturn, 1)]
set_option maxRecDepth 100000 in
theorem eX2_weekdayOf : ∀ x ∈ tX2_weekdayOf, decode cX2_weekdayOf x.1 = .ok x.2 := by decide +kernel
def kX2_weekdayOf : zc_C := ([(1, (-9223372036854775808), 9223372036854775807)], [], [], [], [], [(some (0, (-2147483648), 2147483647), [], [])])
def pX2_weekdayOf : List zp_P := []
def KX2_weekdayOf : zk_K := (2, RTg, gfX2, ciX2, clX2, [], [], [], [])
set_option maxRecDepth 100000 in
theorem qX2_weekdayOf : zy_ck KX2_weekdayOf tX2_weekdayOf pX2_weekdayOf kX2_weekdayOf 1 1 1000 = true := by decide +kernel
set_option maxRecDepth 100000 in
theorem mX2_weekdayOf (l : Launch) (D : va_G) (cA : Nat → ClassId) (ro : Nat → Option Nat) (sz : Nat) (H0 : Heap) : zy_M l D cA RTg ro sz H0 (zKn D cA) yX2_weekdayOf (gW yX2_weekdayOf cX2_weekdayOf 2 (some .int)) { frames := 0, cells := 0, slots := 0, locals := 0 } kX2_weekdayOf :=
  zy_met (zn := "MomentTexts$Zone") (K := KX2_weekdayOf) (tb := tX2_weekdayOf) (pts := pX2_weekdayOf) (rc := 1) (N := 1) (fuel := 1000) (by decide +kernel) rfl rfl (by decide +kernel) rfl rfl (by decide +kernel) eX2_weekdayOf qX2_weekdayOf (fun p e s m args below meth c Q hx hb hml hown hts hKn => by
    have h2 : ∀ w ∈ gT, w.before args s = true := fun w hw => hts w (List.mem_cons_of_mem _ hw)
    exact ⟨hx, hb, zD_all h2 hKn, zAr hKn, zf_clause h2 hown hKn gfX2_ok (by decide +kernel), fun i n h => (by obtain ⟨x, h3, h4⟩ := ciX2_ok i n h; exact ⟨_, x, hown, h2 _ h3, h4⟩), fun i n h => (by obtain ⟨x, h3, h4⟩ := clX2_ok i n h; exact ⟨_, x, hown, h2 _ h3, h4⟩), (fun _ _ h => (nomatch h)), zct_n⟩)
def tX2_isLeapYear : List (Nat × Instr × Nat) := [(0, .iload_n 0, 1), (1, .iconst 4, 1), (2, .irem, 1), (3, .ifCond .ne 22, 3), (6, .iload_n 0, 1), (7, .bipush 100, 2), (9, .irem, 1), (10, .ifCond .ne 11, 3), (13, .iload_n 0, 1), (14, .sipush 400, 3), (17, .irem, 1), (18, .ifCond .ne 7, 3), (21, .iconst 1, 1), (22, .goto 4, 3), (25, .iconst 0, 1), (26, .ireturn, 1)]
set_option maxRecDepth 100000 in
theorem eX2_isLeapYear : ∀ x ∈ tX2_isLeapYear, decode cX2_isLeapYear x.1 = .ok x.2 := by decide +kernel
def kX2_isLeapYear : zc_C := ([(0, (-2147483648), 2147483647)], [], [], [], [], [(some (0, 0, 1), [], [])])
def pX2_isLeapYear : List zp_P := []
def KX2_isLeapYear : zk_K := (1, RTg, gfX2, ciX2, clX2, [], [], [], [])
set_option maxRecDepth 100000 in
theorem qX2_isLeapYear : zy_ck KX2_isLeapYear tX2_isLeapYear pX2_isLeapYear kX2_isLeapYear 1 1 1000 = true := by decide +kernel
set_option maxRecDepth 100000 in
theorem mX2_isLeapYear (l : Launch) (D : va_G) (cA : Nat → ClassId) (ro : Nat → Option Nat) (sz : Nat) (H0 : Heap) : zy_M l D cA RTg ro sz H0 (zKn D cA) yX2_isLeapYear (gW yX2_isLeapYear cX2_isLeapYear 1 (some .boolean)) { frames := 0, cells := 0, slots := 0, locals := 0 } kX2_isLeapYear :=
  zy_met (zn := "MomentTexts$Zone") (K := KX2_isLeapYear) (tb := tX2_isLeapYear) (pts := pX2_isLeapYear) (rc := 1) (N := 1) (fuel := 1000) (by decide +kernel) rfl rfl (by decide +kernel) rfl rfl (by decide +kernel) eX2_isLeapYear qX2_isLeapYear (fun p e s m args below meth c Q hx hb hml hown hts hKn => by
    have h2 : ∀ w ∈ gT, w.before args s = true := fun w hw => hts w (List.mem_cons_of_mem _ hw)
    exact ⟨hx, hb, zD_all h2 hKn, zAr hKn, zf_clause h2 hown hKn gfX2_ok (by decide +kernel), fun i n h => (by obtain ⟨x, h3, h4⟩ := ciX2_ok i n h; exact ⟨_, x, hown, h2 _ h3, h4⟩), fun i n h => (by obtain ⟨x, h3, h4⟩ := clX2_ok i n h; exact ⟨_, x, hown, h2 _ h3, h4⟩), (fun _ _ h => (nomatch h)), zct_n⟩)
def tX2_weeksOf : List (Nat × Instr × Nat) := [(0, .iload_n 0, 1), (1, .invokestatic 49, 3), (4, .invokestatic 108, 3), (7, .istore_n 1, 1), (8, .iload_n 1, 1), (9, .iconst 4, 1), (10, .if_icmp .eq 15, 3), (13, .iload_n 1, 1), (14, .iconst 3, 1), (15, .if_icmp .ne 15, 3), (18, .iload_n 0, 1), (19, .invokestatic 21, 3), (22, .ifCond .eq 8, 3), (25, .bipush 53, 2), (27, .goto 5, 3), (30, .bipush 52, 2), (32, .ireturn, 1)]
set_option maxRecDepth 100000 in
theorem eX2_weeksOf : ∀ x ∈ tX2_weeksOf, decode cX2_weeksOf x.1 = .ok x.2 := by decide +kernel
def kX2_weeksOf : zc_C := ([(0, (-2147483648), 2147483647)], [], [], [], [], [(some (0, (-2147483648), 2147483647), [], [])])
def pX2_weeksOf : List zp_P := []
def KX2_weeksOf : zk_K := (2, RTg, gfX2, ciX2, clX2, [], [(84, kX2_isLeapYear), (196, kX2_yearStart), (432, kX2_weekdayOf)], [], [])
set_option maxRecDepth 100000 in
theorem qX2_weeksOf : zy_ck KX2_weeksOf tX2_weeksOf pX2_weeksOf kX2_weeksOf 1 1 1000 = true := by decide +kernel
set_option maxRecDepth 100000 in
theorem mX2_weeksOf (l : Launch) (D : va_G) (cA : Nat → ClassId) (ro : Nat → Option Nat) (sz : Nat) (H0 : Heap) : zy_M l D cA RTg ro sz H0 (zKn D cA) yX2_weeksOf (gW yX2_weeksOf cX2_weeksOf 2 (some .int)) { frames := 1, cells := 0, slots := 0, locals := 22 } kX2_weeksOf :=
  zy_met (zn := "MomentTexts$Zone") (K := KX2_weeksOf) (tb := tX2_weeksOf) (pts := pX2_weeksOf) (rc := 1) (N := 1) (fuel := 1000) (by decide +kernel) rfl rfl (by decide +kernel) rfl rfl (by decide +kernel) eX2_weeksOf qX2_weeksOf (fun p e s m args below meth c Q hx hb hml hown hts hKn => by
    have h2 : ∀ w ∈ gT, w.before args s = true := fun w hw => hts w (List.mem_cons_of_mem _ hw)
    exact ⟨hx, hb, zD_all h2 hKn, zAr hKn, zf_clause h2 hown hKn gfX2_ok (by decide +kernel), fun i n h => (by obtain ⟨x, h3, h4⟩ := ciX2_ok i n h; exact ⟨_, x, hown, h2 _ h3, h4⟩), fun i n h => (by obtain ⟨x, h3, h4⟩ := clX2_ok i n h; exact ⟨_, x, hown, h2 _ h3, h4⟩), (fun _ _ h => (nomatch h)), 
      zct_c (zr_S (idx := 21) hx hb hml hown hts hKn zKb (mX2_isLeapYear l D cA ro sz H0) ⟨rfl, rfl⟩ ⟨by decide, by decide⟩ ⟨Nat.zero_le _, Nat.zero_le _⟩ (tb_2 120 rfl rfl) (tb_1 13 rfl rfl) (tb_2 118 rfl rfl) (tb_2 119 rfl rfl) (by decide +kernel) rfl) (
      zct_c (zr_S (idx := 49) hx hb hml hown hts hKn zKb (mX2_yearStart l D cA ro sz H0) ⟨rfl, rfl⟩ ⟨by decide, by decide⟩ ⟨Nat.zero_le _, Nat.zero_le _⟩ (tb_2 193 rfl rfl) (tb_1 13 rfl rfl) (tb_2 191 rfl rfl) (tb_2 192 rfl rfl) (by decide +kernel) rfl) (
      zct_c (zr_S (idx := 108) hx hb hml hown hts hKn zKb (mX2_weekdayOf l D cA ro sz H0) ⟨rfl, rfl⟩ ⟨by decide, by decide⟩ ⟨Nat.zero_le _, Nat.zero_le _⟩ (tb_2 231 rfl rfl) (tb_1 13 rfl rfl) (tb_3 1 rfl rfl) (tb_2 230 rfl rfl) (by decide +kernel) rfl) (zct_n)))⟩)
def tX2_weekStart : List (Nat × Instr × Nat) := [(0, .iload_n 0, 1), (1, .invokestatic 49, 3), (4, .ldc2_w 33, 3), (7, .ladd, 1), (8, .lstore_n 2, 1), (9, .lload_n 2, 1), (10, .lload_n 2, 1), (11, .invokestatic 108, 3), (14, .i2l, 1), (15, .lsub, 1), (16, .lconst 1, 1), (17, .ladd, 1), (18, .ldc2_w 106, 3), (21, .iload_n 1, 1), (22, .iconst 1, 1), (23, .isub, 1), (24, .i2l, 1), (25, .lmul, 1), (26, .ladd, 1), (27, .lreturn, 1)]
set_option maxRecDepth 100000 in
theorem eX2_weekStart : ∀ x ∈ tX2_weekStart, decode cX2_weekStart x.1 = .ok x.2 := by decide +kernel
def kX2_weekStart : zc_C := ([(0, (-2147483648), 2147483647), (0, (-2147483648), 2147483647)], [], [], [], [], [(some (1, (-9223372036854775808), 9223372036854775807), [], [])])
def pX2_weekStart : List zp_P := []
def KX2_weekStart : zk_K := (4, RTg, gfX2, ciX2, clX2, [], [(196, kX2_yearStart), (432, kX2_weekdayOf)], [], [])
set_option maxRecDepth 100000 in
theorem qX2_weekStart : zy_ck KX2_weekStart tX2_weekStart pX2_weekStart kX2_weekStart 2 1 1000 = true := by decide +kernel
set_option maxRecDepth 100000 in
theorem mX2_weekStart (l : Launch) (D : va_G) (cA : Nat → ClassId) (ro : Nat → Option Nat) (sz : Nat) (H0 : Heap) : zy_M l D cA RTg ro sz H0 (zKn D cA) yX2_weekStart (gW yX2_weekStart cX2_weekStart 4 (some .long)) { frames := 1, cells := 0, slots := 0, locals := 22 } kX2_weekStart :=
  zy_met (zn := "MomentTexts$Zone") (K := KX2_weekStart) (tb := tX2_weekStart) (pts := pX2_weekStart) (rc := 2) (N := 1) (fuel := 1000) (by decide +kernel) rfl rfl (by decide +kernel) rfl rfl (by decide +kernel) eX2_weekStart qX2_weekStart (fun p e s m args below meth c Q hx hb hml hown hts hKn => by
    have h2 : ∀ w ∈ gT, w.before args s = true := fun w hw => hts w (List.mem_cons_of_mem _ hw)
    exact ⟨hx, hb, zD_all h2 hKn, zAr hKn, zf_clause h2 hown hKn gfX2_ok (by decide +kernel), fun i n h => (by obtain ⟨x, h3, h4⟩ := ciX2_ok i n h; exact ⟨_, x, hown, h2 _ h3, h4⟩), fun i n h => (by obtain ⟨x, h3, h4⟩ := clX2_ok i n h; exact ⟨_, x, hown, h2 _ h3, h4⟩), (fun _ _ h => (nomatch h)), 
      zct_c (zr_S (idx := 49) hx hb hml hown hts hKn zKb (mX2_yearStart l D cA ro sz H0) ⟨rfl, rfl⟩ ⟨by decide, by decide⟩ ⟨Nat.zero_le _, Nat.zero_le _⟩ (tb_2 193 rfl rfl) (tb_1 13 rfl rfl) (tb_2 191 rfl rfl) (tb_2 192 rfl rfl) (by decide +kernel) rfl) (
      zct_c (zr_S (idx := 108) hx hb hml hown hts hKn zKb (mX2_weekdayOf l D cA ro sz H0) ⟨rfl, rfl⟩ ⟨by decide, by decide⟩ ⟨Nat.zero_le _, Nat.zero_le _⟩ (tb_2 231 rfl rfl) (tb_1 13 rfl rfl) (tb_3 1 rfl rfl) (tb_2 230 rfl rfl) (by decide +kernel) rfl) (zct_n))⟩)
def tX2_holds : List (Nat × Instr × Nat) := [(0, .lload_n 0, 1), (1, .ldc2_w 11, 3), (4, .lcmp, 1), (5, .ifCond .lt 15, 3), (8, .lload_n 0, 1), (9, .ldc2_w 13, 3), (12, .lcmp, 1), (13, .ifCond .gt 7, 3), (16, .iconst 1, 1), (17, .goto 4, 3), (20, .iconst 0, 1), (21, .ireturn, 1)]
set_option maxRecDepth 100000 in
theorem eX2_holds : ∀ x ∈ tX2_holds, decode cX2_holds x.1 = .ok x.2 := by decide +kernel
def kX2_holds : zc_C := ([(1, (-9223372036854775808), 9223372036854775807)], [], [], [], [], [(some (0, 0, 1), [], [])])
def pX2_holds : List zp_P := []
def KX2_holds : zk_K := (2, RTg, gfX2, ciX2, clX2, [], [], [], [])
set_option maxRecDepth 100000 in
theorem qX2_holds : zy_ck KX2_holds tX2_holds pX2_holds kX2_holds 1 1 1000 = true := by decide +kernel
set_option maxRecDepth 100000 in
theorem mX2_holds (l : Launch) (D : va_G) (cA : Nat → ClassId) (ro : Nat → Option Nat) (sz : Nat) (H0 : Heap) : zy_M l D cA RTg ro sz H0 (zKn D cA) yX2_holds (gW yX2_holds cX2_holds 2 (some .boolean)) { frames := 0, cells := 0, slots := 0, locals := 0 } kX2_holds :=
  zy_met (zn := "MomentTexts$Zone") (K := KX2_holds) (tb := tX2_holds) (pts := pX2_holds) (rc := 1) (N := 1) (fuel := 1000) (by decide +kernel) rfl rfl (by decide +kernel) rfl rfl (by decide +kernel) eX2_holds qX2_holds (fun p e s m args below meth c Q hx hb hml hown hts hKn => by
    have h2 : ∀ w ∈ gT, w.before args s = true := fun w hw => hts w (List.mem_cons_of_mem _ hw)
    exact ⟨hx, hb, zD_all h2 hKn, zAr hKn, zf_clause h2 hown hKn gfX2_ok (by decide +kernel), fun i n h => (by obtain ⟨x, h3, h4⟩ := ciX2_ok i n h; exact ⟨_, x, hown, h2 _ h3, h4⟩), fun i n h => (by obtain ⟨x, h3, h4⟩ := clX2_ok i n h; exact ⟨_, x, hown, h2 _ h3, h4⟩), (fun _ _ h => (nomatch h)), zct_n⟩)
def tX2_yearLength : List (Nat × Instr × Nat) := [(0, .iload_n 0, 1), (1, .invokestatic 21, 3), (4, .ifCond .eq 9, 3), (7, .sipush 366, 3), (10, .goto 6, 3), (13, .sipush 365, 3), (16, .ireturn, 1)]
set_option maxRecDepth 100000 in
theorem eX2_yearLength : ∀ x ∈ tX2_yearLength, decode cX2_yearLength x.1 = .ok x.2 := by decide +kernel
def kX2_yearLength : zc_C := ([(0, (-2147483648), 2147483647)], [], [], [], [], [(some (0, (-2147483648), 2147483647), [], [])])
def pX2_yearLength : List zp_P := []
def KX2_yearLength : zk_K := (1, RTg, gfX2, ciX2, clX2, [], [(84, kX2_isLeapYear)], [], [])
set_option maxRecDepth 100000 in
theorem qX2_yearLength : zy_ck KX2_yearLength tX2_yearLength pX2_yearLength kX2_yearLength 1 1 1000 = true := by decide +kernel
set_option maxRecDepth 100000 in
theorem mX2_yearLength (l : Launch) (D : va_G) (cA : Nat → ClassId) (ro : Nat → Option Nat) (sz : Nat) (H0 : Heap) : zy_M l D cA RTg ro sz H0 (zKn D cA) yX2_yearLength (gW yX2_yearLength cX2_yearLength 1 (some .int)) { frames := 1, cells := 0, slots := 0, locals := 20 } kX2_yearLength :=
  zy_met (zn := "MomentTexts$Zone") (K := KX2_yearLength) (tb := tX2_yearLength) (pts := pX2_yearLength) (rc := 1) (N := 1) (fuel := 1000) (by decide +kernel) rfl rfl (by decide +kernel) rfl rfl (by decide +kernel) eX2_yearLength qX2_yearLength (fun p e s m args below meth c Q hx hb hml hown hts hKn => by
    have h2 : ∀ w ∈ gT, w.before args s = true := fun w hw => hts w (List.mem_cons_of_mem _ hw)
    exact ⟨hx, hb, zD_all h2 hKn, zAr hKn, zf_clause h2 hown hKn gfX2_ok (by decide +kernel), fun i n h => (by obtain ⟨x, h3, h4⟩ := ciX2_ok i n h; exact ⟨_, x, hown, h2 _ h3, h4⟩), fun i n h => (by obtain ⟨x, h3, h4⟩ := clX2_ok i n h; exact ⟨_, x, hown, h2 _ h3, h4⟩), (fun _ _ h => (nomatch h)), 
      zct_c (zr_S (idx := 21) hx hb hml hown hts hKn zKb (mX2_isLeapYear l D cA ro sz H0) ⟨rfl, rfl⟩ ⟨by decide, by decide⟩ ⟨Nat.zero_le _, Nat.zero_le _⟩ (tb_2 120 rfl rfl) (tb_1 13 rfl rfl) (tb_2 118 rfl rfl) (tb_2 119 rfl rfl) (by decide +kernel) rfl) (zct_n)⟩)
def tX2_holdsMinute : List (Nat × Instr × Nat) := [(0, .lload_n 0, 1), (1, .ldc2_w 15, 3), (4, .lcmp, 1), (5, .ifCond .lt 15, 3), (8, .lload_n 0, 1), (9, .ldc2_w 17, 3), (12, .lcmp, 1), (13, .ifCond .gt 7, 3), (16, .iconst 1, 1), (17, .goto 4, 3), (20, .iconst 0, 1), (21, .ireturn, 1)]
set_option maxRecDepth 100000 in
theorem eX2_holdsMinute : ∀ x ∈ tX2_holdsMinute, decode cX2_holdsMinute x.1 = .ok x.2 := by decide +kernel
def kX2_holdsMinute : zc_C := ([(1, (-9223372036854775808), 9223372036854775807)], [], [], [], [], [(some (0, 0, 1), [], [])])
def pX2_holdsMinute : List zp_P := []
def KX2_holdsMinute : zk_K := (2, RTg, gfX2, ciX2, clX2, [], [], [], [])
set_option maxRecDepth 100000 in
theorem qX2_holdsMinute : zy_ck KX2_holdsMinute tX2_holdsMinute pX2_holdsMinute kX2_holdsMinute 1 1 1000 = true := by decide +kernel
set_option maxRecDepth 100000 in
theorem mX2_holdsMinute (l : Launch) (D : va_G) (cA : Nat → ClassId) (ro : Nat → Option Nat) (sz : Nat) (H0 : Heap) : zy_M l D cA RTg ro sz H0 (zKn D cA) yX2_holdsMinute (gW yX2_holdsMinute cX2_holdsMinute 2 (some .boolean)) { frames := 0, cells := 0, slots := 0, locals := 0 } kX2_holdsMinute :=
  zy_met (zn := "MomentTexts$Zone") (K := KX2_holdsMinute) (tb := tX2_holdsMinute) (pts := pX2_holdsMinute) (rc := 1) (N := 1) (fuel := 1000) (by decide +kernel) rfl rfl (by decide +kernel) rfl rfl (by decide +kernel) eX2_holdsMinute qX2_holdsMinute (fun p e s m args below meth c Q hx hb hml hown hts hKn => by
    have h2 : ∀ w ∈ gT, w.before args s = true := fun w hw => hts w (List.mem_cons_of_mem _ hw)
    exact ⟨hx, hb, zD_all h2 hKn, zAr hKn, zf_clause h2 hown hKn gfX2_ok (by decide +kernel), fun i n h => (by obtain ⟨x, h3, h4⟩ := ciX2_ok i n h; exact ⟨_, x, hown, h2 _ h3, h4⟩), fun i n h => (by obtain ⟨x, h3, h4⟩ := clX2_ok i n h; exact ⟨_, x, hown, h2 _ h3, h4⟩), (fun _ _ h => (nomatch h)), zct_n⟩)
def tX2_holdsYear : List (Nat × Instr × Nat) := [(0, .iload_n 0, 1), (1, .ldc 19, 2), (3, .if_icmp .lt 13, 3), (6, .iload_n 0, 1), (7, .ldc 20, 2), (9, .if_icmp .gt 7, 3), (12, .iconst 1, 1), (13, .goto 4, 3), (16, .iconst 0, 1), (17, .ireturn, 1)]
set_option maxRecDepth 100000 in
theorem eX2_holdsYear : ∀ x ∈ tX2_holdsYear, decode cX2_holdsYear x.1 = .ok x.2 := by decide +kernel
def kX2_holdsYear : zc_C := ([(0, (-2147483648), 2147483647)], [], [], [], [], [(some (0, 0, 1), [], [])])
def pX2_holdsYear : List zp_P := []
def KX2_holdsYear : zk_K := (1, RTg, gfX2, ciX2, clX2, [], [], [], [])
set_option maxRecDepth 100000 in
theorem qX2_holdsYear : zy_ck KX2_holdsYear tX2_holdsYear pX2_holdsYear kX2_holdsYear 1 1 1000 = true := by decide +kernel
set_option maxRecDepth 100000 in
theorem mX2_holdsYear (l : Launch) (D : va_G) (cA : Nat → ClassId) (ro : Nat → Option Nat) (sz : Nat) (H0 : Heap) : zy_M l D cA RTg ro sz H0 (zKn D cA) yX2_holdsYear (gW yX2_holdsYear cX2_holdsYear 1 (some .boolean)) { frames := 0, cells := 0, slots := 0, locals := 0 } kX2_holdsYear :=
  zy_met (zn := "MomentTexts$Zone") (K := KX2_holdsYear) (tb := tX2_holdsYear) (pts := pX2_holdsYear) (rc := 1) (N := 1) (fuel := 1000) (by decide +kernel) rfl rfl (by decide +kernel) rfl rfl (by decide +kernel) eX2_holdsYear qX2_holdsYear (fun p e s m args below meth c Q hx hb hml hown hts hKn => by
    have h2 : ∀ w ∈ gT, w.before args s = true := fun w hw => hts w (List.mem_cons_of_mem _ hw)
    exact ⟨hx, hb, zD_all h2 hKn, zAr hKn, zf_clause h2 hown hKn gfX2_ok (by decide +kernel), fun i n h => (by obtain ⟨x, h3, h4⟩ := ciX2_ok i n h; exact ⟨_, x, hown, h2 _ h3, h4⟩), fun i n h => (by obtain ⟨x, h3, h4⟩ := clX2_ok i n h; exact ⟨_, x, hown, h2 _ h3, h4⟩), (fun _ _ h => (nomatch h)), zct_n⟩)
def tX2_yearOf : List (Nat × Instr × Nat) := [(0, .lload_n 0, 1), (1, .ldc2_w 45, 3), (4, .ladd, 1), (5, .ldc2_w 43, 3), (8, .lmul, 1), (9, .ldc2_w 47, 3), (12, .ldiv, 1), (13, .ldc2_w 29, 3), (16, .lsub, 1), (17, .l2i, 1), (18, .istore_n 2, 1), (19, .iload_n 2, 1), (20, .invokestatic 49, 3), (23, .lload_n 0, 1), (24, .lcmp, 1), (25, .ifCond .le 7, 3), (28, .iload_n 2, 1), (29, .iconst 1, 1), (30, .isub, 1), (31, .ireturn, 1), (32, .iload_n 2, 1), (33, .iconst 1, 1), (34, .iadd, 1), (35, .invokestatic 49, 3), (38, .lload_n 0, 1), (39, .lcmp, 1), (40, .ifCond .gt 9, 3), (43, .iload_n 2, 1), (44, .iconst 1, 1), (45, .iadd, 1), (46, .goto 4, 3), (49, .iload_n 2, 1), (50, .ireturn, 1)]
set_option maxRecDepth 100000 in
theorem eX2_yearOf : ∀ x ∈ tX2_yearOf, decode cX2_yearOf x.1 = .ok x.2 := by decide +kernel
def kX2_yearOf : zc_C := ([(1, (-9223372036854775808), 9223372036854775807)], [], [], [], [], [(some (0, (-2147483648), 2147483647), [], [])])
def pX2_yearOf : List zp_P := []
def KX2_yearOf : zk_K := (3, RTg, gfX2, ciX2, clX2, [], [(196, kX2_yearStart)], [], [])
set_option maxRecDepth 100000 in
theorem qX2_yearOf : zy_ck KX2_yearOf tX2_yearOf pX2_yearOf kX2_yearOf 1 1 1000 = true := by decide +kernel
set_option maxRecDepth 100000 in
theorem mX2_yearOf (l : Launch) (D : va_G) (cA : Nat → ClassId) (ro : Nat → Option Nat) (sz : Nat) (H0 : Heap) : zy_M l D cA RTg ro sz H0 (zKn D cA) yX2_yearOf (gW yX2_yearOf cX2_yearOf 3 (some .int)) { frames := 1, cells := 0, slots := 0, locals := 22 } kX2_yearOf :=
  zy_met (zn := "MomentTexts$Zone") (K := KX2_yearOf) (tb := tX2_yearOf) (pts := pX2_yearOf) (rc := 1) (N := 1) (fuel := 1000) (by decide +kernel) rfl rfl (by decide +kernel) rfl rfl (by decide +kernel) eX2_yearOf qX2_yearOf (fun p e s m args below meth c Q hx hb hml hown hts hKn => by
    have h2 : ∀ w ∈ gT, w.before args s = true := fun w hw => hts w (List.mem_cons_of_mem _ hw)
    exact ⟨hx, hb, zD_all h2 hKn, zAr hKn, zf_clause h2 hown hKn gfX2_ok (by decide +kernel), fun i n h => (by obtain ⟨x, h3, h4⟩ := ciX2_ok i n h; exact ⟨_, x, hown, h2 _ h3, h4⟩), fun i n h => (by obtain ⟨x, h3, h4⟩ := clX2_ok i n h; exact ⟨_, x, hown, h2 _ h3, h4⟩), (fun _ _ h => (nomatch h)), 
      zct_c (zr_S (idx := 49) hx hb hml hown hts hKn zKb (mX2_yearStart l D cA ro sz H0) ⟨rfl, rfl⟩ ⟨by decide, by decide⟩ ⟨Nat.zero_le _, Nat.zero_le _⟩ (tb_2 193 rfl rfl) (tb_1 13 rfl rfl) (tb_2 191 rfl rfl) (tb_2 192 rfl rfl) (by decide +kernel) rfl) (zct_n)⟩)
def tX2_thursdayOf : List (Nat × Instr × Nat) := [(0, .lload_n 0, 1), (1, .lload_n 0, 1), (2, .invokestatic 108, 3), (5, .i2l, 1), (6, .lsub, 1), (7, .ldc2_w 35, 3), (10, .ladd, 1), (11, .lreturn, 1)]
set_option maxRecDepth 100000 in
theorem eX2_thursdayOf : ∀ x ∈ tX2_thursdayOf, decode cX2_thursdayOf x.1 = .ok x.2 := by decide +kernel
def kX2_thursdayOf : zc_C := ([(1, (-9223372036854775808), 9223372036854775807)], [], [], [], [], [(some (1, (-9223372036854775808), 9223372036854775807), [], [])])
def pX2_thursdayOf : List zp_P := []
def KX2_thursdayOf : zk_K := (2, RTg, gfX2, ciX2, clX2, [], [(432, kX2_weekdayOf)], [], [])
set_option maxRecDepth 100000 in
theorem qX2_thursdayOf : zy_ck KX2_thursdayOf tX2_thursdayOf pX2_thursdayOf kX2_thursdayOf 2 1 1000 = true := by decide +kernel
set_option maxRecDepth 100000 in
theorem mX2_thursdayOf (l : Launch) (D : va_G) (cA : Nat → ClassId) (ro : Nat → Option Nat) (sz : Nat) (H0 : Heap) : zy_M l D cA RTg ro sz H0 (zKn D cA) yX2_thursdayOf (gW yX2_thursdayOf cX2_thursdayOf 2 (some .long)) { frames := 1, cells := 0, slots := 0, locals := 21 } kX2_thursdayOf :=
  zy_met (zn := "MomentTexts$Zone") (K := KX2_thursdayOf) (tb := tX2_thursdayOf) (pts := pX2_thursdayOf) (rc := 2) (N := 1) (fuel := 1000) (by decide +kernel) rfl rfl (by decide +kernel) rfl rfl (by decide +kernel) eX2_thursdayOf qX2_thursdayOf (fun p e s m args below meth c Q hx hb hml hown hts hKn => by
    have h2 : ∀ w ∈ gT, w.before args s = true := fun w hw => hts w (List.mem_cons_of_mem _ hw)
    exact ⟨hx, hb, zD_all h2 hKn, zAr hKn, zf_clause h2 hown hKn gfX2_ok (by decide +kernel), fun i n h => (by obtain ⟨x, h3, h4⟩ := ciX2_ok i n h; exact ⟨_, x, hown, h2 _ h3, h4⟩), fun i n h => (by obtain ⟨x, h3, h4⟩ := clX2_ok i n h; exact ⟨_, x, hown, h2 _ h3, h4⟩), (fun _ _ h => (nomatch h)), 
      zct_c (zr_S (idx := 108) hx hb hml hown hts hKn zKb (mX2_weekdayOf l D cA ro sz H0) ⟨rfl, rfl⟩ ⟨by decide, by decide⟩ ⟨Nat.zero_le _, Nat.zero_le _⟩ (tb_2 231 rfl rfl) (tb_1 13 rfl rfl) (tb_3 1 rfl rfl) (tb_2 230 rfl rfl) (by decide +kernel) rfl) (zct_n)⟩)
def tX2_weekYearOf : List (Nat × Instr × Nat) := [(0, .lload_n 0, 1), (1, .invokestatic 111, 3), (4, .invokestatic 53, 3), (7, .ireturn, 1)]
set_option maxRecDepth 100000 in
theorem eX2_weekYearOf : ∀ x ∈ tX2_weekYearOf, decode cX2_weekYearOf x.1 = .ok x.2 := by decide +kernel
def kX2_weekYearOf : zc_C := ([(1, (-9223372036854775808), 9223372036854775807)], [], [], [], [], [(some (0, (-2147483648), 2147483647), [], [])])
def pX2_weekYearOf : List zp_P := []
def KX2_weekYearOf : zk_K := (2, RTg, gfX2, ciX2, clX2, [], [(212, kX2_yearOf), (444, kX2_thursdayOf)], [], [])
set_option maxRecDepth 100000 in
theorem qX2_weekYearOf : zy_ck KX2_weekYearOf tX2_weekYearOf pX2_weekYearOf kX2_weekYearOf 1 1 1000 = true := by decide +kernel
set_option maxRecDepth 100000 in
theorem mX2_weekYearOf (l : Launch) (D : va_G) (cA : Nat → ClassId) (ro : Nat → Option Nat) (sz : Nat) (H0 : Heap) : zy_M l D cA RTg ro sz H0 (zKn D cA) yX2_weekYearOf (gW yX2_weekYearOf cX2_weekYearOf 2 (some .int)) { frames := 2, cells := 0, slots := 0, locals := 44 } kX2_weekYearOf :=
  zy_met (zn := "MomentTexts$Zone") (K := KX2_weekYearOf) (tb := tX2_weekYearOf) (pts := pX2_weekYearOf) (rc := 1) (N := 1) (fuel := 1000) (by decide +kernel) rfl rfl (by decide +kernel) rfl rfl (by decide +kernel) eX2_weekYearOf qX2_weekYearOf (fun p e s m args below meth c Q hx hb hml hown hts hKn => by
    have h2 : ∀ w ∈ gT, w.before args s = true := fun w hw => hts w (List.mem_cons_of_mem _ hw)
    exact ⟨hx, hb, zD_all h2 hKn, zAr hKn, zf_clause h2 hown hKn gfX2_ok (by decide +kernel), fun i n h => (by obtain ⟨x, h3, h4⟩ := ciX2_ok i n h; exact ⟨_, x, hown, h2 _ h3, h4⟩), fun i n h => (by obtain ⟨x, h3, h4⟩ := clX2_ok i n h; exact ⟨_, x, hown, h2 _ h3, h4⟩), (fun _ _ h => (nomatch h)), 
      zct_c (zr_S (idx := 53) hx hb hml hown hts hKn zKb (mX2_yearOf l D cA ro sz H0) ⟨rfl, rfl⟩ ⟨by decide, by decide⟩ ⟨Nat.zero_le _, Nat.zero_le _⟩ (tb_2 218 rfl rfl) (tb_1 13 rfl rfl) (tb_2 223 rfl rfl) (tb_2 217 rfl rfl) (by decide +kernel) rfl) (
      zct_c (zr_S (idx := 111) hx hb hml hown hts hKn zKb (mX2_thursdayOf l D cA ro sz H0) ⟨rfl, rfl⟩ ⟨by decide, by decide⟩ ⟨Nat.zero_le _, Nat.zero_le _⟩ (tb_3 0 rfl rfl) (tb_1 13 rfl rfl) (tb_2 238 rfl rfl) (tb_2 239 rfl rfl) (by decide +kernel) rfl) (zct_n))⟩)
def tX2_weekOf : List (Nat × Instr × Nat) := [(0, .lload_n 0, 1), (1, .invokestatic 111, 3), (4, .lstore_n 2, 1), (5, .lload_n 2, 1), (6, .lload_n 2, 1), (7, .invokestatic 53, 3), (10, .invokestatic 49, 3), (13, .lsub, 1), (14, .l2i, 1), (15, .bipush 7, 2), (17, .idiv, 1), (18, .iconst 1, 1), (19, .iadd, 1), (20, .ireturn, 1)]
set_option maxRecDepth 100000 in
theorem eX2_weekOf : ∀ x ∈ tX2_weekOf, decode cX2_weekOf x.1 = .ok x.2 := by decide +kernel
def kX2_weekOf : zc_C := ([(1, (-9223372036854775808), 9223372036854775807)], [], [], [], [], [(some (0, (-2147483648), 2147483647), [], [])])
def pX2_weekOf : List zp_P := []
def KX2_weekOf : zk_K := (4, RTg, gfX2, ciX2, clX2, [], [(196, kX2_yearStart), (212, kX2_yearOf), (444, kX2_thursdayOf)], [], [])
set_option maxRecDepth 100000 in
theorem qX2_weekOf : zy_ck KX2_weekOf tX2_weekOf pX2_weekOf kX2_weekOf 1 1 1000 = true := by decide +kernel
set_option maxRecDepth 100000 in
theorem mX2_weekOf (l : Launch) (D : va_G) (cA : Nat → ClassId) (ro : Nat → Option Nat) (sz : Nat) (H0 : Heap) : zy_M l D cA RTg ro sz H0 (zKn D cA) yX2_weekOf (gW yX2_weekOf cX2_weekOf 4 (some .int)) { frames := 2, cells := 0, slots := 0, locals := 44 } kX2_weekOf :=
  zy_met (zn := "MomentTexts$Zone") (K := KX2_weekOf) (tb := tX2_weekOf) (pts := pX2_weekOf) (rc := 1) (N := 1) (fuel := 1000) (by decide +kernel) rfl rfl (by decide +kernel) rfl rfl (by decide +kernel) eX2_weekOf qX2_weekOf (fun p e s m args below meth c Q hx hb hml hown hts hKn => by
    have h2 : ∀ w ∈ gT, w.before args s = true := fun w hw => hts w (List.mem_cons_of_mem _ hw)
    exact ⟨hx, hb, zD_all h2 hKn, zAr hKn, zf_clause h2 hown hKn gfX2_ok (by decide +kernel), fun i n h => (by obtain ⟨x, h3, h4⟩ := ciX2_ok i n h; exact ⟨_, x, hown, h2 _ h3, h4⟩), fun i n h => (by obtain ⟨x, h3, h4⟩ := clX2_ok i n h; exact ⟨_, x, hown, h2 _ h3, h4⟩), (fun _ _ h => (nomatch h)), 
      zct_c (zr_S (idx := 49) hx hb hml hown hts hKn zKb (mX2_yearStart l D cA ro sz H0) ⟨rfl, rfl⟩ ⟨by decide, by decide⟩ ⟨Nat.zero_le _, Nat.zero_le _⟩ (tb_2 193 rfl rfl) (tb_1 13 rfl rfl) (tb_2 191 rfl rfl) (tb_2 192 rfl rfl) (by decide +kernel) rfl) (
      zct_c (zr_S (idx := 53) hx hb hml hown hts hKn zKb (mX2_yearOf l D cA ro sz H0) ⟨rfl, rfl⟩ ⟨by decide, by decide⟩ ⟨Nat.zero_le _, Nat.zero_le _⟩ (tb_2 218 rfl rfl) (tb_1 13 rfl rfl) (tb_2 223 rfl rfl) (tb_2 217 rfl rfl) (by decide +kernel) rfl) (
      zct_c (zr_S (idx := 111) hx hb hml hown hts hKn zKb (mX2_thursdayOf l D cA ro sz H0) ⟨rfl, rfl⟩ ⟨by decide, by decide⟩ ⟨Nat.zero_le _, Nat.zero_le _⟩ (tb_3 0 rfl rfl) (tb_1 13 rfl rfl) (tb_2 238 rfl rfl) (tb_2 239 rfl rfl) (by decide +kernel) rfl) (zct_n)))⟩)
