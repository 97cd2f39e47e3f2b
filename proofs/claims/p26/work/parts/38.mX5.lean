def tX5_has : List (Nat × Instr × Nat) := [(0, .iconst 0, 1), (1, .istore_n 3, 1), (2, .iload_n 3, 1), (3, .aload_n 0, 1), (4, .getfield 15, 3), (7, .if_icmp .ge 22, 3), (10, .aload_n 0, 1), (11, .getfield 11, 3), (14, .iload_n 3, 1), (15, .laload, 1), (16, .lload_n 1, 1), (17, .lcmp, 1), (18, .ifCond .ne 5, 3), (21, .iconst 1, 1), (22, .ireturn, 1), (23, .iinc 3 1, 3), (26, .goto (-24), 3), (29, .iconst 0, 1), (30, .ireturn, 1)]
set_option maxRecDepth 100000 in
theorem eX5_has : ∀ x ∈ tX5_has, decode cX5_has x.1 = .ok x.2 := by decide +kernel
def kX5_has : zc_C := ([(12, 0, 0), (1, (-9223372036854775808), 9223372036854775807)], [], [], [], [], [(some (0, 0, 1), [], [])])
def pX5_has : List zp_P := [(2, [(0, (-1)), ((-9223372036854775808), 9223372036854775807), (0, 40), (0, (-1)), ((-9223372036854775808), 9223372036854775807)], [], [(0, 12), (1, 1), (3, 0)], [], [], 2, [([], 18), ([(2, (-1))], 2147483649), ([], 18)])]
def KX5_has : zk_K := (4, RTg, gfX5, ciX5, clX5, [], [], [], [])
set_option maxRecDepth 100000 in
theorem qX5_has : zy_ck KX5_has tX5_has pX5_has kX5_has 1 3 4000 = true := by decide +kernel
set_option maxRecDepth 100000 in
theorem mX5_has (l : Launch) (D : va_G) (cA : Nat → ClassId) (ro : Nat → Option Nat) (sz : Nat) (H0 : Heap) : zy_M l D cA RTg ro sz H0 (zKn D cA ro sz H0) yX5_has (gW yX5_has cX5_has 4 (some .boolean)) { frames := 0, cells := 0, slots := 0, locals := 0 } kX5_has :=
  zy_met (zn := "MomentTexts$Zone") (K := KX5_has) (tb := tX5_has) (pts := pX5_has) (rc := 1) (N := 3) (fuel := 4000) (by decide +kernel) rfl rfl (by decide +kernel) rfl rfl (by decide +kernel) eX5_has qX5_has (fun p e s m args below meth c Q hx hb hml hown hts hKn => by
    have h2 : ∀ w ∈ gT, w.before args s = true := fun w hw => hts w (List.mem_cons_of_mem _ hw)
    exact ⟨hx, hb, zD_all h2 hKn.1, zArN hKn, zf_clause h2 hown hKn.1 gfX5_ok (by decide +kernel), fun i n h => (by obtain ⟨x, h3, h4⟩ := ciX5_ok i n h; exact ⟨_, x, hown, h2 _ h3, h4⟩), fun i n h => (by obtain ⟨x, h3, h4⟩ := clX5_ok i n h; exact ⟨_, x, hown, h2 _ h3, h4⟩), (zgs_n), zct_n⟩)
def tX5_lastSecondOf : List (Nat × Instr × Nat) := [(0, .lload_n 1, 1), (1, .ldc2_w 35, 3), (4, .invokestatic 37, 3), (7, .lstore_n 3, 1), (8, .lload_n 1, 1), (9, .lload_n 3, 1), (10, .ldc2_w 35, 3), (13, .lmul, 1), (14, .lsub, 1), (15, .ldc2_w 43, 3), (18, .lcmp, 1), (19, .ifCond .ne 16, 3), (22, .aload_n 0, 1), (23, .lload_n 3, 1), (24, .invokevirtual 45, 3), (27, .ifCond .eq 8, 3), (30, .bipush 60, 2), (32, .goto 5, 3), (35, .bipush 59, 2), (37, .ireturn, 1)]
set_option maxRecDepth 100000 in
theorem eX5_lastSecondOf : ∀ x ∈ tX5_lastSecondOf, decode cX5_lastSecondOf x.1 = .ok x.2 := by decide +kernel
def kX5_lastSecondOf : zc_C := ([(12, 0, 0), (1, (-9223372036854775808), 9223372036854775807)], [], [], [], [], [(some (0, (-2147483648), 2147483647), [], [])])
def pX5_lastSecondOf : List zp_P := []
def KX5_lastSecondOf : zk_K := (5, RTg, gfX5, ciX5, clX5, [], [(148, kJ9_floorDiv_f86c9), (181, kX5_has)], [], [])
set_option maxRecDepth 100000 in
theorem qX5_lastSecondOf : zy_ck KX5_lastSecondOf tX5_lastSecondOf pX5_lastSecondOf kX5_lastSecondOf 1 1 4000 = true := by decide +kernel
set_option maxRecDepth 100000 in
theorem mX5_lastSecondOf (l : Launch) (D : va_G) (cA : Nat → ClassId) (ro : Nat → Option Nat) (sz : Nat) (H0 : Heap) : zy_M l D cA RTg ro sz H0 (zKn D cA ro sz H0) yX5_lastSecondOf (gW yX5_lastSecondOf cX5_lastSecondOf 5 (some .int)) { frames := 1, cells := 0, slots := 0, locals := 25 } kX5_lastSecondOf :=
  zy_met (zn := "MomentTexts$Zone") (K := KX5_lastSecondOf) (tb := tX5_lastSecondOf) (pts := pX5_lastSecondOf) (rc := 1) (N := 1) (fuel := 4000) (by decide +kernel) rfl rfl (by decide +kernel) rfl rfl (by decide +kernel) eX5_lastSecondOf qX5_lastSecondOf (fun p e s m args below meth c Q hx hb hml hown hts hKn => by
    have h2 : ∀ w ∈ gT, w.before args s = true := fun w hw => hts w (List.mem_cons_of_mem _ hw)
    exact ⟨hx, hb, zD_all h2 hKn.1, zArN hKn, zf_clause h2 hown hKn.1 gfX5_ok (by decide +kernel), fun i n h => (by obtain ⟨x, h3, h4⟩ := ciX5_ok i n h; exact ⟨_, x, hown, h2 _ h3, h4⟩), fun i n h => (by obtain ⟨x, h3, h4⟩ := clX5_ok i n h; exact ⟨_, x, hown, h2 _ h3, h4⟩), (zgs_n), 
      zct_c (zr_S (idx := 37) hx hb hml hown hts hKn zKb (mJ9_floorDiv_f86c9 l D cA ro sz H0) ⟨rfl, rfl⟩ ⟨by decide, by decide⟩ ⟨Nat.zero_le _, Nat.zero_le _⟩ (tb_3 39 rfl rfl) (tb_1 18 rfl rfl) (tb_3 116 rfl rfl) (tb_3 38 rfl rfl) (by decide +kernel) rfl) (
      zct_c (zr_V (idx := 45) (r := 4) (ci := 4) (n0 := 0) (fs := fsX5) (lo := 0) (hi0 := 0) (ts := [(1, (-9223372036854775808), 9223372036854775807)]) hx hb hml hown hts hKn zKb (mX5_has l D cA ro sz H0) ⟨rfl, rfl⟩ ⟨by decide, by decide⟩ ⟨Nat.zero_le _, Nat.zero_le _⟩ (tb_3 73 rfl rfl) (tb_1 2 rfl rfl) (tb_3 118 rfl rfl) (tb_3 71 rfl rfl) (tb_3 72 rfl rfl) (by decide +kernel) rfl rfl (zCX5 hKn.1) rfl) (zct_n))⟩)
def tX5_secondsTo : List (Nat × Instr × Nat) := [(0, .iconst 0, 1), (1, .istore_n 3, 1), (2, .iconst 0, 1), (3, .istore 4, 2), (5, .iload 4, 2), (7, .aload_n 0, 1), (8, .getfield 15, 3), (11, .if_icmp .ge 66, 3), (14, .aload_n 0, 1), (15, .getfield 11, 3), (18, .iload 4, 2), (20, .laload, 1), (21, .lconst 0, 1), (22, .lcmp, 1), (23, .ifCond .lt 21, 3), (26, .aload_n 0, 1), (27, .getfield 11, 3), (30, .iload 4, 2), (32, .laload, 1), (33, .lload_n 1, 1), (34, .lcmp, 1), (35, .ifCond .ge 9, 3), (38, .iinc 3 1, 3), (41, .goto 30, 3), (44, .aload_n 0, 1), (45, .getfield 11, 3), (48, .iload 4, 2), (50, .laload, 1), (51, .lconst 0, 1), (52, .lcmp, 1), (53, .ifCond .ge 18, 3), (56, .aload_n 0, 1), (57, .getfield 11, 3), (60, .iload 4, 2), (62, .laload, 1), (63, .lload_n 1, 1), (64, .lcmp, 1), (65, .ifCond .lt 6, 3), (68, .iinc 3 (-1), 3), (71, .iinc 4 1, 3), (74, .goto (-69), 3), (77, .iload_n 3, 1), (78, .ireturn, 1)]
set_option maxRecDepth 100000 in
theorem eX5_secondsTo : ∀ x ∈ tX5_secondsTo, decode cX5_secondsTo x.1 = .ok x.2 := by decide +kernel
def kX5_secondsTo : zc_C := ([(12, 0, 0), (1, (-9223372036854775808), 9223372036854775807)], [], [], [], [], [(some (0, (-2147483648), 2147483647), [], [])])
def pX5_secondsTo : List zp_P := [(5, [(0, (-1)), ((-9223372036854775808), 9223372036854775807), ((-2147483648), 2147483647), (0, 40), (0, (-1)), ((-9223372036854775808), 9223372036854775807)], [], [(0, 12), (1, 1), (3, 0), (4, 0)], [], [], 2, [([], 40), ([(3, (-1))], 2147483649), ([], 40)])]
def KX5_secondsTo : zk_K := (5, RTg, gfX5, ciX5, clX5, [], [], [], [])
set_option maxRecDepth 100000 in
theorem qX5_secondsTo : zy_ck KX5_secondsTo tX5_secondsTo pX5_secondsTo kX5_secondsTo 1 3 4000 = true := by decide +kernel
set_option maxRecDepth 100000 in
theorem mX5_secondsTo (l : Launch) (D : va_G) (cA : Nat → ClassId) (ro : Nat → Option Nat) (sz : Nat) (H0 : Heap) : zy_M l D cA RTg ro sz H0 (zKn D cA ro sz H0) yX5_secondsTo (gW yX5_secondsTo cX5_secondsTo 5 (some .int)) { frames := 0, cells := 0, slots := 0, locals := 0 } kX5_secondsTo :=
  zy_met (zn := "MomentTexts$Zone") (K := KX5_secondsTo) (tb := tX5_secondsTo) (pts := pX5_secondsTo) (rc := 1) (N := 3) (fuel := 4000) (by decide +kernel) rfl rfl (by decide +kernel) rfl rfl (by decide +kernel) eX5_secondsTo qX5_secondsTo (fun p e s m args below meth c Q hx hb hml hown hts hKn => by
    have h2 : ∀ w ∈ gT, w.before args s = true := fun w hw => hts w (List.mem_cons_of_mem _ hw)
    exact ⟨hx, hb, zD_all h2 hKn.1, zArN hKn, zf_clause h2 hown hKn.1 gfX5_ok (by decide +kernel), fun i n h => (by obtain ⟨x, h3, h4⟩ := ciX5_ok i n h; exact ⟨_, x, hown, h2 _ h3, h4⟩), fun i n h => (by obtain ⟨x, h3, h4⟩ := clX5_ok i n h; exact ⟨_, x, hown, h2 _ h3, h4⟩), (zgs_n), zct_n⟩)
def tX5_instantOf : List (Nat × Instr × Nat) := [(0, .lload_n 1, 1), (1, .ldc2_w 49, 3), (4, .lmul, 1), (5, .iload_n 3, 1), (6, .i2l, 1), (7, .ladd, 1), (8, .aload_n 0, 1), (9, .lload_n 1, 1), (10, .ldc2_w 35, 3), (13, .invokestatic 37, 3), (16, .invokevirtual 21, 3), (19, .i2l, 1), (20, .ladd, 1), (21, .lreturn, 1)]
set_option maxRecDepth 100000 in
theorem eX5_instantOf : ∀ x ∈ tX5_instantOf, decode cX5_instantOf x.1 = .ok x.2 := by decide +kernel
def kX5_instantOf : zc_C := ([(12, 0, 0), (1, (-9223372036854775808), 9223372036854775807), (0, (-2147483648), 2147483647)], [], [], [], [], [(some (1, (-9223372036854775808), 9223372036854775807), [], [])])
def pX5_instantOf : List zp_P := []
def KX5_instantOf : zk_K := (4, RTg, gfX5, ciX5, clX5, [], [(85, kX5_secondsTo), (148, kJ9_floorDiv_f86c9)], [], [])
set_option maxRecDepth 100000 in
theorem qX5_instantOf : zy_ck KX5_instantOf tX5_instantOf pX5_instantOf kX5_instantOf 2 1 4000 = true := by decide +kernel
set_option maxRecDepth 100000 in
theorem mX5_instantOf (l : Launch) (D : va_G) (cA : Nat → ClassId) (ro : Nat → Option Nat) (sz : Nat) (H0 : Heap) : zy_M l D cA RTg ro sz H0 (zKn D cA ro sz H0) yX5_instantOf (gW yX5_instantOf cX5_instantOf 4 (some .long)) { frames := 1, cells := 0, slots := 0, locals := 25 } kX5_instantOf :=
  zy_met (zn := "MomentTexts$Zone") (K := KX5_instantOf) (tb := tX5_instantOf) (pts := pX5_instantOf) (rc := 2) (N := 1) (fuel := 4000) (by decide +kernel) rfl rfl (by decide +kernel) rfl rfl (by decide +kernel) eX5_instantOf qX5_instantOf (fun p e s m args below meth c Q hx hb hml hown hts hKn => by
    have h2 : ∀ w ∈ gT, w.before args s = true := fun w hw => hts w (List.mem_cons_of_mem _ hw)
    exact ⟨hx, hb, zD_all h2 hKn.1, zArN hKn, zf_clause h2 hown hKn.1 gfX5_ok (by decide +kernel), fun i n h => (by obtain ⟨x, h3, h4⟩ := ciX5_ok i n h; exact ⟨_, x, hown, h2 _ h3, h4⟩), fun i n h => (by obtain ⟨x, h3, h4⟩ := clX5_ok i n h; exact ⟨_, x, hown, h2 _ h3, h4⟩), (zgs_n), 
      zct_c (zr_V (idx := 21) (r := 4) (ci := 4) (n0 := 0) (fs := fsX5) (lo := 0) (hi0 := 0) (ts := [(1, (-9223372036854775808), 9223372036854775807)]) hx hb hml hown hts hKn zKb (mX5_secondsTo l D cA ro sz H0) ⟨rfl, rfl⟩ ⟨by decide, by decide⟩ ⟨Nat.zero_le _, Nat.zero_le _⟩ (tb_3 128 rfl rfl) (tb_1 2 rfl rfl) (tb_3 125 rfl rfl) (tb_3 126 rfl rfl) (tb_3 127 rfl rfl) (by decide +kernel) rfl rfl (zCX5 hKn.1) rfl) (
      zct_c (zr_S (idx := 37) hx hb hml hown hts hKn zKb (mJ9_floorDiv_f86c9 l D cA ro sz H0) ⟨rfl, rfl⟩ ⟨by decide, by decide⟩ ⟨Nat.zero_le _, Nat.zero_le _⟩ (tb_3 39 rfl rfl) (tb_1 18 rfl rfl) (tb_3 116 rfl rfl) (tb_3 38 rfl rfl) (by decide +kernel) rfl) (zct_n))⟩)
def tX5_isFull : List (Nat × Instr × Nat) := [(0, .aload_n 0, 1), (1, .getfield 15, 3), (4, .bipush 40, 2), (6, .if_icmp .lt 7, 3), (9, .iconst 1, 1), (10, .goto 4, 3), (13, .iconst 0, 1), (14, .ireturn, 1)]
set_option maxRecDepth 100000 in
theorem eX5_isFull : ∀ x ∈ tX5_isFull, decode cX5_isFull x.1 = .ok x.2 := by decide +kernel
def kX5_isFull : zc_C := ([(12, 0, 0)], [], [], [], [], [(some (0, 0, 1), [], [])])
def pX5_isFull : List zp_P := []
def KX5_isFull : zk_K := (1, RTg, gfX5, ciX5, clX5, [], [], [], [])
set_option maxRecDepth 100000 in
theorem qX5_isFull : zy_ck KX5_isFull tX5_isFull pX5_isFull kX5_isFull 1 1 4000 = true := by decide +kernel
set_option maxRecDepth 100000 in
theorem mX5_isFull (l : Launch) (D : va_G) (cA : Nat → ClassId) (ro : Nat → Option Nat) (sz : Nat) (H0 : Heap) : zy_M l D cA RTg ro sz H0 (zKn D cA ro sz H0) yX5_isFull (gW yX5_isFull cX5_isFull 1 (some .boolean)) { frames := 0, cells := 0, slots := 0, locals := 0 } kX5_isFull :=
  zy_met (zn := "MomentTexts$Zone") (K := KX5_isFull) (tb := tX5_isFull) (pts := pX5_isFull) (rc := 1) (N := 1) (fuel := 4000) (by decide +kernel) rfl rfl (by decide +kernel) rfl rfl (by decide +kernel) eX5_isFull qX5_isFull (fun p e s m args below meth c Q hx hb hml hown hts hKn => by
    have h2 : ∀ w ∈ gT, w.before args s = true := fun w hw => hts w (List.mem_cons_of_mem _ hw)
    exact ⟨hx, hb, zD_all h2 hKn.1, zArN hKn, zf_clause h2 hown hKn.1 gfX5_ok (by decide +kernel), fun i n h => (by obtain ⟨x, h3, h4⟩ := ciX5_ok i n h; exact ⟨_, x, hown, h2 _ h3, h4⟩), fun i n h => (by obtain ⟨x, h3, h4⟩ := clX5_ok i n h; exact ⟨_, x, hown, h2 _ h3, h4⟩), (zgs_n), zct_n⟩)
def tX5_add : List (Nat × Instr × Nat) := [(0, .aload_n 0, 1), (1, .getfield 15, 3), (4, .bipush 40, 2), (6, .if_icmp .ge 23, 3), (9, .aload_n 0, 1), (10, .getfield 11, 3), (13, .aload_n 0, 1), (14, .getfield 15, 3), (17, .lload_n 1, 1), (18, .lastore, 1), (19, .aload_n 0, 1), (20, .dup, 1), (21, .getfield 15, 3), (24, .iconst 1, 1), (25, .iadd, 1), (26, .putfield 15, 3), (29, .aload_n 0, 1), (30, .getfield 15, 3), (33, .ireturn, 1)]
set_option maxRecDepth 100000 in
theorem eX5_add : ∀ x ∈ tX5_add, decode cX5_add x.1 = .ok x.2 := by decide +kernel
def kX5_add : zc_C := ([(12, 0, 0), (1, (-9223372036854775808), 9223372036854775807)], [], [], [(4, 1), (13, 0)], [], [(some (0, (-2147483648), 2147483647), [], [])])
def pX5_add : List zp_P := []
def KX5_add : zk_K := (3, RTg, gfX5, ciX5, clX5, [], [], [(4, 1), (13, 0)], [])
set_option maxRecDepth 100000 in
theorem qX5_add : zy_ck KX5_add tX5_add pX5_add kX5_add 1 1 4000 = true := by decide +kernel
set_option maxRecDepth 100000 in
theorem mX5_add (l : Launch) (D : va_G) (cA : Nat → ClassId) (ro : Nat → Option Nat) (sz : Nat) (H0 : Heap) : zy_M l D cA RTg ro sz H0 (zKn D cA ro sz H0) yX5_add (gW yX5_add cX5_add 3 (some .int)) { frames := 0, cells := 0, slots := 0, locals := 0 } kX5_add :=
  zy_met (zn := "MomentTexts$Zone") (K := KX5_add) (tb := tX5_add) (pts := pX5_add) (rc := 1) (N := 1) (fuel := 4000) (by decide +kernel) rfl rfl (by decide +kernel) rfl rfl (by decide +kernel) eX5_add qX5_add (fun p e s m args below meth c Q hx hb hml hown hts hKn => by
    have h2 : ∀ w ∈ gT, w.before args s = true := fun w hw => hts w (List.mem_cons_of_mem _ hw)
    exact ⟨hx, hb, zD_all h2 hKn.1, zArN hKn, zf_clause h2 hown hKn.1 gfX5_ok (by decide +kernel), fun i n h => (by obtain ⟨x, h3, h4⟩ := ciX5_ok i n h; exact ⟨_, x, hown, h2 _ h3, h4⟩), fun i n h => (by obtain ⟨x, h3, h4⟩ := clX5_ok i n h; exact ⟨_, x, hown, h2 _ h3, h4⟩), (zgs_n), zct_n⟩)
def tX5_startOf : List (Nat × Instr × Nat) := [(0, .lload_n 1, 1), (1, .ldc2_w 19, 3), (4, .lmul, 1), (5, .aload_n 0, 1), (6, .lload_n 1, 1), (7, .invokevirtual 21, 3), (10, .i2l, 1), (11, .ladd, 1), (12, .lreturn, 1)]
set_option maxRecDepth 100000 in
theorem eX5_startOf : ∀ x ∈ tX5_startOf, decode cX5_startOf x.1 = .ok x.2 := by decide +kernel
def kX5_startOf : zc_C := ([(12, 0, 0), (1, (-9223372036854775808), 9223372036854775807)], [], [], [], [], [(some (1, (-9223372036854775808), 9223372036854775807), [], [])])
def pX5_startOf : List zp_P := []
def KX5_startOf : zk_K := (3, RTg, gfX5, ciX5, clX5, [], [(85, kX5_secondsTo)], [], [])
set_option maxRecDepth 100000 in
theorem qX5_startOf : zy_ck KX5_startOf tX5_startOf pX5_startOf kX5_startOf 2 1 4000 = true := by decide +kernel
set_option maxRecDepth 100000 in
theorem mX5_startOf (l : Launch) (D : va_G) (cA : Nat → ClassId) (ro : Nat → Option Nat) (sz : Nat) (H0 : Heap) : zy_M l D cA RTg ro sz H0 (zKn D cA ro sz H0) yX5_startOf (gW yX5_startOf cX5_startOf 3 (some .long)) { frames := 1, cells := 0, slots := 0, locals := 24 } kX5_startOf :=
  zy_met (zn := "MomentTexts$Zone") (K := KX5_startOf) (tb := tX5_startOf) (pts := pX5_startOf) (rc := 2) (N := 1) (fuel := 4000) (by decide +kernel) rfl rfl (by decide +kernel) rfl rfl (by decide +kernel) eX5_startOf qX5_startOf (fun p e s m args below meth c Q hx hb hml hown hts hKn => by
    have h2 : ∀ w ∈ gT, w.before args s = true := fun w hw => hts w (List.mem_cons_of_mem _ hw)
    exact ⟨hx, hb, zD_all h2 hKn.1, zArN hKn, zf_clause h2 hown hKn.1 gfX5_ok (by decide +kernel), fun i n h => (by obtain ⟨x, h3, h4⟩ := ciX5_ok i n h; exact ⟨_, x, hown, h2 _ h3, h4⟩), fun i n h => (by obtain ⟨x, h3, h4⟩ := clX5_ok i n h; exact ⟨_, x, hown, h2 _ h3, h4⟩), (zgs_n), 
      zct_c (zr_V (idx := 21) (r := 4) (ci := 4) (n0 := 0) (fs := fsX5) (lo := 0) (hi0 := 0) (ts := [(1, (-9223372036854775808), 9223372036854775807)]) hx hb hml hown hts hKn zKb (mX5_secondsTo l D cA ro sz H0) ⟨rfl, rfl⟩ ⟨by decide, by decide⟩ ⟨Nat.zero_le _, Nat.zero_le _⟩ (tb_3 128 rfl rfl) (tb_1 2 rfl rfl) (tb_3 125 rfl rfl) (tb_3 126 rfl rfl) (tb_3 127 rfl rfl) (by decide +kernel) rfl rfl (zCX5 hKn.1) rfl) (zct_n)⟩)
def tX5_holds : List (Nat × Instr × Nat) := [(0, .lload_n 1, 1), (1, .aload_n 0, 1), (2, .ldc2_w 27, 3), (5, .invokevirtual 29, 3), (8, .lcmp, 1), (9, .ifCond .lt 19, 3), (12, .lload_n 1, 1), (13, .aload_n 0, 1), (14, .ldc2_w 33, 3), (17, .invokevirtual 29, 3), (20, .lcmp, 1), (21, .ifCond .ge 7, 3), (24, .iconst 1, 1), (25, .goto 4, 3), (28, .iconst 0, 1), (29, .ireturn, 1)]
set_option maxRecDepth 100000 in
theorem eX5_holds : ∀ x ∈ tX5_holds, decode cX5_holds x.1 = .ok x.2 := by decide +kernel
def kX5_holds : zc_C := ([(12, 0, 0), (1, (-9223372036854775808), 9223372036854775807)], [], [], [], [], [(some (0, 0, 1), [], [])])
def pX5_holds : List zp_P := []
def KX5_holds : zk_K := (3, RTg, gfX5, ciX5, clX5, [], [(117, kX5_startOf)], [], [])
set_option maxRecDepth 100000 in
theorem qX5_holds : zy_ck KX5_holds tX5_holds pX5_holds kX5_holds 1 1 4000 = true := by decide +kernel
set_option maxRecDepth 100000 in
theorem mX5_holds (l : Launch) (D : va_G) (cA : Nat → ClassId) (ro : Nat → Option Nat) (sz : Nat) (H0 : Heap) : zy_M l D cA RTg ro sz H0 (zKn D cA ro sz H0) yX5_holds (gW yX5_holds cX5_holds 3 (some .boolean)) { frames := 2, cells := 0, slots := 0, locals := 46 } kX5_holds :=
  zy_met (zn := "MomentTexts$Zone") (K := KX5_holds) (tb := tX5_holds) (pts := pX5_holds) (rc := 1) (N := 1) (fuel := 4000) (by decide +kernel) rfl rfl (by decide +kernel) rfl rfl (by decide +kernel) eX5_holds qX5_holds (fun p e s m args below meth c Q hx hb hml hown hts hKn => by
    have h2 : ∀ w ∈ gT, w.before args s = true := fun w hw => hts w (List.mem_cons_of_mem _ hw)
    exact ⟨hx, hb, zD_all h2 hKn.1, zArN hKn, zf_clause h2 hown hKn.1 gfX5_ok (by decide +kernel), fun i n h => (by obtain ⟨x, h3, h4⟩ := ciX5_ok i n h; exact ⟨_, x, hown, h2 _ h3, h4⟩), fun i n h => (by obtain ⟨x, h3, h4⟩ := clX5_ok i n h; exact ⟨_, x, hown, h2 _ h3, h4⟩), (zgs_n), 
      zct_c (zr_V (idx := 29) (r := 4) (ci := 4) (n0 := 0) (fs := fsX5) (lo := 0) (hi0 := 0) (ts := [(1, (-9223372036854775808), 9223372036854775807)]) hx hb hml hown hts hKn zKb (mX5_startOf l D cA ro sz H0) ⟨rfl, rfl⟩ ⟨by decide, by decide⟩ ⟨Nat.zero_le _, Nat.zero_le _⟩ (tb_3 144 rfl rfl) (tb_1 2 rfl rfl) (tb_3 141 rfl rfl) (tb_3 142 rfl rfl) (tb_3 143 rfl rfl) (by decide +kernel) rfl rfl (zCX5 hKn.1) rfl) (zct_n)⟩)
def tX5_minuteAt : List (Nat × Instr × Nat) := [(0, .lload_n 1, 1), (1, .ldc2_w 19, 3), (4, .invokestatic 37, 3), (7, .lstore_n 3, 1), (8, .aload_n 0, 1), (9, .lload_n 3, 1), (10, .invokevirtual 29, 3), (13, .lload_n 1, 1), (14, .lcmp, 1), (15, .ifCond .le 10, 3), (18, .lload_n 3, 1), (19, .lconst 1, 1), (20, .lsub, 1), (21, .lstore_n 3, 1), (22, .goto 19, 3), (25, .aload_n 0, 1), (26, .lload_n 3, 1), (27, .lconst 1, 1), (28, .ladd, 1), (29, .invokevirtual 29, 3), (32, .lload_n 1, 1), (33, .lcmp, 1), (34, .ifCond .gt 7, 3), (37, .lload_n 3, 1), (38, .lconst 1, 1), (39, .ladd, 1), (40, .lstore_n 3, 1), (41, .lload_n 3, 1), (42, .ldc2_w 35, 3), (45, .lmul, 1), (46, .lload_n 1, 1), (47, .aload_n 0, 1), (48, .lload_n 3, 1), (49, .invokevirtual 29, 3), (52, .lsub, 1), (53, .ldc2_w 49, 3), (56, .ldiv, 1), (57, .ldc2_w 43, 3), (60, .invokestatic 51, 3), (63, .ladd, 1), (64, .lreturn, 1)]
set_option maxRecDepth 100000 in
theorem eX5_minuteAt : ∀ x ∈ tX5_minuteAt, decode cX5_minuteAt x.1 = .ok x.2 := by decide +kernel
def kX5_minuteAt : zc_C := ([(12, 0, 0), (1, (-9223372036854775808), 9223372036854775807)], [], [], [], [], [(some (1, (-9223372036854775808), 9223372036854775807), [], [])])
def pX5_minuteAt : List zp_P := []
def KX5_minuteAt : zk_K := (5, RTg, gfX5, ciX5, clX5, [], [(117, kX5_startOf), (148, kJ9_floorDiv_f86c9), (204, kJ9_min_f86c9)], [], [])
set_option maxRecDepth 100000 in
theorem qX5_minuteAt : zy_ck KX5_minuteAt tX5_minuteAt pX5_minuteAt kX5_minuteAt 2 1 4000 = true := by decide +kernel
set_option maxRecDepth 100000 in
theorem mX5_minuteAt (l : Launch) (D : va_G) (cA : Nat → ClassId) (ro : Nat → Option Nat) (sz : Nat) (H0 : Heap) : zy_M l D cA RTg ro sz H0 (zKn D cA ro sz H0) yX5_minuteAt (gW yX5_minuteAt cX5_minuteAt 5 (some .long)) { frames := 2, cells := 0, slots := 0, locals := 46 } kX5_minuteAt :=
  zy_met (zn := "MomentTexts$Zone") (K := KX5_minuteAt) (tb := tX5_minuteAt) (pts := pX5_minuteAt) (rc := 2) (N := 1) (fuel := 4000) (by decide +kernel) rfl rfl (by decide +kernel) rfl rfl (by decide +kernel) eX5_minuteAt qX5_minuteAt (fun p e s m args below meth c Q hx hb hml hown hts hKn => by
    have h2 : ∀ w ∈ gT, w.before args s = true := fun w hw => hts w (List.mem_cons_of_mem _ hw)
    exact ⟨hx, hb, zD_all h2 hKn.1, zArN hKn, zf_clause h2 hown hKn.1 gfX5_ok (by decide +kernel), fun i n h => (by obtain ⟨x, h3, h4⟩ := ciX5_ok i n h; exact ⟨_, x, hown, h2 _ h3, h4⟩), fun i n h => (by obtain ⟨x, h3, h4⟩ := clX5_ok i n h; exact ⟨_, x, hown, h2 _ h3, h4⟩), (zgs_n), 
      zct_c (zr_V (idx := 29) (r := 4) (ci := 4) (n0 := 0) (fs := fsX5) (lo := 0) (hi0 := 0) (ts := [(1, (-9223372036854775808), 9223372036854775807)]) hx hb hml hown hts hKn zKb (mX5_startOf l D cA ro sz H0) ⟨rfl, rfl⟩ ⟨by decide, by decide⟩ ⟨Nat.zero_le _, Nat.zero_le _⟩ (tb_3 144 rfl rfl) (tb_1 2 rfl rfl) (tb_3 141 rfl rfl) (tb_3 142 rfl rfl) (tb_3 143 rfl rfl) (by decide +kernel) rfl rfl (zCX5 hKn.1) rfl) (
      zct_c (zr_S (idx := 37) hx hb hml hown hts hKn zKb (mJ9_floorDiv_f86c9 l D cA ro sz H0) ⟨rfl, rfl⟩ ⟨by decide, by decide⟩ ⟨Nat.zero_le _, Nat.zero_le _⟩ (tb_3 39 rfl rfl) (tb_1 18 rfl rfl) (tb_3 116 rfl rfl) (tb_3 38 rfl rfl) (by decide +kernel) rfl) (
      zct_c (zr_S (idx := 51) hx hb hml hown hts hKn zKb (mJ9_min_f86c9 l D cA ro sz H0) ⟨rfl, rfl⟩ ⟨by decide, by decide⟩ ⟨Nat.zero_le _, Nat.zero_le _⟩ (tb_3 154 rfl rfl) (tb_1 18 rfl rfl) (tb_3 152 rfl rfl) (tb_3 153 rfl rfl) (by decide +kernel) rfl) (zct_n)))⟩)
def tX5_secondAt : List (Nat × Instr × Nat) := [(0, .lload_n 1, 1), (1, .aload_n 0, 1), (2, .aload_n 0, 1), (3, .lload_n 1, 1), (4, .invokevirtual 54, 3), (7, .iconst 0, 1), (8, .invokevirtual 57, 3), (11, .lsub, 1), (12, .l2i, 1), (13, .ireturn, 1)]
set_option maxRecDepth 100000 in
theorem eX5_secondAt : ∀ x ∈ tX5_secondAt, decode cX5_secondAt x.1 = .ok x.2 := by decide +kernel
def kX5_secondAt : zc_C := ([(12, 0, 0), (1, (-9223372036854775808), 9223372036854775807)], [], [], [], [], [(some (0, (-2147483648), 2147483647), [], [])])
def pX5_secondAt : List zp_P := []
def KX5_secondAt : zk_K := (3, RTg, gfX5, ciX5, clX5, [], [(217, kX5_minuteAt), (229, kX5_instantOf)], [], [])
set_option maxRecDepth 100000 in
theorem qX5_secondAt : zy_ck KX5_secondAt tX5_secondAt pX5_secondAt kX5_secondAt 1 1 4000 = true := by decide +kernel
set_option maxRecDepth 100000 in
theorem mX5_secondAt (l : Launch) (D : va_G) (cA : Nat → ClassId) (ro : Nat → Option Nat) (sz : Nat) (H0 : Heap) : zy_M l D cA RTg ro sz H0 (zKn D cA ro sz H0) yX5_secondAt (gW yX5_secondAt cX5_secondAt 3 (some .int)) { frames := 3, cells := 0, slots := 0, locals := 70 } kX5_secondAt :=
  zy_met (zn := "MomentTexts$Zone") (K := KX5_secondAt) (tb := tX5_secondAt) (pts := pX5_secondAt) (rc := 1) (N := 1) (fuel := 4000) (by decide +kernel) rfl rfl (by decide +kernel) rfl rfl (by decide +kernel) eX5_secondAt qX5_secondAt (fun p e s m args below meth c Q hx hb hml hown hts hKn => by
    have h2 : ∀ w ∈ gT, w.before args s = true := fun w hw => hts w (List.mem_cons_of_mem _ hw)
    exact ⟨hx, hb, zD_all h2 hKn.1, zArN hKn, zf_clause h2 hown hKn.1 gfX5_ok (by decide +kernel), fun i n h => (by obtain ⟨x, h3, h4⟩ := ciX5_ok i n h; exact ⟨_, x, hown, h2 _ h3, h4⟩), fun i n h => (by obtain ⟨x, h3, h4⟩ := clX5_ok i n h; exact ⟨_, x, hown, h2 _ h3, h4⟩), (zgs_n), 
      zct_c (zr_V (idx := 54) (r := 4) (ci := 4) (n0 := 0) (fs := fsX5) (lo := 0) (hi0 := 0) (ts := [(1, (-9223372036854775808), 9223372036854775807)]) hx hb hml hown hts hKn zKb (mX5_minuteAt l D cA ro sz H0) ⟨rfl, rfl⟩ ⟨by decide, by decide⟩ ⟨Nat.zero_le _, Nat.zero_le _⟩ (tb_3 151 rfl rfl) (tb_1 2 rfl rfl) (tb_3 159 rfl rfl) (tb_3 149 rfl rfl) (tb_3 150 rfl rfl) (by decide +kernel) rfl rfl (zCX5 hKn.1) rfl) (
      zct_c (zr_V (idx := 57) (r := 4) (ci := 4) (n0 := 0) (fs := fsX5) (lo := 0) (hi0 := 0) (ts := [(1, (-9223372036854775808), 9223372036854775807), (0, (-2147483648), 2147483647)]) hx hb hml hown hts hKn zKb (mX5_instantOf l D cA ro sz H0) ⟨rfl, rfl⟩ ⟨by decide, by decide⟩ ⟨Nat.zero_le _, Nat.zero_le _⟩ (tb_3 123 rfl rfl) (tb_1 2 rfl rfl) (tb_3 160 rfl rfl) (tb_3 121 rfl rfl) (tb_3 122 rfl rfl) (by decide +kernel) rfl rfl (zCX5 hKn.1) rfl) (zct_n))⟩)
