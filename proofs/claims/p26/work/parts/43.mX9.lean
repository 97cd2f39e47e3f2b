def tX9_isPlainYear : List (Nat × Instr × Nat) := [(0, .iload_n 0, 1), (1, .ifCond .lt 14, 3), (4, .iload_n 0, 1), (5, .sipush 9999, 3), (8, .if_icmp .gt 7, 3), (11, .iconst 1, 1), (12, .goto 4, 3), (15, .iconst 0, 1), (16, .ireturn, 1)]
set_option maxRecDepth 100000 in
theorem eX9_isPlainYear : ∀ x ∈ tX9_isPlainYear, decode cX9_isPlainYear x.1 = .ok x.2 := by decide +kernel
def kX9_isPlainYear : zc_C := ([(0, (-2147483648), 2147483647)], [], [], [], [], [(some (0, 0, 1), [], [])])
def pX9_isPlainYear : List zp_P := []
def KX9_isPlainYear : zk_K := (1, RTg, gfX9, ciX9, clX9, [], [], [], [])
set_option maxRecDepth 100000 in
theorem qX9_isPlainYear : zy_ck KX9_isPlainYear tX9_isPlainYear pX9_isPlainYear kX9_isPlainYear 1 1 4000 = true := by decide +kernel
set_option maxRecDepth 100000 in
theorem mX9_isPlainYear (l : Launch) (D : va_G) (cA : Nat → ClassId) (ro : Nat → Option Nat) (sz : Nat) (H0 : Heap) : zy_M l D cA RTg ro sz H0 (zKn D cA ro sz H0) yX9_isPlainYear (gW yX9_isPlainYear cX9_isPlainYear 1 (some .boolean)) { frames := 0, cells := 0, slots := 0, locals := 0 } kX9_isPlainYear :=
  zy_met (zn := "MomentTexts$Zone") (K := KX9_isPlainYear) (tb := tX9_isPlainYear) (pts := pX9_isPlainYear) (rc := 1) (N := 1) (fuel := 4000) (by decide +kernel) rfl rfl (by decide +kernel) rfl rfl (by decide +kernel) eX9_isPlainYear qX9_isPlainYear (fun p e s m args below meth c Q hx hb hml hown hts hKn => by
    have h2 : ∀ w ∈ gT, w.before args s = true := fun w hw => hts w (List.mem_cons_of_mem _ hw)
    exact ⟨hx, hb, zD_all h2 hKn.1, zArN hKn, zf_clause h2 hown hKn.1 gfX9_ok (by decide +kernel), fun i n h => (by obtain ⟨x, h3, h4⟩ := ciX9_ok i n h; exact ⟨_, x, hown, h2 _ h3, h4⟩), fun i n h => (by obtain ⟨x, h3, h4⟩ := clX9_ok i n h; exact ⟨_, x, hown, h2 _ h3, h4⟩), (zgs_n), zct_n⟩)
def tX9_start : List (Nat × Instr × Nat) := [(0, .aload_n 0, 1), (1, .iconst 0, 1), (2, .putfield 15, 3), (5, .return_, 1)]
set_option maxRecDepth 100000 in
theorem eX9_start : ∀ x ∈ tX9_start, decode cX9_start x.1 = .ok x.2 := by decide +kernel
def kX9_start : zc_C := ([(20, 0, 0)], [], [], [(8, 1)], [], [(none, [], [])])
def pX9_start : List zp_P := []
def KX9_start : zk_K := (1, RTg, gfX9, ciX9, clX9, [], [], [(8, 1)], [])
set_option maxRecDepth 100000 in
theorem qX9_start : zy_ck KX9_start tX9_start pX9_start kX9_start 4 1 4000 = true := by decide +kernel
set_option maxRecDepth 100000 in
theorem mX9_start (l : Launch) (D : va_G) (cA : Nat → ClassId) (ro : Nat → Option Nat) (sz : Nat) (H0 : Heap) : zy_M l D cA RTg ro sz H0 (zKn D cA ro sz H0) yX9_start (gW yX9_start cX9_start 1 none) { frames := 0, cells := 0, slots := 0, locals := 0 } kX9_start :=
  zy_met (zn := "MomentTexts$Zone") (K := KX9_start) (tb := tX9_start) (pts := pX9_start) (rc := 4) (N := 1) (fuel := 4000) (by decide +kernel) rfl rfl (by decide +kernel) rfl rfl (by decide +kernel) eX9_start qX9_start (fun p e s m args below meth c Q hx hb hml hown hts hKn => by
    have h2 : ∀ w ∈ gT, w.before args s = true := fun w hw => hts w (List.mem_cons_of_mem _ hw)
    exact ⟨hx, hb, zD_all h2 hKn.1, zArN hKn, zf_clause h2 hown hKn.1 gfX9_ok (by decide +kernel), fun i n h => (by obtain ⟨x, h3, h4⟩ := ciX9_ok i n h; exact ⟨_, x, hown, h2 _ h3, h4⟩), fun i n h => (by obtain ⟨x, h3, h4⟩ := clX9_ok i n h; exact ⟨_, x, hown, h2 _ h3, h4⟩), (zgs_n), zct_n⟩)
def tX9_put : List (Nat × Instr × Nat) := [(0, .aload_n 0, 1), (1, .getfield 15, 3), (4, .ifCond .lt 36, 3), (7, .aload_n 0, 1), (8, .getfield 15, 3), (11, .aload_n 0, 1), (12, .getfield 9, 3), (15, .arraylength, 1), (16, .if_icmp .ge 24, 3), (19, .aload_n 0, 1), (20, .getfield 9, 3), (23, .aload_n 0, 1), (24, .getfield 15, 3), (27, .iload_n 1, 1), (28, .i2b, 1), (29, .bastore, 1), (30, .aload_n 0, 1), (31, .dup, 1), (32, .getfield 15, 3), (35, .iconst 1, 1), (36, .iadd, 1), (37, .putfield 15, 3), (40, .return_, 1)]
set_option maxRecDepth 100000 in
theorem eX9_put : ∀ x ∈ tX9_put, decode cX9_put x.1 = .ok x.2 := by decide +kernel
def kX9_put : zc_C := ([(20, 0, 0), (0, (-2147483648), 2147483647)], [], [], [(8, 1), (16, 0)], [], [(none, [], [])])
def pX9_put : List zp_P := []
def KX9_put : zk_K := (2, RTg, gfX9, ciX9, clX9, [], [], [(8, 1), (16, 0)], [])
set_option maxRecDepth 100000 in
theorem qX9_put : zy_ck KX9_put tX9_put pX9_put kX9_put 4 1 4000 = true := by decide +kernel
set_option maxRecDepth 100000 in
theorem mX9_put (l : Launch) (D : va_G) (cA : Nat → ClassId) (ro : Nat → Option Nat) (sz : Nat) (H0 : Heap) : zy_M l D cA RTg ro sz H0 (zKn D cA ro sz H0) yX9_put (gW yX9_put cX9_put 2 none) { frames := 0, cells := 0, slots := 0, locals := 0 } kX9_put :=
  zy_met (zn := "MomentTexts$Zone") (K := KX9_put) (tb := tX9_put) (pts := pX9_put) (rc := 4) (N := 1) (fuel := 4000) (by decide +kernel) rfl rfl (by decide +kernel) rfl rfl (by decide +kernel) eX9_put qX9_put (fun p e s m args below meth c Q hx hb hml hown hts hKn => by
    have h2 : ∀ w ∈ gT, w.before args s = true := fun w hw => hts w (List.mem_cons_of_mem _ hw)
    exact ⟨hx, hb, zD_all h2 hKn.1, zArN hKn, zf_clause h2 hown hKn.1 gfX9_ok (by decide +kernel), fun i n h => (by obtain ⟨x, h3, h4⟩ := ciX9_ok i n h; exact ⟨_, x, hown, h2 _ h3, h4⟩), fun i n h => (by obtain ⟨x, h3, h4⟩ := clX9_ok i n h; exact ⟨_, x, hown, h2 _ h3, h4⟩), (zgs_n), zct_n⟩)
def tX9_putDash : List (Nat × Instr × Nat) := [(0, .iload_n 1, 1), (1, .ifCond .eq 9, 3), (4, .aload_n 0, 1), (5, .bipush 45, 2), (7, .invokevirtual 19, 3), (10, .return_, 1)]
set_option maxRecDepth 100000 in
theorem eX9_putDash : ∀ x ∈ tX9_putDash, decode cX9_putDash x.1 = .ok x.2 := by decide +kernel
def kX9_putDash : zc_C := ([(20, 0, 0), (0, 0, 1)], [], [], [(8, 1), (16, 0)], [], [(none, [], [])])
def pX9_putDash : List zp_P := []
def KX9_putDash : zk_K := (2, RTg, gfX9, ciX9, clX9, [], [(77, kX9_put)], [(8, 1), (16, 0)], [])
set_option maxRecDepth 100000 in
theorem qX9_putDash : zy_ck KX9_putDash tX9_putDash pX9_putDash kX9_putDash 4 1 4000 = true := by decide +kernel
set_option maxRecDepth 100000 in
theorem mX9_putDash (l : Launch) (D : va_G) (cA : Nat → ClassId) (ro : Nat → Option Nat) (sz : Nat) (H0 : Heap) : zy_M l D cA RTg ro sz H0 (zKn D cA ro sz H0) yX9_putDash (gW yX9_putDash cX9_putDash 2 none) { frames := 1, cells := 0, slots := 0, locals := 21 } kX9_putDash :=
  zy_met (zn := "MomentTexts$Zone") (K := KX9_putDash) (tb := tX9_putDash) (pts := pX9_putDash) (rc := 4) (N := 1) (fuel := 4000) (by decide +kernel) rfl rfl (by decide +kernel) rfl rfl (by decide +kernel) eX9_putDash qX9_putDash (fun p e s m args below meth c Q hx hb hml hown hts hKn => by
    have h2 : ∀ w ∈ gT, w.before args s = true := fun w hw => hts w (List.mem_cons_of_mem _ hw)
    exact ⟨hx, hb, zD_all h2 hKn.1, zArN hKn, zf_clause h2 hown hKn.1 gfX9_ok (by decide +kernel), fun i n h => (by obtain ⟨x, h3, h4⟩ := ciX9_ok i n h; exact ⟨_, x, hown, h2 _ h3, h4⟩), fun i n h => (by obtain ⟨x, h3, h4⟩ := clX9_ok i n h; exact ⟨_, x, hown, h2 _ h3, h4⟩), (zgs_n), 
      zct_c (zr_V (idx := 19) (r := 8) (ci := 8) (n0 := 0) (fs := fsX9) (lo := 0) (hi0 := 0) (ts := [(0, (-2147483648), 2147483647)]) hx hb hml hown hts hKn zKb (mX9_put l D cA ro sz H0) ⟨rfl, rfl⟩ ⟨by decide, by decide⟩ ⟨Nat.zero_le _, Nat.zero_le _⟩ (tb_5 227 rfl rfl) (tb_1 6 rfl rfl) (tb_5 224 rfl rfl) (tb_5 225 rfl rfl) (tb_5 226 rfl rfl) (by decide +kernel) rfl rfl (zCX9 hKn.1) rfl) (zct_n)⟩)
def tX9_putDigits : List (Nat × Instr × Nat) := [(0, .aload_n 0, 1), (1, .getfield 15, 3), (4, .ifCond .lt 21, 3), (7, .iload_n 3, 1), (8, .ifCond .lt 17, 3), (11, .iload_n 3, 1), (12, .aload_n 0, 1), (13, .getfield 9, 3), (16, .arraylength, 1), (17, .aload_n 0, 1), (18, .getfield 15, 3), (21, .isub, 1), (22, .if_icmp .le 4, 3), (25, .return_, 1), (26, .lload_n 1, 1), (27, .lstore 4, 2), (29, .aload_n 0, 1), (30, .getfield 15, 3), (33, .iload_n 3, 1), (34, .iadd, 1), (35, .iconst 1, 1), (36, .isub, 1), (37, .istore 6, 2), (39, .iload 6, 2), (41, .aload_n 0, 1), (42, .getfield 15, 3), (45, .if_icmp .lt 36, 3), (48, .aload_n 0, 1), (49, .getfield 9, 3), (52, .iload 6, 2), (54, .ldc2_w 23, 3), (57, .lload 4, 2), (59, .ldc2_w 25, 3), (62, .lrem, 1), (63, .ladd, 1), (64, .l2i, 1), (65, .i2b, 1), (66, .bastore, 1), (67, .lload 4, 2), (69, .ldc2_w 25, 3), (72, .ldiv, 1), (73, .lstore 4, 2), (75, .iinc 6 (-1), 3), (78, .goto (-39), 3), (81, .aload_n 0, 1), (82, .dup, 1), (83, .getfield 15, 3), (86, .iload_n 3, 1), (87, .iadd, 1), (88, .putfield 15, 3), (91, .return_, 1)]
set_option maxRecDepth 100000 in
theorem eX9_putDigits : ∀ x ∈ tX9_putDigits, decode cX9_putDigits x.1 = .ok x.2 := by decide +kernel
def kX9_putDigits : zc_C := ([(20, 0, 0), (1, (-9223372036854775808), 9223372036854775807), (0, (-2147483648), 2147483647)], [], [], [(8, 1), (16, 0)], [], [(none, [], [])])
def pX9_putDigits : List zp_P := [(39, [(0, (-1)), ((-9223372036854775808), 9223372036854775807), (0, 120), ((-9223372036854775808), 9223372036854775807), ((-1), 119), (0, (-1)), (0, 120), (0, (-1)), ((-9223372036854775808), 9223372036854775807), ((-2147483648), 2147483647)], [([(4, 1), (6, (-1)), (2, (-1))], 1), ([(6, 1), (2, 1)], (-120))], [(0, 20), (1, 1), (3, 0), (4, 1), (6, 0)], [], [((0, 8, 0), 36), ((0, 8, 1), 0)], 3, [([], 30), ([(4, 1)], 2147483649), ([], 30)])]
def KX9_putDigits : zk_K := (7, RTg, gfX9, ciX9, clX9, [], [], [(8, 1), (16, 0)], [])
set_option maxRecDepth 100000 in
theorem qX9_putDigits : zy_ck KX9_putDigits tX9_putDigits pX9_putDigits kX9_putDigits 4 3 4000 = true := by decide +kernel
set_option maxRecDepth 100000 in
theorem mX9_putDigits (l : Launch) (D : va_G) (cA : Nat → ClassId) (ro : Nat → Option Nat) (sz : Nat) (H0 : Heap) : zy_M l D cA RTg ro sz H0 (zKn D cA ro sz H0) yX9_putDigits (gW yX9_putDigits cX9_putDigits 7 none) { frames := 0, cells := 0, slots := 0, locals := 0 } kX9_putDigits :=
  zy_met (zn := "MomentTexts$Zone") (K := KX9_putDigits) (tb := tX9_putDigits) (pts := pX9_putDigits) (rc := 4) (N := 3) (fuel := 4000) (by decide +kernel) rfl rfl (by decide +kernel) rfl rfl (by decide +kernel) eX9_putDigits qX9_putDigits (fun p e s m args below meth c Q hx hb hml hown hts hKn => by
    have h2 : ∀ w ∈ gT, w.before args s = true := fun w hw => hts w (List.mem_cons_of_mem _ hw)
    exact ⟨hx, hb, zD_all h2 hKn.1, zArN hKn, zf_clause h2 hown hKn.1 gfX9_ok (by decide +kernel), fun i n h => (by obtain ⟨x, h3, h4⟩ := ciX9_ok i n h; exact ⟨_, x, hown, h2 _ h3, h4⟩), fun i n h => (by obtain ⟨x, h3, h4⟩ := clX9_ok i n h; exact ⟨_, x, hown, h2 _ h3, h4⟩), (zgs_n), zct_n⟩)
def tX9_putNumber : List (Nat × Instr × Nat) := [(0, .iconst 1, 1), (1, .istore_n 3, 1), (2, .lload_n 1, 1), (3, .ldc2_w 25, 3), (6, .ldiv, 1), (7, .lstore 4, 2), (9, .lload 4, 2), (11, .lconst 0, 1), (12, .lcmp, 1), (13, .ifCond .le 23, 3), (16, .iload_n 3, 1), (17, .bipush 19, 2), (19, .if_icmp .ge 17, 3), (22, .iinc 3 1, 3), (25, .lload 4, 2), (27, .ldc2_w 25, 3), (30, .ldiv, 1), (31, .lstore 4, 2), (33, .goto (-24), 3), (36, .aload_n 0, 1), (37, .lload_n 1, 1), (38, .iload_n 3, 1), (39, .invokevirtual 27, 3), (42, .return_, 1)]
set_option maxRecDepth 100000 in
theorem eX9_putNumber : ∀ x ∈ tX9_putNumber, decode cX9_putNumber x.1 = .ok x.2 := by decide +kernel
def kX9_putNumber : zc_C := ([(20, 0, 0), (1, (-9223372036854775808), 9223372036854775807)], [], [], [(8, 1), (16, 0)], [], [(none, [], [])])
def pX9_putNumber : List zp_P := [(9, [(0, (-1)), ((-9223372036854775808), 9223372036854775807), (1, 19), ((-922337203685477581), 922337203685477581), (0, (-1)), ((-9223372036854775808), 9223372036854775807)], [], [(0, 20), (1, 1), (3, 0), (4, 1)], [], [], 2, [([], 19), ([(2, (-1))], 2147483649), ([], 19)])]
def KX9_putNumber : zk_K := (6, RTg, gfX9, ciX9, clX9, [], [(109, kX9_putDigits)], [(8, 1), (16, 0)], [])
set_option maxRecDepth 100000 in
theorem qX9_putNumber : zy_ck KX9_putNumber tX9_putNumber pX9_putNumber kX9_putNumber 4 3 4000 = true := by decide +kernel
set_option maxRecDepth 100000 in
theorem mX9_putNumber (l : Launch) (D : va_G) (cA : Nat → ClassId) (ro : Nat → Option Nat) (sz : Nat) (H0 : Heap) : zy_M l D cA RTg ro sz H0 (zKn D cA ro sz H0) yX9_putNumber (gW yX9_putNumber cX9_putNumber 6 none) { frames := 1, cells := 0, slots := 0, locals := 26 } kX9_putNumber :=
  zy_met (zn := "MomentTexts$Zone") (K := KX9_putNumber) (tb := tX9_putNumber) (pts := pX9_putNumber) (rc := 4) (N := 3) (fuel := 4000) (by decide +kernel) rfl rfl (by decide +kernel) rfl rfl (by decide +kernel) eX9_putNumber qX9_putNumber (fun p e s m args below meth c Q hx hb hml hown hts hKn => by
    have h2 : ∀ w ∈ gT, w.before args s = true := fun w hw => hts w (List.mem_cons_of_mem _ hw)
    exact ⟨hx, hb, zD_all h2 hKn.1, zArN hKn, zf_clause h2 hown hKn.1 gfX9_ok (by decide +kernel), fun i n h => (by obtain ⟨x, h3, h4⟩ := ciX9_ok i n h; exact ⟨_, x, hown, h2 _ h3, h4⟩), fun i n h => (by obtain ⟨x, h3, h4⟩ := clX9_ok i n h; exact ⟨_, x, hown, h2 _ h3, h4⟩), (zgs_n), 
      zct_c (zr_V (idx := 27) (r := 8) (ci := 8) (n0 := 0) (fs := fsX9) (lo := 0) (hi0 := 0) (ts := [(1, (-9223372036854775808), 9223372036854775807), (0, (-2147483648), 2147483647)]) hx hb hml hown hts hKn zKb (mX9_putDigits l D cA ro sz H0) ⟨rfl, rfl⟩ ⟨by decide, by decide⟩ ⟨Nat.zero_le _, Nat.zero_le _⟩ (tb_5 221 rfl rfl) (tb_1 6 rfl rfl) (tb_5 218 rfl rfl) (tb_5 219 rfl rfl) (tb_5 220 rfl rfl) (by decide +kernel) rfl rfl (zCX9 hKn.1) rfl) (zct_n)⟩)
def tX9_putYear : List (Nat × Instr × Nat) := [(0, .iload_n 1, 1), (1, .invokestatic 31, 3), (4, .ifCond .eq 13, 3), (7, .aload_n 0, 1), (8, .iload_n 1, 1), (9, .i2l, 1), (10, .iconst 4, 1), (11, .invokevirtual 27, 3), (14, .goto 29, 3), (17, .aload_n 0, 1), (18, .iload_n 1, 1), (19, .ifCond .ge 8, 3), (22, .bipush 45, 2), (24, .goto 5, 3), (27, .bipush 43, 2), (29, .invokevirtual 19, 3), (32, .aload_n 0, 1), (33, .iload_n 1, 1), (34, .invokestatic 35, 3), (37, .i2l, 1), (38, .bipush 6, 2), (40, .invokevirtual 27, 3), (43, .return_, 1)]
set_option maxRecDepth 100000 in
theorem eX9_putYear : ∀ x ∈ tX9_putYear, decode cX9_putYear x.1 = .ok x.2 := by decide +kernel
def kX9_putYear : zc_C := ([(20, 0, 0), (0, (-2147483648), 2147483647)], [], [], [(8, 1), (16, 0)], [], [(none, [], [])])
def pX9_putYear : List zp_P := []
def KX9_putYear : zk_K := (2, RTg, gfX9, ciX9, clX9, [], [(77, kX9_put), (109, kX9_putDigits), (124, kX9_isPlainYear), (140, kJ9_abs_0f7a4)], [(8, 1), (16, 0)], [])
set_option maxRecDepth 100000 in
theorem qX9_putYear : zy_ck KX9_putYear tX9_putYear pX9_putYear kX9_putYear 4 1 4000 = true := by decide +kernel
set_option maxRecDepth 100000 in
theorem mX9_putYear (l : Launch) (D : va_G) (cA : Nat → ClassId) (ro : Nat → Option Nat) (sz : Nat) (H0 : Heap) : zy_M l D cA RTg ro sz H0 (zKn D cA ro sz H0) yX9_putYear (gW yX9_putYear cX9_putYear 2 none) { frames := 1, cells := 0, slots := 0, locals := 26 } kX9_putYear :=
  zy_met (zn := "MomentTexts$Zone") (K := KX9_putYear) (tb := tX9_putYear) (pts := pX9_putYear) (rc := 4) (N := 1) (fuel := 4000) (by decide +kernel) rfl rfl (by decide +kernel) rfl rfl (by decide +kernel) eX9_putYear qX9_putYear (fun p e s m args below meth c Q hx hb hml hown hts hKn => by
    have h2 : ∀ w ∈ gT, w.before args s = true := fun w hw => hts w (List.mem_cons_of_mem _ hw)
    exact ⟨hx, hb, zD_all h2 hKn.1, zArN hKn, zf_clause h2 hown hKn.1 gfX9_ok (by decide +kernel), fun i n h => (by obtain ⟨x, h3, h4⟩ := ciX9_ok i n h; exact ⟨_, x, hown, h2 _ h3, h4⟩), fun i n h => (by obtain ⟨x, h3, h4⟩ := clX9_ok i n h; exact ⟨_, x, hown, h2 _ h3, h4⟩), (zgs_n), 
      zct_c (zr_V (idx := 19) (r := 8) (ci := 8) (n0 := 0) (fs := fsX9) (lo := 0) (hi0 := 0) (ts := [(0, (-2147483648), 2147483647)]) hx hb hml hown hts hKn zKb (mX9_put l D cA ro sz H0) ⟨rfl, rfl⟩ ⟨by decide, by decide⟩ ⟨Nat.zero_le _, Nat.zero_le _⟩ (tb_5 227 rfl rfl) (tb_1 6 rfl rfl) (tb_5 224 rfl rfl) (tb_5 225 rfl rfl) (tb_5 226 rfl rfl) (by decide +kernel) rfl rfl (zCX9 hKn.1) rfl) (
      zct_c (zr_V (idx := 27) (r := 8) (ci := 8) (n0 := 0) (fs := fsX9) (lo := 0) (hi0 := 0) (ts := [(1, (-9223372036854775808), 9223372036854775807), (0, (-2147483648), 2147483647)]) hx hb hml hown hts hKn zKb (mX9_putDigits l D cA ro sz H0) ⟨rfl, rfl⟩ ⟨by decide, by decide⟩ ⟨Nat.zero_le _, Nat.zero_le _⟩ (tb_5 221 rfl rfl) (tb_1 6 rfl rfl) (tb_5 218 rfl rfl) (tb_5 219 rfl rfl) (tb_5 220 rfl rfl) (by decide +kernel) rfl rfl (zCX9 hKn.1) rfl) (
      zct_c (zr_S (idx := 31) hx hb hml hown hts hKn zKb (mX9_isPlainYear l D cA ro sz H0) ⟨rfl, rfl⟩ ⟨by decide, by decide⟩ ⟨Nat.zero_le _, Nat.zero_le _⟩ (tb_5 208 rfl rfl) (tb_1 6 rfl rfl) (tb_5 217 rfl rfl) (tb_5 207 rfl rfl) (by decide +kernel) rfl) (
      zct_c (zr_S (idx := 35) hx hb hml hown hts hKn zKb (mJ9_abs_0f7a4 l D cA ro sz H0) ⟨rfl, rfl⟩ ⟨by decide, by decide⟩ ⟨Nat.zero_le _, Nat.zero_le _⟩ (tb_5 230 rfl rfl) (tb_1 18 rfl rfl) (tb_5 228 rfl rfl) (tb_5 229 rfl rfl) (by decide +kernel) rfl) (zct_n))))⟩)
def tX9_putMonthAndDay : List (Nat × Instr × Nat) := [(0, .aload_n 0, 1), (1, .iload_n 3, 1), (2, .invokevirtual 41, 3), (5, .aload_n 0, 1), (6, .lload_n 1, 1), (7, .invokestatic 45, 3), (10, .i2l, 1), (11, .iconst 2, 1), (12, .invokevirtual 27, 3), (15, .aload_n 0, 1), (16, .iload_n 3, 1), (17, .invokevirtual 41, 3), (20, .aload_n 0, 1), (21, .lload_n 1, 1), (22, .invokestatic 51, 3), (25, .i2l, 1), (26, .iconst 2, 1), (27, .invokevirtual 27, 3), (30, .return_, 1)]
set_option maxRecDepth 100000 in
theorem eX9_putMonthAndDay : ∀ x ∈ tX9_putMonthAndDay, decode cX9_putMonthAndDay x.1 = .ok x.2 := by decide +kernel
def kX9_putMonthAndDay : zc_C := ([(20, 0, 0), (1, (-9223372036854775808), 9223372036854775807), (0, 0, 1)], [], [], [(8, 1), (16, 0)], [], [(none, [], [])])
def pX9_putMonthAndDay : List zp_P := []
def KX9_putMonthAndDay : zk_K := (4, RTg, gfX9, ciX9, clX9, [], [(109, kX9_putDigits), (165, kX9_putDash), (180, kX2_monthOf), (204, kX2_dayOfMonth)], [(8, 1), (16, 0)], [])
set_option maxRecDepth 100000 in
theorem qX9_putMonthAndDay : zy_ck KX9_putMonthAndDay tX9_putMonthAndDay pX9_putMonthAndDay kX9_putMonthAndDay 4 1 4000 = true := by decide +kernel
set_option maxRecDepth 100000 in
theorem mX9_putMonthAndDay (l : Launch) (D : va_G) (cA : Nat → ClassId) (ro : Nat → Option Nat) (sz : Nat) (H0 : Heap) : zy_M l D cA RTg ro sz H0 (zKn D cA ro sz H0) yX9_putMonthAndDay (gW yX9_putMonthAndDay cX9_putMonthAndDay 4 none) { frames := 4, cells := 0, slots := 0, locals := 90 } kX9_putMonthAndDay :=
  zy_met (zn := "MomentTexts$Zone") (K := KX9_putMonthAndDay) (tb := tX9_putMonthAndDay) (pts := pX9_putMonthAndDay) (rc := 4) (N := 1) (fuel := 4000) (by decide +kernel) rfl rfl (by decide +kernel) rfl rfl (by decide +kernel) eX9_putMonthAndDay qX9_putMonthAndDay (fun p e s m args below meth c Q hx hb hml hown hts hKn => by
    have h2 : ∀ w ∈ gT, w.before args s = true := fun w hw => hts w (List.mem_cons_of_mem _ hw)
    exact ⟨hx, hb, zD_all h2 hKn.1, zArN hKn, zf_clause h2 hown hKn.1 gfX9_ok (by decide +kernel), fun i n h => (by obtain ⟨x, h3, h4⟩ := ciX9_ok i n h; exact ⟨_, x, hown, h2 _ h3, h4⟩), fun i n h => (by obtain ⟨x, h3, h4⟩ := clX9_ok i n h; exact ⟨_, x, hown, h2 _ h3, h4⟩), (zgs_n), 
      zct_c (zr_V (idx := 27) (r := 8) (ci := 8) (n0 := 0) (fs := fsX9) (lo := 0) (hi0 := 0) (ts := [(1, (-9223372036854775808), 9223372036854775807), (0, (-2147483648), 2147483647)]) hx hb hml hown hts hKn zKb (mX9_putDigits l D cA ro sz H0) ⟨rfl, rfl⟩ ⟨by decide, by decide⟩ ⟨Nat.zero_le _, Nat.zero_le _⟩ (tb_5 221 rfl rfl) (tb_1 6 rfl rfl) (tb_5 218 rfl rfl) (tb_5 219 rfl rfl) (tb_5 220 rfl rfl) (by decide +kernel) rfl rfl (zCX9 hKn.1) rfl) (
      zct_c (zr_V (idx := 41) (r := 8) (ci := 8) (n0 := 0) (fs := fsX9) (lo := 0) (hi0 := 0) (ts := [(0, 0, 1)]) hx hb hml hown hts hKn zKb (mX9_putDash l D cA ro sz H0) ⟨rfl, rfl⟩ ⟨by decide, by decide⟩ ⟨Nat.zero_le _, Nat.zero_le _⟩ (tb_5 238 rfl rfl) (tb_1 6 rfl rfl) (tb_5 235 rfl rfl) (tb_5 236 rfl rfl) (tb_5 237 rfl rfl) (by decide +kernel) rfl rfl (zCX9 hKn.1) rfl) (
      zct_c (zr_S (idx := 45) hx hb hml hown hts hKn zKb (mX2_monthOf l D cA ro sz H0) ⟨rfl, rfl⟩ ⟨by decide, by decide⟩ ⟨Nat.zero_le _, Nat.zero_le _⟩ (tb_2 222 rfl rfl) (tb_1 13 rfl rfl) (tb_6 9 rfl rfl) (tb_2 221 rfl rfl) (by decide +kernel) rfl) (
      zct_c (zr_S (idx := 51) hx hb hml hown hts hKn zKb (mX2_dayOfMonth l D cA ro sz H0) ⟨rfl, rfl⟩ ⟨by decide, by decide⟩ ⟨Nat.zero_le _, Nat.zero_le _⟩ (tb_2 227 rfl rfl) (tb_1 13 rfl rfl) (tb_6 10 rfl rfl) (tb_2 226 rfl rfl) (by decide +kernel) rfl) (zct_n))))⟩)
def tX9_putOrdinal : List (Nat × Instr × Nat) := [(0, .aload_n 0, 1), (1, .iload_n 2, 1), (2, .invokevirtual 41, 3), (5, .aload_n 0, 1), (6, .iload_n 1, 1), (7, .i2l, 1), (8, .iconst 3, 1), (9, .invokevirtual 27, 3), (12, .return_, 1)]
set_option maxRecDepth 100000 in
theorem eX9_putOrdinal : ∀ x ∈ tX9_putOrdinal, decode cX9_putOrdinal x.1 = .ok x.2 := by decide +kernel
def kX9_putOrdinal : zc_C := ([(20, 0, 0), (0, (-2147483648), 2147483647), (0, 0, 1)], [], [], [(8, 1), (16, 0)], [], [(none, [], [])])
def pX9_putOrdinal : List zp_P := []
def KX9_putOrdinal : zk_K := (3, RTg, gfX9, ciX9, clX9, [], [(109, kX9_putDigits), (165, kX9_putDash)], [(8, 1), (16, 0)], [])
set_option maxRecDepth 100000 in
theorem qX9_putOrdinal : zy_ck KX9_putOrdinal tX9_putOrdinal pX9_putOrdinal kX9_putOrdinal 4 1 4000 = true := by decide +kernel
set_option maxRecDepth 100000 in
theorem mX9_putOrdinal (l : Launch) (D : va_G) (cA : Nat → ClassId) (ro : Nat → Option Nat) (sz : Nat) (H0 : Heap) : zy_M l D cA RTg ro sz H0 (zKn D cA ro sz H0) yX9_putOrdinal (gW yX9_putOrdinal cX9_putOrdinal 3 none) { frames := 2, cells := 0, slots := 0, locals := 42 } kX9_putOrdinal :=
  zy_met (zn := "MomentTexts$Zone") (K := KX9_putOrdinal) (tb := tX9_putOrdinal) (pts := pX9_putOrdinal) (rc := 4) (N := 1) (fuel := 4000) (by decide +kernel) rfl rfl (by decide +kernel) rfl rfl (by decide +kernel) eX9_putOrdinal qX9_putOrdinal (fun p e s m args below meth c Q hx hb hml hown hts hKn => by
    have h2 : ∀ w ∈ gT, w.before args s = true := fun w hw => hts w (List.mem_cons_of_mem _ hw)
    exact ⟨hx, hb, zD_all h2 hKn.1, zArN hKn, zf_clause h2 hown hKn.1 gfX9_ok (by decide +kernel), fun i n h => (by obtain ⟨x, h3, h4⟩ := ciX9_ok i n h; exact ⟨_, x, hown, h2 _ h3, h4⟩), fun i n h => (by obtain ⟨x, h3, h4⟩ := clX9_ok i n h; exact ⟨_, x, hown, h2 _ h3, h4⟩), (zgs_n), 
      zct_c (zr_V (idx := 27) (r := 8) (ci := 8) (n0 := 0) (fs := fsX9) (lo := 0) (hi0 := 0) (ts := [(1, (-9223372036854775808), 9223372036854775807), (0, (-2147483648), 2147483647)]) hx hb hml hown hts hKn zKb (mX9_putDigits l D cA ro sz H0) ⟨rfl, rfl⟩ ⟨by decide, by decide⟩ ⟨Nat.zero_le _, Nat.zero_le _⟩ (tb_5 221 rfl rfl) (tb_1 6 rfl rfl) (tb_5 218 rfl rfl) (tb_5 219 rfl rfl) (tb_5 220 rfl rfl) (by decide +kernel) rfl rfl (zCX9 hKn.1) rfl) (
      zct_c (zr_V (idx := 41) (r := 8) (ci := 8) (n0 := 0) (fs := fsX9) (lo := 0) (hi0 := 0) (ts := [(0, 0, 1)]) hx hb hml hown hts hKn zKb (mX9_putDash l D cA ro sz H0) ⟨rfl, rfl⟩ ⟨by decide, by decide⟩ ⟨Nat.zero_le _, Nat.zero_le _⟩ (tb_5 238 rfl rfl) (tb_1 6 rfl rfl) (tb_5 235 rfl rfl) (tb_5 236 rfl rfl) (tb_5 237 rfl rfl) (by decide +kernel) rfl rfl (zCX9 hKn.1) rfl) (zct_n))⟩)
def tX9_putWeek : List (Nat × Instr × Nat) := [(0, .aload_n 0, 1), (1, .iload_n 3, 1), (2, .invokevirtual 41, 3), (5, .aload_n 0, 1), (6, .bipush 87, 2), (8, .invokevirtual 19, 3), (11, .aload_n 0, 1), (12, .lload_n 1, 1), (13, .invokestatic 54, 3), (16, .i2l, 1), (17, .iconst 2, 1), (18, .invokevirtual 27, 3), (21, .aload_n 0, 1), (22, .iload_n 3, 1), (23, .invokevirtual 41, 3), (26, .aload_n 0, 1), (27, .lload_n 1, 1), (28, .invokestatic 57, 3), (31, .i2l, 1), (32, .iconst 1, 1), (33, .invokevirtual 27, 3), (36, .return_, 1)]
set_option maxRecDepth 100000 in
theorem eX9_putWeek : ∀ x ∈ tX9_putWeek, decode cX9_putWeek x.1 = .ok x.2 := by decide +kernel
def kX9_putWeek : zc_C := ([(20, 0, 0), (1, (-9223372036854775808), 9223372036854775807), (0, 0, 1)], [], [], [(8, 1), (16, 0)], [], [(none, [], [])])
def pX9_putWeek : List zp_P := []
def KX9_putWeek : zk_K := (4, RTg, gfX9, ciX9, clX9, [], [(77, kX9_put), (109, kX9_putDigits), (165, kX9_putDash), (216, kX2_weekOf), (228, kX2_weekdayOf)], [(8, 1), (16, 0)], [])
set_option maxRecDepth 100000 in
theorem qX9_putWeek : zy_ck KX9_putWeek tX9_putWeek pX9_putWeek kX9_putWeek 4 1 4000 = true := by decide +kernel
set_option maxRecDepth 100000 in
theorem mX9_putWeek (l : Launch) (D : va_G) (cA : Nat → ClassId) (ro : Nat → Option Nat) (sz : Nat) (H0 : Heap) : zy_M l D cA RTg ro sz H0 (zKn D cA ro sz H0) yX9_putWeek (gW yX9_putWeek cX9_putWeek 4 none) { frames := 3, cells := 0, slots := 0, locals := 67 } kX9_putWeek :=
  zy_met (zn := "MomentTexts$Zone") (K := KX9_putWeek) (tb := tX9_putWeek) (pts := pX9_putWeek) (rc := 4) (N := 1) (fuel := 4000) (by decide +kernel) rfl rfl (by decide +kernel) rfl rfl (by decide +kernel) eX9_putWeek qX9_putWeek (fun p e s m args below meth c Q hx hb hml hown hts hKn => by
    have h2 : ∀ w ∈ gT, w.before args s = true := fun w hw => hts w (List.mem_cons_of_mem _ hw)
    exact ⟨hx, hb, zD_all h2 hKn.1, zArN hKn, zf_clause h2 hown hKn.1 gfX9_ok (by decide +kernel), fun i n h => (by obtain ⟨x, h3, h4⟩ := ciX9_ok i n h; exact ⟨_, x, hown, h2 _ h3, h4⟩), fun i n h => (by obtain ⟨x, h3, h4⟩ := clX9_ok i n h; exact ⟨_, x, hown, h2 _ h3, h4⟩), (zgs_n), 
      zct_c (zr_V (idx := 19) (r := 8) (ci := 8) (n0 := 0) (fs := fsX9) (lo := 0) (hi0 := 0) (ts := [(0, (-2147483648), 2147483647)]) hx hb hml hown hts hKn zKb (mX9_put l D cA ro sz H0) ⟨rfl, rfl⟩ ⟨by decide, by decide⟩ ⟨Nat.zero_le _, Nat.zero_le _⟩ (tb_5 227 rfl rfl) (tb_1 6 rfl rfl) (tb_5 224 rfl rfl) (tb_5 225 rfl rfl) (tb_5 226 rfl rfl) (by decide +kernel) rfl rfl (zCX9 hKn.1) rfl) (
      zct_c (zr_V (idx := 27) (r := 8) (ci := 8) (n0 := 0) (fs := fsX9) (lo := 0) (hi0 := 0) (ts := [(1, (-9223372036854775808), 9223372036854775807), (0, (-2147483648), 2147483647)]) hx hb hml hown hts hKn zKb (mX9_putDigits l D cA ro sz H0) ⟨rfl, rfl⟩ ⟨by decide, by decide⟩ ⟨Nat.zero_le _, Nat.zero_le _⟩ (tb_5 221 rfl rfl) (tb_1 6 rfl rfl) (tb_5 218 rfl rfl) (tb_5 219 rfl rfl) (tb_5 220 rfl rfl) (by decide +kernel) rfl rfl (zCX9 hKn.1) rfl) (
      zct_c (zr_V (idx := 41) (r := 8) (ci := 8) (n0 := 0) (fs := fsX9) (lo := 0) (hi0 := 0) (ts := [(0, 0, 1)]) hx hb hml hown hts hKn zKb (mX9_putDash l D cA ro sz H0) ⟨rfl, rfl⟩ ⟨by decide, by decide⟩ ⟨Nat.zero_le _, Nat.zero_le _⟩ (tb_5 238 rfl rfl) (tb_1 6 rfl rfl) (tb_5 235 rfl rfl) (tb_5 236 rfl rfl) (tb_5 237 rfl rfl) (by decide +kernel) rfl rfl (zCX9 hKn.1) rfl) (
      zct_c (zr_S (idx := 54) hx hb hml hown hts hKn zKb (mX2_weekOf l D cA ro sz H0) ⟨rfl, rfl⟩ ⟨by decide, by decide⟩ ⟨Nat.zero_le _, Nat.zero_le _⟩ (tb_3 4 rfl rfl) (tb_1 13 rfl rfl) (tb_5 239 rfl rfl) (tb_3 3 rfl rfl) (by decide +kernel) rfl) (
      zct_c (zr_S (idx := 57) hx hb hml hown hts hKn zKb (mX2_weekdayOf l D cA ro sz H0) ⟨rfl, rfl⟩ ⟨by decide, by decide⟩ ⟨Nat.zero_le _, Nat.zero_le _⟩ (tb_2 231 rfl rfl) (tb_1 13 rfl rfl) (tb_6 0 rfl rfl) (tb_2 230 rfl rfl) (by decide +kernel) rfl) (zct_n)))))⟩)
def tX9_putTime : List (Nat × Instr × Nat) := [(0, .aload_n 0, 1), (1, .bipush 84, 2), (3, .invokevirtual 19, 3), (6, .aload_n 0, 1), (7, .iload_n 1, 1), (8, .bipush 60, 2), (10, .idiv, 1), (11, .i2l, 1), (12, .iconst 2, 1), (13, .invokevirtual 27, 3), (16, .aload_n 0, 1), (17, .bipush 58, 2), (19, .invokevirtual 19, 3), (22, .aload_n 0, 1), (23, .iload_n 1, 1), (24, .bipush 60, 2), (26, .irem, 1), (27, .i2l, 1), (28, .iconst 2, 1), (29, .invokevirtual 27, 3), (32, .aload_n 0, 1), (33, .bipush 58, 2), (35, .invokevirtual 19, 3), (38, .aload_n 0, 1), (39, .iload_n 2, 1), (40, .i2l, 1), (41, .iconst 2, 1), (42, .invokevirtual 27, 3), (45, .return_, 1)]
set_option maxRecDepth 100000 in
theorem eX9_putTime : ∀ x ∈ tX9_putTime, decode cX9_putTime x.1 = .ok x.2 := by decide +kernel
def kX9_putTime : zc_C := ([(20, 0, 0), (0, (-2147483648), 2147483647), (0, (-2147483648), 2147483647)], [], [], [(8, 1), (16, 0)], [], [(none, [], [])])
def pX9_putTime : List zp_P := []
def KX9_putTime : zk_K := (3, RTg, gfX9, ciX9, clX9, [], [(77, kX9_put), (109, kX9_putDigits)], [(8, 1), (16, 0)], [])
set_option maxRecDepth 100000 in
theorem qX9_putTime : zy_ck KX9_putTime tX9_putTime pX9_putTime kX9_putTime 4 1 4000 = true := by decide +kernel
set_option maxRecDepth 100000 in
theorem mX9_putTime (l : Launch) (D : va_G) (cA : Nat → ClassId) (ro : Nat → Option Nat) (sz : Nat) (H0 : Heap) : zy_M l D cA RTg ro sz H0 (zKn D cA ro sz H0) yX9_putTime (gW yX9_putTime cX9_putTime 3 none) { frames := 1, cells := 0, slots := 0, locals := 26 } kX9_putTime :=
  zy_met (zn := "MomentTexts$Zone") (K := KX9_putTime) (tb := tX9_putTime) (pts := pX9_putTime) (rc := 4) (N := 1) (fuel := 4000) (by decide +kernel) rfl rfl (by decide +kernel) rfl rfl (by decide +kernel) eX9_putTime qX9_putTime (fun p e s m args below meth c Q hx hb hml hown hts hKn => by
    have h2 : ∀ w ∈ gT, w.before args s = true := fun w hw => hts w (List.mem_cons_of_mem _ hw)
    exact ⟨hx, hb, zD_all h2 hKn.1, zArN hKn, zf_clause h2 hown hKn.1 gfX9_ok (by decide +kernel), fun i n h => (by obtain ⟨x, h3, h4⟩ := ciX9_ok i n h; exact ⟨_, x, hown, h2 _ h3, h4⟩), fun i n h => (by obtain ⟨x, h3, h4⟩ := clX9_ok i n h; exact ⟨_, x, hown, h2 _ h3, h4⟩), (zgs_n), 
      zct_c (zr_V (idx := 19) (r := 8) (ci := 8) (n0 := 0) (fs := fsX9) (lo := 0) (hi0 := 0) (ts := [(0, (-2147483648), 2147483647)]) hx hb hml hown hts hKn zKb (mX9_put l D cA ro sz H0) ⟨rfl, rfl⟩ ⟨by decide, by decide⟩ ⟨Nat.zero_le _, Nat.zero_le _⟩ (tb_5 227 rfl rfl) (tb_1 6 rfl rfl) (tb_5 224 rfl rfl) (tb_5 225 rfl rfl) (tb_5 226 rfl rfl) (by decide +kernel) rfl rfl (zCX9 hKn.1) rfl) (
      zct_c (zr_V (idx := 27) (r := 8) (ci := 8) (n0 := 0) (fs := fsX9) (lo := 0) (hi0 := 0) (ts := [(1, (-9223372036854775808), 9223372036854775807), (0, (-2147483648), 2147483647)]) hx hb hml hown hts hKn zKb (mX9_putDigits l D cA ro sz H0) ⟨rfl, rfl⟩ ⟨by decide, by decide⟩ ⟨Nat.zero_le _, Nat.zero_le _⟩ (tb_5 221 rfl rfl) (tb_1 6 rfl rfl) (tb_5 218 rfl rfl) (tb_5 219 rfl rfl) (tb_5 220 rfl rfl) (by decide +kernel) rfl rfl (zCX9 hKn.1) rfl) (zct_n))⟩)
def tX9_putPart : List (Nat × Instr × Nat) := [(0, .iload_n 2, 1), (1, .ifCond .ne 4, 3), (4, .return_, 1), (5, .iload_n 1, 1), (6, .istore_n 3, 1), (7, .iload_n 2, 1), (8, .istore 4, 2), (10, .iload 4, 2), (12, .bipush 9, 2), (14, .if_icmp .ge 14, 3), (17, .iload_n 3, 1), (18, .bipush 10, 2), (20, .idiv, 1), (21, .istore_n 3, 1), (22, .iinc 4 1, 3), (25, .goto (-15), 3), (28, .aload_n 0, 1), (29, .bipush 46, 2), (31, .invokevirtual 19, 3), (34, .aload_n 0, 1), (35, .iload_n 3, 1), (36, .i2l, 1), (37, .iload_n 2, 1), (38, .invokevirtual 27, 3), (41, .return_, 1)]
set_option maxRecDepth 100000 in
theorem eX9_putPart : ∀ x ∈ tX9_putPart, decode cX9_putPart x.1 = .ok x.2 := by decide +kernel
def kX9_putPart : zc_C := ([(20, 0, 0), (0, (-2147483648), 2147483647), (0, (-2147483648), 2147483647)], [], [], [(8, 1), (16, 0)], [], [(none, [], [])])
def pX9_putPart : List zp_P := [(10, [(0, (-1)), ((-2147483648), 2147483647), ((-2147483648), 2147483647), ((-2147483648), 2147483647), ((-2147483648), 2147483647), (0, (-1)), ((-2147483648), 2147483647), ((-2147483648), 2147483647)], [], [(0, 20), (1, 0), (2, 0), (3, 0), (4, 0)], [], [], 3, [([], 19), ([(4, (-1))], 2147483649), ([], 19)])]
def KX9_putPart : zk_K := (5, RTg, gfX9, ciX9, clX9, [], [(77, kX9_put), (109, kX9_putDigits)], [(8, 1), (16, 0)], [])
set_option maxRecDepth 100000 in
theorem qX9_putPart : zy_ck KX9_putPart tX9_putPart pX9_putPart kX9_putPart 4 3 4000 = true := by decide +kernel
set_option maxRecDepth 100000 in
theorem mX9_putPart (l : Launch) (D : va_G) (cA : Nat → ClassId) (ro : Nat → Option Nat) (sz : Nat) (H0 : Heap) : zy_M l D cA RTg ro sz H0 (zKn D cA ro sz H0) yX9_putPart (gW yX9_putPart cX9_putPart 5 none) { frames := 1, cells := 0, slots := 0, locals := 26 } kX9_putPart :=
  zy_met (zn := "MomentTexts$Zone") (K := KX9_putPart) (tb := tX9_putPart) (pts := pX9_putPart) (rc := 4) (N := 3) (fuel := 4000) (by decide +kernel) rfl rfl (by decide +kernel) rfl rfl (by decide +kernel) eX9_putPart qX9_putPart (fun p e s m args below meth c Q hx hb hml hown hts hKn => by
    have h2 : ∀ w ∈ gT, w.before args s = true := fun w hw => hts w (List.mem_cons_of_mem _ hw)
    exact ⟨hx, hb, zD_all h2 hKn.1, zArN hKn, zf_clause h2 hown hKn.1 gfX9_ok (by decide +kernel), fun i n h => (by obtain ⟨x, h3, h4⟩ := ciX9_ok i n h; exact ⟨_, x, hown, h2 _ h3, h4⟩), fun i n h => (by obtain ⟨x, h3, h4⟩ := clX9_ok i n h; exact ⟨_, x, hown, h2 _ h3, h4⟩), (zgs_n), 
      zct_c (zr_V (idx := 19) (r := 8) (ci := 8) (n0 := 0) (fs := fsX9) (lo := 0) (hi0 := 0) (ts := [(0, (-2147483648), 2147483647)]) hx hb hml hown hts hKn zKb (mX9_put l D cA ro sz H0) ⟨rfl, rfl⟩ ⟨by decide, by decide⟩ ⟨Nat.zero_le _, Nat.zero_le _⟩ (tb_5 227 rfl rfl) (tb_1 6 rfl rfl) (tb_5 224 rfl rfl) (tb_5 225 rfl rfl) (tb_5 226 rfl rfl) (by decide +kernel) rfl rfl (zCX9 hKn.1) rfl) (
      zct_c (zr_V (idx := 27) (r := 8) (ci := 8) (n0 := 0) (fs := fsX9) (lo := 0) (hi0 := 0) (ts := [(1, (-9223372036854775808), 9223372036854775807), (0, (-2147483648), 2147483647)]) hx hb hml hown hts hKn zKb (mX9_putDigits l D cA ro sz H0) ⟨rfl, rfl⟩ ⟨by decide, by decide⟩ ⟨Nat.zero_le _, Nat.zero_le _⟩ (tb_5 221 rfl rfl) (tb_1 6 rfl rfl) (tb_5 218 rfl rfl) (tb_5 219 rfl rfl) (tb_5 220 rfl rfl) (by decide +kernel) rfl rfl (zCX9 hKn.1) rfl) (zct_n))⟩)
def tX9_putOffset : List (Nat × Instr × Nat) := [(0, .iload_n 1, 1), (1, .ifCond .ne 10, 3), (4, .aload_n 0, 1), (5, .bipush 90, 2), (7, .invokevirtual 19, 3), (10, .return_, 1), (11, .iload_n 1, 1), (12, .invokestatic 35, 3), (15, .istore_n 2, 1), (16, .aload_n 0, 1), (17, .iload_n 1, 1), (18, .ifCond .ge 8, 3), (21, .bipush 45, 2), (23, .goto 5, 3), (26, .bipush 43, 2), (28, .invokevirtual 19, 3), (31, .aload_n 0, 1), (32, .iload_n 2, 1), (33, .bipush 60, 2), (35, .idiv, 1), (36, .i2l, 1), (37, .iconst 2, 1), (38, .invokevirtual 27, 3), (41, .aload_n 0, 1), (42, .bipush 58, 2), (44, .invokevirtual 19, 3), (47, .aload_n 0, 1), (48, .iload_n 2, 1), (49, .bipush 60, 2), (51, .irem, 1), (52, .i2l, 1), (53, .iconst 2, 1), (54, .invokevirtual 27, 3), (57, .return_, 1)]
set_option maxRecDepth 100000 in
theorem eX9_putOffset : ∀ x ∈ tX9_putOffset, decode cX9_putOffset x.1 = .ok x.2 := by decide +kernel
def kX9_putOffset : zc_C := ([(20, 0, 0), (0, (-2147483648), 2147483647)], [], [], [(8, 1), (16, 0)], [], [(none, [], [])])
def pX9_putOffset : List zp_P := []
def KX9_putOffset : zk_K := (3, RTg, gfX9, ciX9, clX9, [], [(77, kX9_put), (109, kX9_putDigits), (140, kJ9_abs_0f7a4)], [(8, 1), (16, 0)], [])
set_option maxRecDepth 100000 in
theorem qX9_putOffset : zy_ck KX9_putOffset tX9_putOffset pX9_putOffset kX9_putOffset 4 1 4000 = true := by decide +kernel
set_option maxRecDepth 100000 in
theorem mX9_putOffset (l : Launch) (D : va_G) (cA : Nat → ClassId) (ro : Nat → Option Nat) (sz : Nat) (H0 : Heap) : zy_M l D cA RTg ro sz H0 (zKn D cA ro sz H0) yX9_putOffset (gW yX9_putOffset cX9_putOffset 3 none) { frames := 1, cells := 0, slots := 0, locals := 26 } kX9_putOffset :=
  zy_met (zn := "MomentTexts$Zone") (K := KX9_putOffset) (tb := tX9_putOffset) (pts := pX9_putOffset) (rc := 4) (N := 1) (fuel := 4000) (by decide +kernel) rfl rfl (by decide +kernel) rfl rfl (by decide +kernel) eX9_putOffset qX9_putOffset (fun p e s m args below meth c Q hx hb hml hown hts hKn => by
    have h2 : ∀ w ∈ gT, w.before args s = true := fun w hw => hts w (List.mem_cons_of_mem _ hw)
    exact ⟨hx, hb, zD_all h2 hKn.1, zArN hKn, zf_clause h2 hown hKn.1 gfX9_ok (by decide +kernel), fun i n h => (by obtain ⟨x, h3, h4⟩ := ciX9_ok i n h; exact ⟨_, x, hown, h2 _ h3, h4⟩), fun i n h => (by obtain ⟨x, h3, h4⟩ := clX9_ok i n h; exact ⟨_, x, hown, h2 _ h3, h4⟩), (zgs_n), 
      zct_c (zr_V (idx := 19) (r := 8) (ci := 8) (n0 := 0) (fs := fsX9) (lo := 0) (hi0 := 0) (ts := [(0, (-2147483648), 2147483647)]) hx hb hml hown hts hKn zKb (mX9_put l D cA ro sz H0) ⟨rfl, rfl⟩ ⟨by decide, by decide⟩ ⟨Nat.zero_le _, Nat.zero_le _⟩ (tb_5 227 rfl rfl) (tb_1 6 rfl rfl) (tb_5 224 rfl rfl) (tb_5 225 rfl rfl) (tb_5 226 rfl rfl) (by decide +kernel) rfl rfl (zCX9 hKn.1) rfl) (
      zct_c (zr_V (idx := 27) (r := 8) (ci := 8) (n0 := 0) (fs := fsX9) (lo := 0) (hi0 := 0) (ts := [(1, (-9223372036854775808), 9223372036854775807), (0, (-2147483648), 2147483647)]) hx hb hml hown hts hKn zKb (mX9_putDigits l D cA ro sz H0) ⟨rfl, rfl⟩ ⟨by decide, by decide⟩ ⟨Nat.zero_le _, Nat.zero_le _⟩ (tb_5 221 rfl rfl) (tb_1 6 rfl rfl) (tb_5 218 rfl rfl) (tb_5 219 rfl rfl) (tb_5 220 rfl rfl) (by decide +kernel) rfl rfl (zCX9 hKn.1) rfl) (
      zct_c (zr_S (idx := 35) hx hb hml hown hts hKn zKb (mJ9_abs_0f7a4 l D cA ro sz H0) ⟨rfl, rfl⟩ ⟨by decide, by decide⟩ ⟨Nat.zero_le _, Nat.zero_le _⟩ (tb_5 230 rfl rfl) (tb_1 18 rfl rfl) (tb_5 228 rfl rfl) (tb_5 229 rfl rfl) (by decide +kernel) rfl) (zct_n)))⟩)
def tX9_putCount : List (Nat × Instr × Nat) := [(0, .lload_n 1, 1), (1, .lconst 0, 1), (2, .lcmp, 1), (3, .ifCond .le 13, 3), (6, .aload_n 0, 1), (7, .lload_n 1, 1), (8, .invokevirtual 60, 3), (11, .aload_n 0, 1), (12, .iload_n 3, 1), (13, .invokevirtual 19, 3), (16, .return_, 1)]
set_option maxRecDepth 100000 in
theorem eX9_putCount : ∀ x ∈ tX9_putCount, decode cX9_putCount x.1 = .ok x.2 := by decide +kernel
def kX9_putCount : zc_C := ([(20, 0, 0), (1, (-9223372036854775808), 9223372036854775807), (0, 0, 65535)], [], [], [(8, 1), (16, 0)], [], [(none, [], [])])
def pX9_putCount : List zp_P := []
def KX9_putCount : zk_K := (4, RTg, gfX9, ciX9, clX9, [], [(77, kX9_put), (241, kX9_putNumber)], [(8, 1), (16, 0)], [])
set_option maxRecDepth 100000 in
theorem qX9_putCount : zy_ck KX9_putCount tX9_putCount pX9_putCount kX9_putCount 4 1 4000 = true := by decide +kernel
set_option maxRecDepth 100000 in
theorem mX9_putCount (l : Launch) (D : va_G) (cA : Nat → ClassId) (ro : Nat → Option Nat) (sz : Nat) (H0 : Heap) : zy_M l D cA RTg ro sz H0 (zKn D cA ro sz H0) yX9_putCount (gW yX9_putCount cX9_putCount 4 none) { frames := 2, cells := 0, slots := 0, locals := 51 } kX9_putCount :=
  zy_met (zn := "MomentTexts$Zone") (K := KX9_putCount) (tb := tX9_putCount) (pts := pX9_putCount) (rc := 4) (N := 1) (fuel := 4000) (by decide +kernel) rfl rfl (by decide +kernel) rfl rfl (by decide +kernel) eX9_putCount qX9_putCount (fun p e s m args below meth c Q hx hb hml hown hts hKn => by
    have h2 : ∀ w ∈ gT, w.before args s = true := fun w hw => hts w (List.mem_cons_of_mem _ hw)
    exact ⟨hx, hb, zD_all h2 hKn.1, zArN hKn, zf_clause h2 hown hKn.1 gfX9_ok (by decide +kernel), fun i n h => (by obtain ⟨x, h3, h4⟩ := ciX9_ok i n h; exact ⟨_, x, hown, h2 _ h3, h4⟩), fun i n h => (by obtain ⟨x, h3, h4⟩ := clX9_ok i n h; exact ⟨_, x, hown, h2 _ h3, h4⟩), (zgs_n), 
      zct_c (zr_V (idx := 19) (r := 8) (ci := 8) (n0 := 0) (fs := fsX9) (lo := 0) (hi0 := 0) (ts := [(0, (-2147483648), 2147483647)]) hx hb hml hown hts hKn zKb (mX9_put l D cA ro sz H0) ⟨rfl, rfl⟩ ⟨by decide, by decide⟩ ⟨Nat.zero_le _, Nat.zero_le _⟩ (tb_5 227 rfl rfl) (tb_1 6 rfl rfl) (tb_5 224 rfl rfl) (tb_5 225 rfl rfl) (tb_5 226 rfl rfl) (by decide +kernel) rfl rfl (zCX9 hKn.1) rfl) (
      zct_c (zr_V (idx := 60) (r := 8) (ci := 8) (n0 := 0) (fs := fsX9) (lo := 0) (hi0 := 0) (ts := [(1, (-9223372036854775808), 9223372036854775807)]) hx hb hml hown hts hKn zKb (mX9_putNumber l D cA ro sz H0) ⟨rfl, rfl⟩ ⟨by decide, by decide⟩ ⟨Nat.zero_le _, Nat.zero_le _⟩ (tb_6 54 rfl rfl) (tb_1 6 rfl rfl) (tb_6 51 rfl rfl) (tb_6 52 rfl rfl) (tb_6 53 rfl rfl) (by decide +kernel) rfl rfl (zCX9 hKn.1) rfl) (zct_n))⟩)
def tX9_putSeconds : List (Nat × Instr × Nat) := [(0, .aload_n 0, 1), (1, .getfield 15, 3), (4, .iconst 2, 1), (5, .if_icmp .ne 7, 3), (8, .iconst 1, 1), (9, .goto 4, 3), (12, .iconst 0, 1), (13, .istore 4, 2), (15, .lload_n 1, 1), (16, .lconst 0, 1), (17, .lcmp, 1), (18, .ifCond .ne 13, 3), (21, .iload_n 3, 1), (22, .ifCond .ne 9, 3), (25, .iload 4, 2), (27, .ifCond .ne 4, 3), (30, .return_, 1), (31, .aload_n 0, 1), (32, .lload_n 1, 1), (33, .invokevirtual 60, 3), (36, .iload_n 3, 1), (37, .ifCond .le 44, 3), (40, .bipush 9, 2), (42, .istore 5, 2), (44, .iload_n 3, 1), (45, .istore 6, 2), (47, .iload 6, 2), (49, .bipush 10, 2), (51, .irem, 1), (52, .ifCond .ne 22, 3), (55, .iload 5, 2), (57, .iconst 1, 1), (58, .if_icmp .le 16, 3), (61, .iinc 5 (-1), 3), (64, .iload 6, 2), (66, .bipush 10, 2), (68, .idiv, 1), (69, .istore 6, 2), (71, .goto (-24), 3), (74, .aload_n 0, 1), (75, .iload_n 3, 1), (76, .iload 5, 2), (78, .invokevirtual 64, 3), (81, .aload_n 0, 1), (82, .bipush 83, 2), (84, .invokevirtual 19, 3), (87, .return_, 1)]
set_option maxRecDepth 100000 in
theorem eX9_putSeconds : ∀ x ∈ tX9_putSeconds, decode cX9_putSeconds x.1 = .ok x.2 := by decide +kernel
def kX9_putSeconds : zc_C := ([(20, 0, 0), (1, (-9223372036854775808), 9223372036854775807), (0, (-2147483648), 2147483647)], [], [], [(8, 1), (16, 0)], [], [(none, [], [])])
def pX9_putSeconds : List zp_P := [(47, [(0, (-1)), ((-9223372036854775808), 9223372036854775807), (1, 2147483647), (0, 1), (1, 9), (0, 2147483647), (0, (-1)), ((-9223372036854775808), 9223372036854775807), ((-2147483648), 2147483647)], [], [(0, 20), (1, 1), (3, 0), (4, 0), (5, 0), (6, 0)], [], [], 3, [([], 22), ([(4, 1)], 2147483649), ([], 22)])]
def KX9_putSeconds : zk_K := (7, RTg, gfX9, ciX9, clX9, [], [(77, kX9_put), (241, kX9_putNumber), (257, kX9_putPart)], [(8, 1), (16, 0)], [])
set_option maxRecDepth 100000 in
theorem qX9_putSeconds : zy_ck KX9_putSeconds tX9_putSeconds pX9_putSeconds kX9_putSeconds 4 3 4000 = true := by decide +kernel
set_option maxRecDepth 100000 in
theorem mX9_putSeconds (l : Launch) (D : va_G) (cA : Nat → ClassId) (ro : Nat → Option Nat) (sz : Nat) (H0 : Heap) : zy_M l D cA RTg ro sz H0 (zKn D cA ro sz H0) yX9_putSeconds (gW yX9_putSeconds cX9_putSeconds 7 none) { frames := 2, cells := 0, slots := 0, locals := 51 } kX9_putSeconds :=
  zy_met (zn := "MomentTexts$Zone") (K := KX9_putSeconds) (tb := tX9_putSeconds) (pts := pX9_putSeconds) (rc := 4) (N := 3) (fuel := 4000) (by decide +kernel) rfl rfl (by decide +kernel) rfl rfl (by decide +kernel) eX9_putSeconds qX9_putSeconds (fun p e s m args below meth c Q hx hb hml hown hts hKn => by
    have h2 : ∀ w ∈ gT, w.before args s = true := fun w hw => hts w (List.mem_cons_of_mem _ hw)
    exact ⟨hx, hb, zD_all h2 hKn.1, zArN hKn, zf_clause h2 hown hKn.1 gfX9_ok (by decide +kernel), fun i n h => (by obtain ⟨x, h3, h4⟩ := ciX9_ok i n h; exact ⟨_, x, hown, h2 _ h3, h4⟩), fun i n h => (by obtain ⟨x, h3, h4⟩ := clX9_ok i n h; exact ⟨_, x, hown, h2 _ h3, h4⟩), (zgs_n), 
      zct_c (zr_V (idx := 19) (r := 8) (ci := 8) (n0 := 0) (fs := fsX9) (lo := 0) (hi0 := 0) (ts := [(0, (-2147483648), 2147483647)]) hx hb hml hown hts hKn zKb (mX9_put l D cA ro sz H0) ⟨rfl, rfl⟩ ⟨by decide, by decide⟩ ⟨Nat.zero_le _, Nat.zero_le _⟩ (tb_5 227 rfl rfl) (tb_1 6 rfl rfl) (tb_5 224 rfl rfl) (tb_5 225 rfl rfl) (tb_5 226 rfl rfl) (by decide +kernel) rfl rfl (zCX9 hKn.1) rfl) (
      zct_c (zr_V (idx := 60) (r := 8) (ci := 8) (n0 := 0) (fs := fsX9) (lo := 0) (hi0 := 0) (ts := [(1, (-9223372036854775808), 9223372036854775807)]) hx hb hml hown hts hKn zKb (mX9_putNumber l D cA ro sz H0) ⟨rfl, rfl⟩ ⟨by decide, by decide⟩ ⟨Nat.zero_le _, Nat.zero_le _⟩ (tb_6 54 rfl rfl) (tb_1 6 rfl rfl) (tb_6 51 rfl rfl) (tb_6 52 rfl rfl) (tb_6 53 rfl rfl) (by decide +kernel) rfl rfl (zCX9 hKn.1) rfl) (
      zct_c (zr_V (idx := 64) (r := 8) (ci := 8) (n0 := 0) (fs := fsX9) (lo := 0) (hi0 := 0) (ts := [(0, (-2147483648), 2147483647), (0, (-2147483648), 2147483647)]) hx hb hml hown hts hKn zKb (mX9_putPart l D cA ro sz H0) ⟨rfl, rfl⟩ ⟨by decide, by decide⟩ ⟨Nat.zero_le _, Nat.zero_le _⟩ (tb_6 30 rfl rfl) (tb_1 6 rfl rfl) (tb_6 61 rfl rfl) (tb_6 28 rfl rfl) (tb_6 29 rfl rfl) (by decide +kernel) rfl rfl (zCX9 hKn.1) rfl) (zct_n)))⟩)
