def tX0_append : List (Nat × Instr × Nat) := [(0, .aload_n 0, 1), (1, .getfield 15, 3), (4, .ifCond .lt 35, 3), (7, .aload_n 0, 1), (8, .getfield 15, 3), (11, .aload_n 0, 1), (12, .getfield 9, 3), (15, .arraylength, 1), (16, .if_icmp .ge 23, 3), (19, .aload_n 0, 1), (20, .getfield 9, 3), (23, .aload_n 0, 1), (24, .getfield 15, 3), (27, .iload_n 1, 1), (28, .bastore, 1), (29, .aload_n 0, 1), (30, .dup, 1), (31, .getfield 15, 3), (34, .iconst 1, 1), (35, .iadd, 1), (36, .putfield 15, 3), (39, .return_, 1)]
set_option maxRecDepth 100000 in
theorem eX0_append : ∀ x ∈ tX0_append, decode cX0_append x.1 = .ok x.2 := by decide +kernel
def kX0_append : zc_C := ([(4, 0, 0), (0, (-128), 127)], [], [], [(0, 1), (12, 0)], [], [(none, [], [])])
def pX0_append : List zp_P := []
def KX0_append : zk_K := (2, RTg, gfX0, ciX0, clX0, [], [], [(0, 1), (12, 0)], [])
set_option maxRecDepth 100000 in
theorem qX0_append : zy_ck KX0_append tX0_append pX0_append kX0_append 4 1 4000 = true := by decide +kernel
set_option maxRecDepth 100000 in
theorem mX0_append (l : Launch) (D : va_G) (cA : Nat → ClassId) (ro : Nat → Option Nat) (sz : Nat) (H0 : Heap) : zy_M l D cA RTg ro sz H0 (zKn D cA ro sz H0) yX0_append (gW yX0_append cX0_append 2 none) { frames := 0, cells := 0, slots := 0, locals := 0 } kX0_append :=
  zy_met (zn := "MomentTexts$Zone") (K := KX0_append) (tb := tX0_append) (pts := pX0_append) (rc := 4) (N := 1) (fuel := 4000) (by decide +kernel) rfl rfl (by decide +kernel) rfl rfl (by decide +kernel) eX0_append qX0_append (fun p e s m args below meth c Q hx hb hml hown hts hKn => by
    have h2 : ∀ w ∈ gT, w.before args s = true := fun w hw => hts w (List.mem_cons_of_mem _ hw)
    exact ⟨hx, hb, zD_all h2 hKn.1, zArN hKn, zf_clause h2 hown hKn.1 gfX0_ok (by decide +kernel), fun i n h => (by obtain ⟨x, h3, h4⟩ := ciX0_ok i n h; exact ⟨_, x, hown, h2 _ h3, h4⟩), fun i n h => (by obtain ⟨x, h3, h4⟩ := clX0_ok i n h; exact ⟨_, x, hown, h2 _ h3, h4⟩), (zgs_n), zct_n⟩)
def tX0_start : List (Nat × Instr × Nat) := [(0, .aload_n 0, 1), (1, .iconst 0, 1), (2, .putfield 19, 3), (5, .aload_n 0, 1), (6, .iconst 0, 1), (7, .putfield 22, 3), (10, .aload_n 0, 1), (11, .iconst (-1), 1), (12, .putfield 26, 3), (15, .return_, 1)]
set_option maxRecDepth 100000 in
theorem eX0_start : ∀ x ∈ tX0_start, decode cX0_start x.1 = .ok x.2 := by decide +kernel
def kX0_start : zc_C := ([(4, 0, 0)], [], [], [(0, 2), (0, 3), (0, 4)], [], [(none, [], [])])
def pX0_start : List zp_P := []
def KX0_start : zk_K := (1, RTg, gfX0, ciX0, clX0, [], [], [(0, 2), (0, 3), (0, 4)], [])
set_option maxRecDepth 100000 in
theorem qX0_start : zy_ck KX0_start tX0_start pX0_start kX0_start 4 1 4000 = true := by decide +kernel
set_option maxRecDepth 100000 in
theorem mX0_start (l : Launch) (D : va_G) (cA : Nat → ClassId) (ro : Nat → Option Nat) (sz : Nat) (H0 : Heap) : zy_M l D cA RTg ro sz H0 (zKn D cA ro sz H0) yX0_start (gW yX0_start cX0_start 1 none) { frames := 0, cells := 0, slots := 0, locals := 0 } kX0_start :=
  zy_met (zn := "MomentTexts$Zone") (K := KX0_start) (tb := tX0_start) (pts := pX0_start) (rc := 4) (N := 1) (fuel := 4000) (by decide +kernel) rfl rfl (by decide +kernel) rfl rfl (by decide +kernel) eX0_start qX0_start (fun p e s m args below meth c Q hx hb hml hown hts hKn => by
    have h2 : ∀ w ∈ gT, w.before args s = true := fun w hw => hts w (List.mem_cons_of_mem _ hw)
    exact ⟨hx, hb, zD_all h2 hKn.1, zArN hKn, zf_clause h2 hown hKn.1 gfX0_ok (by decide +kernel), fun i n h => (by obtain ⟨x, h3, h4⟩ := ciX0_ok i n h; exact ⟨_, x, hown, h2 _ h3, h4⟩), fun i n h => (by obtain ⟨x, h3, h4⟩ := clX0_ok i n h; exact ⟨_, x, hown, h2 _ h3, h4⟩), (zgs_n), zct_n⟩)
def tX0_look : List (Nat × Instr × Nat) := [(0, .aload_n 0, 1), (1, .getfield 22, 3), (4, .ifCond .ne 33, 3), (7, .aload_n 0, 1), (8, .getfield 19, 3), (11, .ifCond .lt 26, 3), (14, .aload_n 0, 1), (15, .getfield 19, 3), (18, .aload_n 0, 1), (19, .getfield 15, 3), (22, .if_icmp .ge 15, 3), (25, .aload_n 0, 1), (26, .getfield 19, 3), (29, .aload_n 0, 1), (30, .getfield 9, 3), (33, .arraylength, 1), (34, .if_icmp .lt 7, 3), (37, .iconst (-1), 1), (38, .goto 16, 3), (41, .aload_n 0, 1), (42, .getfield 9, 3), (45, .aload_n 0, 1), (46, .getfield 19, 3), (49, .baload, 1), (50, .sipush 255, 3), (53, .iand, 1), (54, .ireturn, 1)]
set_option maxRecDepth 100000 in
theorem eX0_look : ∀ x ∈ tX0_look, decode cX0_look x.1 = .ok x.2 := by decide +kernel
def kX0_look : zc_C := ([(4, 0, 0)], [], [], [], [], [(some (0, (-2147483648), 2147483647), [], [])])
def pX0_look : List zp_P := []
def KX0_look : zk_K := (1, RTg, gfX0, ciX0, clX0, [], [], [], [])
set_option maxRecDepth 100000 in
theorem qX0_look : zy_ck KX0_look tX0_look pX0_look kX0_look 1 1 4000 = true := by decide +kernel
set_option maxRecDepth 100000 in
theorem mX0_look (l : Launch) (D : va_G) (cA : Nat → ClassId) (ro : Nat → Option Nat) (sz : Nat) (H0 : Heap) : zy_M l D cA RTg ro sz H0 (zKn D cA ro sz H0) yX0_look (gW yX0_look cX0_look 1 (some .int)) { frames := 0, cells := 0, slots := 0, locals := 0 } kX0_look :=
  zy_met (zn := "MomentTexts$Zone") (K := KX0_look) (tb := tX0_look) (pts := pX0_look) (rc := 1) (N := 1) (fuel := 4000) (by decide +kernel) rfl rfl (by decide +kernel) rfl rfl (by decide +kernel) eX0_look qX0_look (fun p e s m args below meth c Q hx hb hml hown hts hKn => by
    have h2 : ∀ w ∈ gT, w.before args s = true := fun w hw => hts w (List.mem_cons_of_mem _ hw)
    exact ⟨hx, hb, zD_all h2 hKn.1, zArN hKn, zf_clause h2 hown hKn.1 gfX0_ok (by decide +kernel), fun i n h => (by obtain ⟨x, h3, h4⟩ := ciX0_ok i n h; exact ⟨_, x, hown, h2 _ h3, h4⟩), fun i n h => (by obtain ⟨x, h3, h4⟩ := clX0_ok i n h; exact ⟨_, x, hown, h2 _ h3, h4⟩), (zgs_n), zct_n⟩)
def tX0_isAt : List (Nat × Instr × Nat) := [(0, .aload_n 0, 1), (1, .invokevirtual 29, 3), (4, .iload_n 1, 1), (5, .if_icmp .ne 7, 3), (8, .iconst 1, 1), (9, .goto 4, 3), (12, .iconst 0, 1), (13, .ireturn, 1)]
set_option maxRecDepth 100000 in
theorem eX0_isAt : ∀ x ∈ tX0_isAt, decode cX0_isAt x.1 = .ok x.2 := by decide +kernel
def kX0_isAt : zc_C := ([(4, 0, 0), (0, (-2147483648), 2147483647)], [], [], [], [], [(some (0, 0, 1), [], [])])
def pX0_isAt : List zp_P := []
def KX0_isAt : zk_K := (2, RTg, gfX0, ciX0, clX0, [], [(117, kX0_look)], [], [])
set_option maxRecDepth 100000 in
theorem qX0_isAt : zy_ck KX0_isAt tX0_isAt pX0_isAt kX0_isAt 1 1 4000 = true := by decide +kernel
set_option maxRecDepth 100000 in
theorem mX0_isAt (l : Launch) (D : va_G) (cA : Nat → ClassId) (ro : Nat → Option Nat) (sz : Nat) (H0 : Heap) : zy_M l D cA RTg ro sz H0 (zKn D cA ro sz H0) yX0_isAt (gW yX0_isAt cX0_isAt 2 (some .boolean)) { frames := 1, cells := 0, slots := 0, locals := 20 } kX0_isAt :=
  zy_met (zn := "MomentTexts$Zone") (K := KX0_isAt) (tb := tX0_isAt) (pts := pX0_isAt) (rc := 1) (N := 1) (fuel := 4000) (by decide +kernel) rfl rfl (by decide +kernel) rfl rfl (by decide +kernel) eX0_isAt qX0_isAt (fun p e s m args below meth c Q hx hb hml hown hts hKn => by
    have h2 : ∀ w ∈ gT, w.before args s = true := fun w hw => hts w (List.mem_cons_of_mem _ hw)
    exact ⟨hx, hb, zD_all h2 hKn.1, zArN hKn, zf_clause h2 hown hKn.1 gfX0_ok (by decide +kernel), fun i n h => (by obtain ⟨x, h3, h4⟩ := ciX0_ok i n h; exact ⟨_, x, hown, h2 _ h3, h4⟩), fun i n h => (by obtain ⟨x, h3, h4⟩ := clX0_ok i n h; exact ⟨_, x, hown, h2 _ h3, h4⟩), (zgs_n), 
      zct_c (zr_V (idx := 29) (r := 0) (ci := 0) (n0 := 0) (fs := fsX0) (lo := 0) (hi0 := 0) (ts := []) hx hb hml hown hts hKn zKb (mX0_look l D cA ro sz H0) ⟨rfl, rfl⟩ ⟨by decide, by decide⟩ ⟨Nat.zero_le _, Nat.zero_le _⟩ (tb_4 12 rfl rfl) (tb_1 5 rfl rfl) (tb_4 9 rfl rfl) (tb_4 10 rfl rfl) (tb_4 11 rfl rfl) (by decide +kernel) rfl rfl (zCX0 hKn.1) rfl) (zct_n)⟩)
def tX0_atEnd : List (Nat × Instr × Nat) := [(0, .aload_n 0, 1), (1, .getfield 22, 3), (4, .ifCond .ne 18, 3), (7, .aload_n 0, 1), (8, .getfield 19, 3), (11, .aload_n 0, 1), (12, .getfield 15, 3), (15, .if_icmp .lt 7, 3), (18, .iconst 1, 1), (19, .goto 4, 3), (22, .iconst 0, 1), (23, .ireturn, 1)]
set_option maxRecDepth 100000 in
theorem eX0_atEnd : ∀ x ∈ tX0_atEnd, decode cX0_atEnd x.1 = .ok x.2 := by decide +kernel
def kX0_atEnd : zc_C := ([(4, 0, 0)], [], [], [], [], [(some (0, 0, 1), [], [])])
def pX0_atEnd : List zp_P := []
def KX0_atEnd : zk_K := (1, RTg, gfX0, ciX0, clX0, [], [], [], [])
set_option maxRecDepth 100000 in
theorem qX0_atEnd : zy_ck KX0_atEnd tX0_atEnd pX0_atEnd kX0_atEnd 1 1 4000 = true := by decide +kernel
set_option maxRecDepth 100000 in
theorem mX0_atEnd (l : Launch) (D : va_G) (cA : Nat → ClassId) (ro : Nat → Option Nat) (sz : Nat) (H0 : Heap) : zy_M l D cA RTg ro sz H0 (zKn D cA ro sz H0) yX0_atEnd (gW yX0_atEnd cX0_atEnd 1 (some .boolean)) { frames := 0, cells := 0, slots := 0, locals := 0 } kX0_atEnd :=
  zy_met (zn := "MomentTexts$Zone") (K := KX0_atEnd) (tb := tX0_atEnd) (pts := pX0_atEnd) (rc := 1) (N := 1) (fuel := 4000) (by decide +kernel) rfl rfl (by decide +kernel) rfl rfl (by decide +kernel) eX0_atEnd qX0_atEnd (fun p e s m args below meth c Q hx hb hml hown hts hKn => by
    have h2 : ∀ w ∈ gT, w.before args s = true := fun w hw => hts w (List.mem_cons_of_mem _ hw)
    exact ⟨hx, hb, zD_all h2 hKn.1, zArN hKn, zf_clause h2 hown hKn.1 gfX0_ok (by decide +kernel), fun i n h => (by obtain ⟨x, h3, h4⟩ := ciX0_ok i n h; exact ⟨_, x, hown, h2 _ h3, h4⟩), fun i n h => (by obtain ⟨x, h3, h4⟩ := clX0_ok i n h; exact ⟨_, x, hown, h2 _ h3, h4⟩), (zgs_n), zct_n⟩)
def tX0_digit : List (Nat × Instr × Nat) := [(0, .aload_n 0, 1), (1, .getfield 22, 3), (4, .ifCond .ne 33, 3), (7, .aload_n 0, 1), (8, .getfield 19, 3), (11, .ifCond .lt 26, 3), (14, .aload_n 0, 1), (15, .getfield 19, 3), (18, .aload_n 0, 1), (19, .getfield 15, 3), (22, .if_icmp .ge 15, 3), (25, .aload_n 0, 1), (26, .getfield 19, 3), (29, .aload_n 0, 1), (30, .getfield 9, 3), (33, .arraylength, 1), (34, .if_icmp .lt 5, 3), (37, .iconst (-1), 1), (38, .ireturn, 1), (39, .aload_n 0, 1), (40, .getfield 9, 3), (43, .aload_n 0, 1), (44, .getfield 19, 3), (47, .baload, 1), (48, .bipush 48, 2), (50, .isub, 1), (51, .istore_n 1, 1), (52, .iload_n 1, 1), (53, .ifCond .lt 9, 3), (56, .iload_n 1, 1), (57, .bipush 9, 2), (59, .if_icmp .le 7, 3), (62, .iconst (-1), 1), (63, .goto 4, 3), (66, .iload_n 1, 1), (67, .ireturn, 1)]
set_option maxRecDepth 100000 in
theorem eX0_digit : ∀ x ∈ tX0_digit, decode cX0_digit x.1 = .ok x.2 := by decide +kernel
def kX0_digit : zc_C := ([(4, 0, 0)], [], [], [], [], [(some (0, (-2147483648), 2147483647), [], [])])
def pX0_digit : List zp_P := []
def KX0_digit : zk_K := (2, RTg, gfX0, ciX0, clX0, [], [], [], [])
set_option maxRecDepth 100000 in
theorem qX0_digit : zy_ck KX0_digit tX0_digit pX0_digit kX0_digit 1 1 4000 = true := by decide +kernel
set_option maxRecDepth 100000 in
theorem mX0_digit (l : Launch) (D : va_G) (cA : Nat → ClassId) (ro : Nat → Option Nat) (sz : Nat) (H0 : Heap) : zy_M l D cA RTg ro sz H0 (zKn D cA ro sz H0) yX0_digit (gW yX0_digit cX0_digit 2 (some .int)) { frames := 0, cells := 0, slots := 0, locals := 0 } kX0_digit :=
  zy_met (zn := "MomentTexts$Zone") (K := KX0_digit) (tb := tX0_digit) (pts := pX0_digit) (rc := 1) (N := 1) (fuel := 4000) (by decide +kernel) rfl rfl (by decide +kernel) rfl rfl (by decide +kernel) eX0_digit qX0_digit (fun p e s m args below meth c Q hx hb hml hown hts hKn => by
    have h2 : ∀ w ∈ gT, w.before args s = true := fun w hw => hts w (List.mem_cons_of_mem _ hw)
    exact ⟨hx, hb, zD_all h2 hKn.1, zArN hKn, zf_clause h2 hown hKn.1 gfX0_ok (by decide +kernel), fun i n h => (by obtain ⟨x, h3, h4⟩ := ciX0_ok i n h; exact ⟨_, x, hown, h2 _ h3, h4⟩), fun i n h => (by obtain ⟨x, h3, h4⟩ := clX0_ok i n h; exact ⟨_, x, hown, h2 _ h3, h4⟩), (zgs_n), zct_n⟩)
def tX0_atDigit : List (Nat × Instr × Nat) := [(0, .aload_n 0, 1), (1, .invokevirtual 33, 3), (4, .ifCond .lt 7, 3), (7, .iconst 1, 1), (8, .goto 4, 3), (11, .iconst 0, 1), (12, .ireturn, 1)]
set_option maxRecDepth 100000 in
theorem eX0_atDigit : ∀ x ∈ tX0_atDigit, decode cX0_atDigit x.1 = .ok x.2 := by decide +kernel
def kX0_atDigit : zc_C := ([(4, 0, 0)], [], [], [], [], [(some (0, 0, 1), [], [])])
def pX0_atDigit : List zp_P := []
def KX0_atDigit : zk_K := (1, RTg, gfX0, ciX0, clX0, [], [(133, kX0_digit)], [], [])
set_option maxRecDepth 100000 in
theorem qX0_atDigit : zy_ck KX0_atDigit tX0_atDigit pX0_atDigit kX0_atDigit 1 1 4000 = true := by decide +kernel
set_option maxRecDepth 100000 in
theorem mX0_atDigit (l : Launch) (D : va_G) (cA : Nat → ClassId) (ro : Nat → Option Nat) (sz : Nat) (H0 : Heap) : zy_M l D cA RTg ro sz H0 (zKn D cA ro sz H0) yX0_atDigit (gW yX0_atDigit cX0_atDigit 1 (some .boolean)) { frames := 1, cells := 0, slots := 0, locals := 21 } kX0_atDigit :=
  zy_met (zn := "MomentTexts$Zone") (K := KX0_atDigit) (tb := tX0_atDigit) (pts := pX0_atDigit) (rc := 1) (N := 1) (fuel := 4000) (by decide +kernel) rfl rfl (by decide +kernel) rfl rfl (by decide +kernel) eX0_atDigit qX0_atDigit (fun p e s m args below meth c Q hx hb hml hown hts hKn => by
    have h2 : ∀ w ∈ gT, w.before args s = true := fun w hw => hts w (List.mem_cons_of_mem _ hw)
    exact ⟨hx, hb, zD_all h2 hKn.1, zArN hKn, zf_clause h2 hown hKn.1 gfX0_ok (by decide +kernel), fun i n h => (by obtain ⟨x, h3, h4⟩ := ciX0_ok i n h; exact ⟨_, x, hown, h2 _ h3, h4⟩), fun i n h => (by obtain ⟨x, h3, h4⟩ := clX0_ok i n h; exact ⟨_, x, hown, h2 _ h3, h4⟩), (zgs_n), 
      zct_c (zr_V (idx := 33) (r := 0) (ci := 0) (n0 := 0) (fs := fsX0) (lo := 0) (hi0 := 0) (ts := []) hx hb hml hown hts hKn zKb (mX0_digit l D cA ro sz H0) ⟨rfl, rfl⟩ ⟨by decide, by decide⟩ ⟨Nat.zero_le _, Nat.zero_le _⟩ (tb_4 28 rfl rfl) (tb_1 5 rfl rfl) (tb_4 25 rfl rfl) (tb_4 26 rfl rfl) (tb_4 27 rfl rfl) (by decide +kernel) rfl rfl (zCX0 hKn.1) rfl) (zct_n)⟩)
def tX0_atLetter : List (Nat × Instr × Nat) := [(0, .aload_n 0, 1), (1, .invokevirtual 29, 3), (4, .istore_n 1, 1), (5, .iload_n 1, 1), (6, .bipush 65, 2), (8, .if_icmp .lt 9, 3), (11, .iload_n 1, 1), (12, .bipush 90, 2), (14, .if_icmp .le 15, 3), (17, .iload_n 1, 1), (18, .bipush 97, 2), (20, .if_icmp .lt 13, 3), (23, .iload_n 1, 1), (24, .bipush 122, 2), (26, .if_icmp .gt 7, 3), (29, .iconst 1, 1), (30, .goto 4, 3), (33, .iconst 0, 1), (34, .ireturn, 1)]
set_option maxRecDepth 100000 in
theorem eX0_atLetter : ∀ x ∈ tX0_atLetter, decode cX0_atLetter x.1 = .ok x.2 := by decide +kernel
def kX0_atLetter : zc_C := ([(4, 0, 0)], [], [], [], [], [(some (0, 0, 1), [], [])])
def pX0_atLetter : List zp_P := []
def KX0_atLetter : zk_K := (2, RTg, gfX0, ciX0, clX0, [], [(117, kX0_look)], [], [])
set_option maxRecDepth 100000 in
theorem qX0_atLetter : zy_ck KX0_atLetter tX0_atLetter pX0_atLetter kX0_atLetter 1 1 4000 = true := by decide +kernel
set_option maxRecDepth 100000 in
theorem mX0_atLetter (l : Launch) (D : va_G) (cA : Nat → ClassId) (ro : Nat → Option Nat) (sz : Nat) (H0 : Heap) : zy_M l D cA RTg ro sz H0 (zKn D cA ro sz H0) yX0_atLetter (gW yX0_atLetter cX0_atLetter 2 (some .boolean)) { frames := 1, cells := 0, slots := 0, locals := 20 } kX0_atLetter :=
  zy_met (zn := "MomentTexts$Zone") (K := KX0_atLetter) (tb := tX0_atLetter) (pts := pX0_atLetter) (rc := 1) (N := 1) (fuel := 4000) (by decide +kernel) rfl rfl (by decide +kernel) rfl rfl (by decide +kernel) eX0_atLetter qX0_atLetter (fun p e s m args below meth c Q hx hb hml hown hts hKn => by
    have h2 : ∀ w ∈ gT, w.before args s = true := fun w hw => hts w (List.mem_cons_of_mem _ hw)
    exact ⟨hx, hb, zD_all h2 hKn.1, zArN hKn, zf_clause h2 hown hKn.1 gfX0_ok (by decide +kernel), fun i n h => (by obtain ⟨x, h3, h4⟩ := ciX0_ok i n h; exact ⟨_, x, hown, h2 _ h3, h4⟩), fun i n h => (by obtain ⟨x, h3, h4⟩ := clX0_ok i n h; exact ⟨_, x, hown, h2 _ h3, h4⟩), (zgs_n), 
      zct_c (zr_V (idx := 29) (r := 0) (ci := 0) (n0 := 0) (fs := fsX0) (lo := 0) (hi0 := 0) (ts := []) hx hb hml hown hts hKn zKb (mX0_look l D cA ro sz H0) ⟨rfl, rfl⟩ ⟨by decide, by decide⟩ ⟨Nat.zero_le _, Nat.zero_le _⟩ (tb_4 12 rfl rfl) (tb_1 5 rfl rfl) (tb_4 9 rfl rfl) (tb_4 10 rfl rfl) (tb_4 11 rfl rfl) (by decide +kernel) rfl rfl (zCX0 hKn.1) rfl) (zct_n)⟩)
def tX0_atNameSign : List (Nat × Instr × Nat) := [(0, .aload_n 0, 1), (1, .invokevirtual 36, 3), (4, .ifCond .ne 21, 3), (7, .aload_n 0, 1), (8, .bipush 43, 2), (10, .invokevirtual 40, 3), (13, .ifCond .ne 12, 3), (16, .aload_n 0, 1), (17, .bipush 45, 2), (19, .invokevirtual 40, 3), (22, .ifCond .eq 7, 3), (25, .iconst 1, 1), (26, .goto 4, 3), (29, .iconst 0, 1), (30, .ireturn, 1)]
set_option maxRecDepth 100000 in
theorem eX0_atNameSign : ∀ x ∈ tX0_atNameSign, decode cX0_atNameSign x.1 = .ok x.2 := by decide +kernel
def kX0_atNameSign : zc_C := ([(4, 0, 0)], [], [], [], [], [(some (0, 0, 1), [], [])])
def pX0_atNameSign : List zp_P := []
def KX0_atNameSign : zk_K := (1, RTg, gfX0, ciX0, clX0, [], [(145, kX0_atDigit), (161, kX0_isAt)], [], [])
set_option maxRecDepth 100000 in
theorem qX0_atNameSign : zy_ck KX0_atNameSign tX0_atNameSign pX0_atNameSign kX0_atNameSign 1 1 4000 = true := by decide +kernel
set_option maxRecDepth 100000 in
theorem mX0_atNameSign (l : Launch) (D : va_G) (cA : Nat → ClassId) (ro : Nat → Option Nat) (sz : Nat) (H0 : Heap) : zy_M l D cA RTg ro sz H0 (zKn D cA ro sz H0) yX0_atNameSign (gW yX0_atNameSign cX0_atNameSign 1 (some .boolean)) { frames := 2, cells := 0, slots := 0, locals := 41 } kX0_atNameSign :=
  zy_met (zn := "MomentTexts$Zone") (K := KX0_atNameSign) (tb := tX0_atNameSign) (pts := pX0_atNameSign) (rc := 1) (N := 1) (fuel := 4000) (by decide +kernel) rfl rfl (by decide +kernel) rfl rfl (by decide +kernel) eX0_atNameSign qX0_atNameSign (fun p e s m args below meth c Q hx hb hml hown hts hKn => by
    have h2 : ∀ w ∈ gT, w.before args s = true := fun w hw => hts w (List.mem_cons_of_mem _ hw)
    exact ⟨hx, hb, zD_all h2 hKn.1, zArN hKn, zf_clause h2 hown hKn.1 gfX0_ok (by decide +kernel), fun i n h => (by obtain ⟨x, h3, h4⟩ := ciX0_ok i n h; exact ⟨_, x, hown, h2 _ h3, h4⟩), fun i n h => (by obtain ⟨x, h3, h4⟩ := clX0_ok i n h; exact ⟨_, x, hown, h2 _ h3, h4⟩), (zgs_n), 
      zct_c (zr_V (idx := 36) (r := 0) (ci := 0) (n0 := 0) (fs := fsX0) (lo := 0) (hi0 := 0) (ts := []) hx hb hml hown hts hKn zKb (mX0_atDigit l D cA ro sz H0) ⟨rfl, rfl⟩ ⟨by decide, by decide⟩ ⟨Nat.zero_le _, Nat.zero_le _⟩ (tb_4 24 rfl rfl) (tb_1 5 rfl rfl) (tb_4 21 rfl rfl) (tb_4 22 rfl rfl) (tb_4 23 rfl rfl) (by decide +kernel) rfl rfl (zCX0 hKn.1) rfl) (
      zct_c (zr_V (idx := 40) (r := 0) (ci := 0) (n0 := 0) (fs := fsX0) (lo := 0) (hi0 := 0) (ts := [(0, (-2147483648), 2147483647)]) hx hb hml hown hts hKn zKb (mX0_isAt l D cA ro sz H0) ⟨rfl, rfl⟩ ⟨by decide, by decide⟩ ⟨Nat.zero_le _, Nat.zero_le _⟩ (tb_4 32 rfl rfl) (tb_1 5 rfl rfl) (tb_4 29 rfl rfl) (tb_4 30 rfl rfl) (tb_4 31 rfl rfl) (by decide +kernel) rfl rfl (zCX0 hKn.1) rfl) (zct_n))⟩)
def tX0_skip : List (Nat × Instr × Nat) := [(0, .aload_n 0, 1), (1, .dup, 1), (2, .getfield 19, 3), (5, .iconst 1, 1), (6, .iadd, 1), (7, .putfield 19, 3), (10, .return_, 1)]
set_option maxRecDepth 100000 in
theorem eX0_skip : ∀ x ∈ tX0_skip, decode cX0_skip x.1 = .ok x.2 := by decide +kernel
def kX0_skip : zc_C := ([(4, 0, 0)], [], [], [(0, 2)], [], [(none, [], [])])
def pX0_skip : List zp_P := []
def KX0_skip : zk_K := (1, RTg, gfX0, ciX0, clX0, [], [], [(0, 2)], [])
set_option maxRecDepth 100000 in
theorem qX0_skip : zy_ck KX0_skip tX0_skip pX0_skip kX0_skip 4 1 4000 = true := by decide +kernel
set_option maxRecDepth 100000 in
theorem mX0_skip (l : Launch) (D : va_G) (cA : Nat → ClassId) (ro : Nat → Option Nat) (sz : Nat) (H0 : Heap) : zy_M l D cA RTg ro sz H0 (zKn D cA ro sz H0) yX0_skip (gW yX0_skip cX0_skip 1 none) { frames := 0, cells := 0, slots := 0, locals := 0 } kX0_skip :=
  zy_met (zn := "MomentTexts$Zone") (K := KX0_skip) (tb := tX0_skip) (pts := pX0_skip) (rc := 4) (N := 1) (fuel := 4000) (by decide +kernel) rfl rfl (by decide +kernel) rfl rfl (by decide +kernel) eX0_skip qX0_skip (fun p e s m args below meth c Q hx hb hml hown hts hKn => by
    have h2 : ∀ w ∈ gT, w.before args s = true := fun w hw => hts w (List.mem_cons_of_mem _ hw)
    exact ⟨hx, hb, zD_all h2 hKn.1, zArN hKn, zf_clause h2 hown hKn.1 gfX0_ok (by decide +kernel), fun i n h => (by obtain ⟨x, h3, h4⟩ := ciX0_ok i n h; exact ⟨_, x, hown, h2 _ h3, h4⟩), fun i n h => (by obtain ⟨x, h3, h4⟩ := clX0_ok i n h; exact ⟨_, x, hown, h2 _ h3, h4⟩), (zgs_n), zct_n⟩)
def tX0_take : List (Nat × Instr × Nat) := [(0, .aload_n 0, 1), (1, .invokevirtual 29, 3), (4, .iload_n 1, 1), (5, .if_icmp .eq 5, 3), (8, .iconst 0, 1), (9, .ireturn, 1), (10, .aload_n 0, 1), (11, .dup, 1), (12, .getfield 19, 3), (15, .iconst 1, 1), (16, .iadd, 1), (17, .putfield 19, 3), (20, .iconst 1, 1), (21, .ireturn, 1)]
set_option maxRecDepth 100000 in
theorem eX0_take : ∀ x ∈ tX0_take, decode cX0_take x.1 = .ok x.2 := by decide +kernel
def kX0_take : zc_C := ([(4, 0, 0), (0, (-2147483648), 2147483647)], [], [], [(0, 2)], [], [(some (0, 0, 1), [], [])])
def pX0_take : List zp_P := []
def KX0_take : zk_K := (2, RTg, gfX0, ciX0, clX0, [], [(117, kX0_look)], [(0, 2)], [])
set_option maxRecDepth 100000 in
theorem qX0_take : zy_ck KX0_take tX0_take pX0_take kX0_take 1 1 4000 = true := by decide +kernel
set_option maxRecDepth 100000 in
theorem mX0_take (l : Launch) (D : va_G) (cA : Nat → ClassId) (ro : Nat → Option Nat) (sz : Nat) (H0 : Heap) : zy_M l D cA RTg ro sz H0 (zKn D cA ro sz H0) yX0_take (gW yX0_take cX0_take 2 (some .boolean)) { frames := 1, cells := 0, slots := 0, locals := 20 } kX0_take :=
  zy_met (zn := "MomentTexts$Zone") (K := KX0_take) (tb := tX0_take) (pts := pX0_take) (rc := 1) (N := 1) (fuel := 4000) (by decide +kernel) rfl rfl (by decide +kernel) rfl rfl (by decide +kernel) eX0_take qX0_take (fun p e s m args below meth c Q hx hb hml hown hts hKn => by
    have h2 : ∀ w ∈ gT, w.before args s = true := fun w hw => hts w (List.mem_cons_of_mem _ hw)
    exact ⟨hx, hb, zD_all h2 hKn.1, zArN hKn, zf_clause h2 hown hKn.1 gfX0_ok (by decide +kernel), fun i n h => (by obtain ⟨x, h3, h4⟩ := ciX0_ok i n h; exact ⟨_, x, hown, h2 _ h3, h4⟩), fun i n h => (by obtain ⟨x, h3, h4⟩ := clX0_ok i n h; exact ⟨_, x, hown, h2 _ h3, h4⟩), (zgs_n), 
      zct_c (zr_V (idx := 29) (r := 0) (ci := 0) (n0 := 0) (fs := fsX0) (lo := 0) (hi0 := 0) (ts := []) hx hb hml hown hts hKn zKb (mX0_look l D cA ro sz H0) ⟨rfl, rfl⟩ ⟨by decide, by decide⟩ ⟨Nat.zero_le _, Nat.zero_le _⟩ (tb_4 12 rfl rfl) (tb_1 5 rfl rfl) (tb_4 9 rfl rfl) (tb_4 10 rfl rfl) (tb_4 11 rfl rfl) (by decide +kernel) rfl rfl (zCX0 hKn.1) rfl) (zct_n)⟩)
def tX0_need : List (Nat × Instr × Nat) := [(0, .aload_n 0, 1), (1, .iload_n 1, 1), (2, .invokevirtual 44, 3), (5, .ifCond .ne 8, 3), (8, .aload_n 0, 1), (9, .iconst 1, 1), (10, .putfield 22, 3), (13, .return_, 1)]
set_option maxRecDepth 100000 in
theorem eX0_need : ∀ x ∈ tX0_need, decode cX0_need x.1 = .ok x.2 := by decide +kernel
def kX0_need : zc_C := ([(4, 0, 0), (0, (-2147483648), 2147483647)], [], [], [(0, 2), (0, 3)], [], [(none, [], [])])
def pX0_need : List zp_P := []
def KX0_need : zk_K := (2, RTg, gfX0, ciX0, clX0, [], [(177, kX0_take)], [(0, 2), (0, 3)], [])
set_option maxRecDepth 100000 in
theorem qX0_need : zy_ck KX0_need tX0_need pX0_need kX0_need 4 1 4000 = true := by decide +kernel
set_option maxRecDepth 100000 in
theorem mX0_need (l : Launch) (D : va_G) (cA : Nat → ClassId) (ro : Nat → Option Nat) (sz : Nat) (H0 : Heap) : zy_M l D cA RTg ro sz H0 (zKn D cA ro sz H0) yX0_need (gW yX0_need cX0_need 2 none) { frames := 2, cells := 0, slots := 0, locals := 41 } kX0_need :=
  zy_met (zn := "MomentTexts$Zone") (K := KX0_need) (tb := tX0_need) (pts := pX0_need) (rc := 4) (N := 1) (fuel := 4000) (by decide +kernel) rfl rfl (by decide +kernel) rfl rfl (by decide +kernel) eX0_need qX0_need (fun p e s m args below meth c Q hx hb hml hown hts hKn => by
    have h2 : ∀ w ∈ gT, w.before args s = true := fun w hw => hts w (List.mem_cons_of_mem _ hw)
    exact ⟨hx, hb, zD_all h2 hKn.1, zArN hKn, zf_clause h2 hown hKn.1 gfX0_ok (by decide +kernel), fun i n h => (by obtain ⟨x, h3, h4⟩ := ciX0_ok i n h; exact ⟨_, x, hown, h2 _ h3, h4⟩), fun i n h => (by obtain ⟨x, h3, h4⟩ := clX0_ok i n h; exact ⟨_, x, hown, h2 _ h3, h4⟩), (zgs_n), 
      zct_c (zr_V (idx := 44) (r := 0) (ci := 0) (n0 := 0) (fs := fsX0) (lo := 0) (hi0 := 0) (ts := [(0, (-2147483648), 2147483647)]) hx hb hml hown hts hKn zKb (mX0_take l D cA ro sz H0) ⟨rfl, rfl⟩ ⟨by decide, by decide⟩ ⟨Nat.zero_le _, Nat.zero_le _⟩ (tb_4 8 rfl rfl) (tb_1 5 rfl rfl) (tb_4 45 rfl rfl) (tb_4 6 rfl rfl) (tb_4 7 rfl rfl) (by decide +kernel) rfl rfl (zCX0 hKn.1) rfl) (zct_n)⟩)
def tX0_needEnd : List (Nat × Instr × Nat) := [(0, .aload_n 0, 1), (1, .invokevirtual 47, 3), (4, .ifCond .ne 8, 3), (7, .aload_n 0, 1), (8, .iconst 1, 1), (9, .putfield 22, 3), (12, .return_, 1)]
set_option maxRecDepth 100000 in
theorem eX0_needEnd : ∀ x ∈ tX0_needEnd, decode cX0_needEnd x.1 = .ok x.2 := by decide +kernel
def kX0_needEnd : zc_C := ([(4, 0, 0)], [], [], [(0, 3)], [], [(none, [], [])])
def pX0_needEnd : List zp_P := []
def KX0_needEnd : zk_K := (1, RTg, gfX0, ciX0, clX0, [], [(189, kX0_atEnd)], [(0, 3)], [])
set_option maxRecDepth 100000 in
theorem qX0_needEnd : zy_ck KX0_needEnd tX0_needEnd pX0_needEnd kX0_needEnd 4 1 4000 = true := by decide +kernel
set_option maxRecDepth 100000 in
theorem mX0_needEnd (l : Launch) (D : va_G) (cA : Nat → ClassId) (ro : Nat → Option Nat) (sz : Nat) (H0 : Heap) : zy_M l D cA RTg ro sz H0 (zKn D cA ro sz H0) yX0_needEnd (gW yX0_needEnd cX0_needEnd 1 none) { frames := 1, cells := 0, slots := 0, locals := 20 } kX0_needEnd :=
  zy_met (zn := "MomentTexts$Zone") (K := KX0_needEnd) (tb := tX0_needEnd) (pts := pX0_needEnd) (rc := 4) (N := 1) (fuel := 4000) (by decide +kernel) rfl rfl (by decide +kernel) rfl rfl (by decide +kernel) eX0_needEnd qX0_needEnd (fun p e s m args below meth c Q hx hb hml hown hts hKn => by
    have h2 : ∀ w ∈ gT, w.before args s = true := fun w hw => hts w (List.mem_cons_of_mem _ hw)
    exact ⟨hx, hb, zD_all h2 hKn.1, zArN hKn, zf_clause h2 hown hKn.1 gfX0_ok (by decide +kernel), fun i n h => (by obtain ⟨x, h3, h4⟩ := ciX0_ok i n h; exact ⟨_, x, hown, h2 _ h3, h4⟩), fun i n h => (by obtain ⟨x, h3, h4⟩ := clX0_ok i n h; exact ⟨_, x, hown, h2 _ h3, h4⟩), (zgs_n), 
      zct_c (zr_V (idx := 47) (r := 0) (ci := 0) (n0 := 0) (fs := fsX0) (lo := 0) (hi0 := 0) (ts := []) hx hb hml hown hts hKn zKb (mX0_atEnd l D cA ro sz H0) ⟨rfl, rfl⟩ ⟨by decide, by decide⟩ ⟨Nat.zero_le _, Nat.zero_le _⟩ (tb_4 69 rfl rfl) (tb_1 5 rfl rfl) (tb_4 89 rfl rfl) (tb_4 67 rfl rfl) (tb_4 68 rfl rfl) (by decide +kernel) rfl rfl (zCX0 hKn.1) rfl) (zct_n)⟩)
def tX0_fail : List (Nat × Instr × Nat) := [(0, .aload_n 0, 1), (1, .iconst 1, 1), (2, .putfield 22, 3), (5, .return_, 1)]
set_option maxRecDepth 100000 in
theorem eX0_fail : ∀ x ∈ tX0_fail, decode cX0_fail x.1 = .ok x.2 := by decide +kernel
def kX0_fail : zc_C := ([(4, 0, 0)], [], [], [(0, 3)], [], [(none, [], [])])
def pX0_fail : List zp_P := []
def KX0_fail : zk_K := (1, RTg, gfX0, ciX0, clX0, [], [], [(0, 3)], [])
set_option maxRecDepth 100000 in
theorem qX0_fail : zy_ck KX0_fail tX0_fail pX0_fail kX0_fail 4 1 4000 = true := by decide +kernel
set_option maxRecDepth 100000 in
theorem mX0_fail (l : Launch) (D : va_G) (cA : Nat → ClassId) (ro : Nat → Option Nat) (sz : Nat) (H0 : Heap) : zy_M l D cA RTg ro sz H0 (zKn D cA ro sz H0) yX0_fail (gW yX0_fail cX0_fail 1 none) { frames := 0, cells := 0, slots := 0, locals := 0 } kX0_fail :=
  zy_met (zn := "MomentTexts$Zone") (K := KX0_fail) (tb := tX0_fail) (pts := pX0_fail) (rc := 4) (N := 1) (fuel := 4000) (by decide +kernel) rfl rfl (by decide +kernel) rfl rfl (by decide +kernel) eX0_fail qX0_fail (fun p e s m args below meth c Q hx hb hml hown hts hKn => by
    have h2 : ∀ w ∈ gT, w.before args s = true := fun w hw => hts w (List.mem_cons_of_mem _ hw)
    exact ⟨hx, hb, zD_all h2 hKn.1, zArN hKn, zf_clause h2 hown hKn.1 gfX0_ok (by decide +kernel), fun i n h => (by obtain ⟨x, h3, h4⟩ := ciX0_ok i n h; exact ⟨_, x, hown, h2 _ h3, h4⟩), fun i n h => (by obtain ⟨x, h3, h4⟩ := clX0_ok i n h; exact ⟨_, x, hown, h2 _ h3, h4⟩), (zgs_n), zct_n⟩)
def tX0_blame : List (Nat × Instr × Nat) := [(0, .aload_n 0, 1), (1, .getfield 26, 3), (4, .ifCond .ge 8, 3), (7, .aload_n 0, 1), (8, .iload_n 1, 1), (9, .putfield 26, 3), (12, .ldc2_w 50, 3), (15, .lreturn, 1)]
set_option maxRecDepth 100000 in
theorem eX0_blame : ∀ x ∈ tX0_blame, decode cX0_blame x.1 = .ok x.2 := by decide +kernel
def kX0_blame : zc_C := ([(4, 0, 0), (0, (-2147483648), 2147483647)], [], [], [(0, 4)], [], [(some (1, (-9223372036854775808), 9223372036854775807), [], [])])
def pX0_blame : List zp_P := []
def KX0_blame : zk_K := (2, RTg, gfX0, ciX0, clX0, [], [], [(0, 4)], [])
set_option maxRecDepth 100000 in
theorem qX0_blame : zy_ck KX0_blame tX0_blame pX0_blame kX0_blame 2 1 4000 = true := by decide +kernel
set_option maxRecDepth 100000 in
theorem mX0_blame (l : Launch) (D : va_G) (cA : Nat → ClassId) (ro : Nat → Option Nat) (sz : Nat) (H0 : Heap) : zy_M l D cA RTg ro sz H0 (zKn D cA ro sz H0) yX0_blame (gW yX0_blame cX0_blame 2 (some .long)) { frames := 0, cells := 0, slots := 0, locals := 0 } kX0_blame :=
  zy_met (zn := "MomentTexts$Zone") (K := KX0_blame) (tb := tX0_blame) (pts := pX0_blame) (rc := 2) (N := 1) (fuel := 4000) (by decide +kernel) rfl rfl (by decide +kernel) rfl rfl (by decide +kernel) eX0_blame qX0_blame (fun p e s m args below meth c Q hx hb hml hown hts hKn => by
    have h2 : ∀ w ∈ gT, w.before args s = true := fun w hw => hts w (List.mem_cons_of_mem _ hw)
    exact ⟨hx, hb, zD_all h2 hKn.1, zArN hKn, zf_clause h2 hown hKn.1 gfX0_ok (by decide +kernel), fun i n h => (by obtain ⟨x, h3, h4⟩ := ciX0_ok i n h; exact ⟨_, x, hown, h2 _ h3, h4⟩), fun i n h => (by obtain ⟨x, h3, h4⟩ := clX0_ok i n h; exact ⟨_, x, hown, h2 _ h3, h4⟩), (zgs_n), zct_n⟩)
def tX0_isGood : List (Nat × Instr × Nat) := [(0, .aload_n 0, 1), (1, .getfield 22, 3), (4, .ifCond .ne 14, 3), (7, .aload_n 0, 1), (8, .getfield 26, 3), (11, .ifCond .ge 7, 3), (14, .iconst 1, 1), (15, .goto 4, 3), (18, .iconst 0, 1), (19, .ireturn, 1)]
set_option maxRecDepth 100000 in
theorem eX0_isGood : ∀ x ∈ tX0_isGood, decode cX0_isGood x.1 = .ok x.2 := by decide +kernel
def kX0_isGood : zc_C := ([(4, 0, 0)], [], [], [], [], [(some (0, 0, 1), [], [])])
def pX0_isGood : List zp_P := []
def KX0_isGood : zk_K := (1, RTg, gfX0, ciX0, clX0, [], [], [], [])
set_option maxRecDepth 100000 in
theorem qX0_isGood : zy_ck KX0_isGood tX0_isGood pX0_isGood kX0_isGood 1 1 4000 = true := by decide +kernel
set_option maxRecDepth 100000 in
theorem mX0_isGood (l : Launch) (D : va_G) (cA : Nat → ClassId) (ro : Nat → Option Nat) (sz : Nat) (H0 : Heap) : zy_M l D cA RTg ro sz H0 (zKn D cA ro sz H0) yX0_isGood (gW yX0_isGood cX0_isGood 1 (some .boolean)) { frames := 0, cells := 0, slots := 0, locals := 0 } kX0_isGood :=
  zy_met (zn := "MomentTexts$Zone") (K := KX0_isGood) (tb := tX0_isGood) (pts := pX0_isGood) (rc := 1) (N := 1) (fuel := 4000) (by decide +kernel) rfl rfl (by decide +kernel) rfl rfl (by decide +kernel) eX0_isGood qX0_isGood (fun p e s m args below meth c Q hx hb hml hown hts hKn => by
    have h2 : ∀ w ∈ gT, w.before args s = true := fun w hw => hts w (List.mem_cons_of_mem _ hw)
    exact ⟨hx, hb, zD_all h2 hKn.1, zArN hKn, zf_clause h2 hown hKn.1 gfX0_ok (by decide +kernel), fun i n h => (by obtain ⟨x, h3, h4⟩ := ciX0_ok i n h; exact ⟨_, x, hown, h2 _ h3, h4⟩), fun i n h => (by obtain ⟨x, h3, h4⟩ := clX0_ok i n h; exact ⟨_, x, hown, h2 _ h3, h4⟩), (zgs_n), zct_n⟩)
def tX0_verdict : List (Nat × Instr × Nat) := [(0, .aload_n 0, 1), (1, .getfield 22, 3), (4, .ifCond .eq 9, 3), (7, .aload_n 0, 1), (8, .getfield 19, 3), (11, .i2l, 1), (12, .lreturn, 1), (13, .aload_n 0, 1), (14, .getfield 26, 3), (17, .ifCond .ge 9, 3), (20, .ldc2_w 50, 3), (23, .goto 8, 3), (26, .aload_n 0, 1), (27, .getfield 26, 3), (30, .i2l, 1), (31, .lreturn, 1)]
set_option maxRecDepth 100000 in
theorem eX0_verdict : ∀ x ∈ tX0_verdict, decode cX0_verdict x.1 = .ok x.2 := by decide +kernel
def kX0_verdict : zc_C := ([(4, 0, 0)], [], [], [], [], [(some (1, (-9223372036854775808), 9223372036854775807), [], [])])
def pX0_verdict : List zp_P := []
def KX0_verdict : zk_K := (1, RTg, gfX0, ciX0, clX0, [], [], [], [])
set_option maxRecDepth 100000 in
theorem qX0_verdict : zy_ck KX0_verdict tX0_verdict pX0_verdict kX0_verdict 2 1 4000 = true := by decide +kernel
set_option maxRecDepth 100000 in
theorem mX0_verdict (l : Launch) (D : va_G) (cA : Nat → ClassId) (ro : Nat → Option Nat) (sz : Nat) (H0 : Heap) : zy_M l D cA RTg ro sz H0 (zKn D cA ro sz H0) yX0_verdict (gW yX0_verdict cX0_verdict 1 (some .long)) { frames := 0, cells := 0, slots := 0, locals := 0 } kX0_verdict :=
  zy_met (zn := "MomentTexts$Zone") (K := KX0_verdict) (tb := tX0_verdict) (pts := pX0_verdict) (rc := 2) (N := 1) (fuel := 4000) (by decide +kernel) rfl rfl (by decide +kernel) rfl rfl (by decide +kernel) eX0_verdict qX0_verdict (fun p e s m args below meth c Q hx hb hml hown hts hKn => by
    have h2 : ∀ w ∈ gT, w.before args s = true := fun w hw => hts w (List.mem_cons_of_mem _ hw)
    exact ⟨hx, hb, zD_all h2 hKn.1, zArN hKn, zf_clause h2 hown hKn.1 gfX0_ok (by decide +kernel), fun i n h => (by obtain ⟨x, h3, h4⟩ := ciX0_ok i n h; exact ⟨_, x, hown, h2 _ h3, h4⟩), fun i n h => (by obtain ⟨x, h3, h4⟩ := clX0_ok i n h; exact ⟨_, x, hown, h2 _ h3, h4⟩), (zgs_n), zct_n⟩)
def tX0_number : List (Nat × Instr × Nat) := [(0, .iconst 0, 1), (1, .istore_n 3, 1), (2, .iconst 0, 1), (3, .istore 4, 2), (5, .iload 4, 2), (7, .iload_n 2, 1), (8, .if_icmp .ge 62, 3), (11, .aload_n 0, 1), (12, .invokevirtual 33, 3), (15, .istore 5, 2), (17, .iload 5, 2), (19, .ifCond .ge 27, 3), (22, .aload_n 0, 1), (23, .aload_n 0, 1), (24, .getfield 22, 3), (27, .ifCond .ne 9, 3), (30, .iload 4, 2), (32, .iload_n 1, 1), (33, .if_icmp .ge 7, 3), (36, .iconst 1, 1), (37, .goto 4, 3), (40, .iconst 0, 1), (41, .putfield 22, 3), (44, .iload_n 3, 1), (45, .ireturn, 1), (46, .iload_n 3, 1), (47, .bipush 10, 2), (49, .imul, 1), (50, .iload 5, 2), (52, .iadd, 1), (53, .istore_n 3, 1), (54, .aload_n 0, 1), (55, .dup, 1), (56, .getfield 19, 3), (59, .iconst 1, 1), (60, .iadd, 1), (61, .putfield 19, 3), (64, .iinc 4 1, 3), (67, .goto (-62), 3), (70, .iload_n 3, 1), (71, .ireturn, 1)]
set_option maxRecDepth 100000 in
theorem eX0_number : ∀ x ∈ tX0_number, decode cX0_number x.1 = .ok x.2 := by decide +kernel
def kX0_number : zc_C := ([(4, 0, 0), (0, (-2147483648), 2147483647), (0, (-2147483648), 2147483647)], [], [], [(0, 2), (0, 3)], [], [(some (0, (-2147483648), 2147483647), [], [])])
def pX0_number : List zp_P := [(5, [(0, (-1)), ((-2147483648), 2147483647), ((-2147483648), 2147483647), ((-2147483648), 2147483647), (0, 2147483647), (0, (-1)), ((-2147483648), 2147483647), ((-2147483648), 2147483647)], [], [(0, 4), (1, 0), (2, 0), (3, 0), (4, 0)], [], [], 3, [([], 38), ([(4, (-1))], 2147483649), ([], 38)])]
def KX0_number : zk_K := (6, RTg, gfX0, ciX0, clX0, [], [(133, kX0_digit)], [(0, 2), (0, 3)], [])
set_option maxRecDepth 100000 in
theorem qX0_number : zy_ck KX0_number tX0_number pX0_number kX0_number 1 3 4000 = true := by decide +kernel
set_option maxRecDepth 100000 in
theorem mX0_number (l : Launch) (D : va_G) (cA : Nat → ClassId) (ro : Nat → Option Nat) (sz : Nat) (H0 : Heap) : zy_M l D cA RTg ro sz H0 (zKn D cA ro sz H0) yX0_number (gW yX0_number cX0_number 6 (some .int)) { frames := 1, cells := 0, slots := 0, locals := 21 } kX0_number :=
  zy_met (zn := "MomentTexts$Zone") (K := KX0_number) (tb := tX0_number) (pts := pX0_number) (rc := 1) (N := 3) (fuel := 4000) (by decide +kernel) rfl rfl (by decide +kernel) rfl rfl (by decide +kernel) eX0_number qX0_number (fun p e s m args below meth c Q hx hb hml hown hts hKn => by
    have h2 : ∀ w ∈ gT, w.before args s = true := fun w hw => hts w (List.mem_cons_of_mem _ hw)
    exact ⟨hx, hb, zD_all h2 hKn.1, zArN hKn, zf_clause h2 hown hKn.1 gfX0_ok (by decide +kernel), fun i n h => (by obtain ⟨x, h3, h4⟩ := ciX0_ok i n h; exact ⟨_, x, hown, h2 _ h3, h4⟩), fun i n h => (by obtain ⟨x, h3, h4⟩ := clX0_ok i n h; exact ⟨_, x, hown, h2 _ h3, h4⟩), (zgs_n), 
      zct_c (zr_V (idx := 33) (r := 0) (ci := 0) (n0 := 0) (fs := fsX0) (lo := 0) (hi0 := 0) (ts := []) hx hb hml hown hts hKn zKb (mX0_digit l D cA ro sz H0) ⟨rfl, rfl⟩ ⟨by decide, by decide⟩ ⟨Nat.zero_le _, Nat.zero_le _⟩ (tb_4 28 rfl rfl) (tb_1 5 rfl rfl) (tb_4 25 rfl rfl) (tb_4 26 rfl rfl) (tb_4 27 rfl rfl) (by decide +kernel) rfl rfl (zCX0 hKn.1) rfl) (zct_n)⟩)
def tX0_numberIn : List (Nat × Instr × Nat) := [(0, .aload_n 0, 1), (1, .getfield 19, 3), (4, .istore 5, 2), (6, .aload_n 0, 1), (7, .iload_n 1, 1), (8, .iload_n 2, 1), (9, .invokevirtual 52, 3), (12, .istore 6, 2), (14, .iload 6, 2), (16, .iload_n 3, 1), (17, .if_icmp .lt 10, 3), (20, .iload 6, 2), (22, .iload 4, 2), (24, .if_icmp .le 10, 3), (27, .aload_n 0, 1), (28, .iload 5, 2), (30, .invokevirtual 56, 3), (33, .pop2, 1), (34, .iload 6, 2), (36, .ireturn, 1)]
set_option maxRecDepth 100000 in
theorem eX0_numberIn : ∀ x ∈ tX0_numberIn, decode cX0_numberIn x.1 = .ok x.2 := by decide +kernel
def kX0_numberIn : zc_C := ([(4, 0, 0), (0, (-2147483648), 2147483647), (0, (-2147483648), 2147483647), (0, (-2147483648), 2147483647), (0, (-2147483648), 2147483647)], [], [], [(0, 2), (0, 3), (0, 4)], [], [(some (0, (-2147483648), 2147483647), [], [])])
def pX0_numberIn : List zp_P := []
def KX0_numberIn : zk_K := (7, RTg, gfX0, ciX0, clX0, [], [(209, kX0_number), (225, kX0_blame)], [(0, 2), (0, 3), (0, 4)], [])
set_option maxRecDepth 100000 in
theorem qX0_numberIn : zy_ck KX0_numberIn tX0_numberIn pX0_numberIn kX0_numberIn 1 1 4000 = true := by decide +kernel
set_option maxRecDepth 100000 in
theorem mX0_numberIn (l : Launch) (D : va_G) (cA : Nat → ClassId) (ro : Nat → Option Nat) (sz : Nat) (H0 : Heap) : zy_M l D cA RTg ro sz H0 (zKn D cA ro sz H0) yX0_numberIn (gW yX0_numberIn cX0_numberIn 7 (some .int)) { frames := 2, cells := 0, slots := 0, locals := 46 } kX0_numberIn :=
  zy_met (zn := "MomentTexts$Zone") (K := KX0_numberIn) (tb := tX0_numberIn) (pts := pX0_numberIn) (rc := 1) (N := 1) (fuel := 4000) (by decide +kernel) rfl rfl (by decide +kernel) rfl rfl (by decide +kernel) eX0_numberIn qX0_numberIn (fun p e s m args below meth c Q hx hb hml hown hts hKn => by
    have h2 : ∀ w ∈ gT, w.before args s = true := fun w hw => hts w (List.mem_cons_of_mem _ hw)
    exact ⟨hx, hb, zD_all h2 hKn.1, zArN hKn, zf_clause h2 hown hKn.1 gfX0_ok (by decide +kernel), fun i n h => (by obtain ⟨x, h3, h4⟩ := ciX0_ok i n h; exact ⟨_, x, hown, h2 _ h3, h4⟩), fun i n h => (by obtain ⟨x, h3, h4⟩ := clX0_ok i n h; exact ⟨_, x, hown, h2 _ h3, h4⟩), (zgs_n), 
      zct_c (zr_V (idx := 52) (r := 0) (ci := 0) (n0 := 0) (fs := fsX0) (lo := 0) (hi0 := 0) (ts := [(0, (-2147483648), 2147483647), (0, (-2147483648), 2147483647)]) hx hb hml hown hts hKn zKb (mX0_number l D cA ro sz H0) ⟨rfl, rfl⟩ ⟨by decide, by decide⟩ ⟨Nat.zero_le _, Nat.zero_le _⟩ (tb_4 60 rfl rfl) (tb_1 5 rfl rfl) (tb_4 57 rfl rfl) (tb_4 58 rfl rfl) (tb_4 59 rfl rfl) (by decide +kernel) rfl rfl (zCX0 hKn.1) rfl) (
      zct_c (zr_V (idx := 56) (r := 0) (ci := 0) (n0 := 0) (fs := fsX0) (lo := 0) (hi0 := 0) (ts := [(0, (-2147483648), 2147483647)]) hx hb hml hown hts hKn zKb (mX0_blame l D cA ro sz H0) ⟨rfl, rfl⟩ ⟨by decide, by decide⟩ ⟨Nat.zero_le _, Nat.zero_le _⟩ (tb_4 64 rfl rfl) (tb_1 5 rfl rfl) (tb_4 61 rfl rfl) (tb_4 62 rfl rfl) (tb_4 63 rfl rfl) (by decide +kernel) rfl rfl (zCX0 hKn.1) rfl) (zct_n))⟩)
def tX0_part : List (Nat × Instr × Nat) := [(0, .aload_n 0, 1), (1, .invokevirtual 36, 3), (4, .ifCond .ne 8, 3), (7, .aload_n 0, 1), (8, .iconst 1, 1), (9, .putfield 22, 3), (12, .iconst 0, 1), (13, .istore_n 1, 1), (14, .iconst 0, 1), (15, .istore_n 2, 1), (16, .iconst 0, 1), (17, .istore_n 3, 1), (18, .iload_n 3, 1), (19, .bipush 120, 2), (21, .if_icmp .ge 45, 3), (24, .aload_n 0, 1), (25, .invokevirtual 36, 3), (28, .ifCond .eq 38, 3), (31, .iload_n 2, 1), (32, .bipush 9, 2), (34, .if_icmp .ge 16, 3), (37, .iload_n 1, 1), (38, .bipush 10, 2), (40, .imul, 1), (41, .aload_n 0, 1), (42, .invokevirtual 33, 3), (45, .iadd, 1), (46, .istore_n 1, 1), (47, .iinc 2 1, 3), (50, .aload_n 0, 1), (51, .dup, 1), (52, .getfield 19, 3), (55, .iconst 1, 1), (56, .iadd, 1), (57, .putfield 19, 3), (60, .iinc 3 1, 3), (63, .goto (-45), 3), (66, .iload_n 2, 1), (67, .istore_n 3, 1), (68, .iload_n 3, 1), (69, .bipush 9, 2), (71, .if_icmp .ge 14, 3), (74, .iload_n 1, 1), (75, .bipush 10, 2), (77, .imul, 1), (78, .istore_n 1, 1), (79, .iinc 3 1, 3), (82, .goto (-14), 3), (85, .iload_n 1, 1), (86, .ireturn, 1)]
set_option maxRecDepth 100000 in
theorem eX0_part : ∀ x ∈ tX0_part, decode cX0_part x.1 = .ok x.2 := by decide +kernel
def kX0_part : zc_C := ([(4, 0, 0)], [], [], [(0, 2), (0, 3)], [], [(some (0, (-2147483648), 2147483647), [], [])])
def pX0_part : List zp_P := [(18, [(0, (-1)), ((-2147483648), 2147483647), (0, 9), (0, 120), (0, (-1))], [], [(0, 4), (1, 0), (2, 0), (3, 0)], [], [], 1, [([], 39), ([(3, (-1))], 2147483649), ([], 39)]), (68, [(0, (-1)), ((-2147483648), 2147483647), (0, 9), (0, 9), (0, (-1))], [], [(0, 4), (1, 0), (2, 0), (3, 0)], [], [], 1, [([], 12), ([(3, (-1))], 2147483649), ([], 12)])]
def KX0_part : zk_K := (4, RTg, gfX0, ciX0, clX0, [], [(133, kX0_digit), (145, kX0_atDigit)], [(0, 2), (0, 3)], [])
set_option maxRecDepth 100000 in
theorem qX0_part : zy_ck KX0_part tX0_part pX0_part kX0_part 1 3 4000 = true := by decide +kernel
set_option maxRecDepth 100000 in
theorem mX0_part (l : Launch) (D : va_G) (cA : Nat → ClassId) (ro : Nat → Option Nat) (sz : Nat) (H0 : Heap) : zy_M l D cA RTg ro sz H0 (zKn D cA ro sz H0) yX0_part (gW yX0_part cX0_part 4 (some .int)) { frames := 2, cells := 0, slots := 0, locals := 41 } kX0_part :=
  zy_met (zn := "MomentTexts$Zone") (K := KX0_part) (tb := tX0_part) (pts := pX0_part) (rc := 1) (N := 3) (fuel := 4000) (by decide +kernel) rfl rfl (by decide +kernel) rfl rfl (by decide +kernel) eX0_part qX0_part (fun p e s m args below meth c Q hx hb hml hown hts hKn => by
    have h2 : ∀ w ∈ gT, w.before args s = true := fun w hw => hts w (List.mem_cons_of_mem _ hw)
    exact ⟨hx, hb, zD_all h2 hKn.1, zArN hKn, zf_clause h2 hown hKn.1 gfX0_ok (by decide +kernel), fun i n h => (by obtain ⟨x, h3, h4⟩ := ciX0_ok i n h; exact ⟨_, x, hown, h2 _ h3, h4⟩), fun i n h => (by obtain ⟨x, h3, h4⟩ := clX0_ok i n h; exact ⟨_, x, hown, h2 _ h3, h4⟩), (zgs_n), 
      zct_c (zr_V (idx := 33) (r := 0) (ci := 0) (n0 := 0) (fs := fsX0) (lo := 0) (hi0 := 0) (ts := []) hx hb hml hown hts hKn zKb (mX0_digit l D cA ro sz H0) ⟨rfl, rfl⟩ ⟨by decide, by decide⟩ ⟨Nat.zero_le _, Nat.zero_le _⟩ (tb_4 28 rfl rfl) (tb_1 5 rfl rfl) (tb_4 25 rfl rfl) (tb_4 26 rfl rfl) (tb_4 27 rfl rfl) (by decide +kernel) rfl rfl (zCX0 hKn.1) rfl) (
      zct_c (zr_V (idx := 36) (r := 0) (ci := 0) (n0 := 0) (fs := fsX0) (lo := 0) (hi0 := 0) (ts := []) hx hb hml hown hts hKn zKb (mX0_atDigit l D cA ro sz H0) ⟨rfl, rfl⟩ ⟨by decide, by decide⟩ ⟨Nat.zero_le _, Nat.zero_le _⟩ (tb_4 24 rfl rfl) (tb_1 5 rfl rfl) (tb_4 21 rfl rfl) (tb_4 22 rfl rfl) (tb_4 23 rfl rfl) (by decide +kernel) rfl rfl (zCX0 hKn.1) rfl) (zct_n))⟩)
def tX0_clock : List (Nat × Instr × Nat) := [(0, .bipush 60, 2), (2, .aload_n 0, 1), (3, .iconst 1, 1), (4, .iconst 2, 1), (5, .iconst 0, 1), (6, .iload_n 1, 1), (7, .invokevirtual 60, 3), (10, .imul, 1), (11, .istore_n 2, 1), (12, .aload_n 0, 1), (13, .bipush 58, 2), (15, .invokevirtual 44, 3), (18, .ifCond .eq 17, 3), (21, .iload_n 2, 1), (22, .aload_n 0, 1), (23, .iconst 2, 1), (24, .iconst 2, 1), (25, .iconst 0, 1), (26, .bipush 59, 2), (28, .invokevirtual 60, 3), (31, .iadd, 1), (32, .goto 4, 3), (35, .iload_n 2, 1), (36, .ireturn, 1)]
set_option maxRecDepth 100000 in
theorem eX0_clock : ∀ x ∈ tX0_clock, decode cX0_clock x.1 = .ok x.2 := by decide +kernel
def kX0_clock : zc_C := ([(4, 0, 0), (0, (-2147483648), 2147483647)], [], [], [(0, 2), (0, 3), (0, 4)], [], [(some (0, (-2147483648), 2147483647), [], [])])
def pX0_clock : List zp_P := []
def KX0_clock : zk_K := (3, RTg, gfX0, ciX0, clX0, [], [(177, kX0_take), (241, kX0_numberIn)], [(0, 2), (0, 3), (0, 4)], [])
set_option maxRecDepth 100000 in
theorem qX0_clock : zy_ck KX0_clock tX0_clock pX0_clock kX0_clock 1 1 4000 = true := by decide +kernel
set_option maxRecDepth 100000 in
theorem mX0_clock (l : Launch) (D : va_G) (cA : Nat → ClassId) (ro : Nat → Option Nat) (sz : Nat) (H0 : Heap) : zy_M l D cA RTg ro sz H0 (zKn D cA ro sz H0) yX0_clock (gW yX0_clock cX0_clock 3 (some .int)) { frames := 3, cells := 0, slots := 0, locals := 72 } kX0_clock :=
  zy_met (zn := "MomentTexts$Zone") (K := KX0_clock) (tb := tX0_clock) (pts := pX0_clock) (rc := 1) (N := 1) (fuel := 4000) (by decide +kernel) rfl rfl (by decide +kernel) rfl rfl (by decide +kernel) eX0_clock qX0_clock (fun p e s m args below meth c Q hx hb hml hown hts hKn => by
    have h2 : ∀ w ∈ gT, w.before args s = true := fun w hw => hts w (List.mem_cons_of_mem _ hw)
    exact ⟨hx, hb, zD_all h2 hKn.1, zArN hKn, zf_clause h2 hown hKn.1 gfX0_ok (by decide +kernel), fun i n h => (by obtain ⟨x, h3, h4⟩ := ciX0_ok i n h; exact ⟨_, x, hown, h2 _ h3, h4⟩), fun i n h => (by obtain ⟨x, h3, h4⟩ := clX0_ok i n h; exact ⟨_, x, hown, h2 _ h3, h4⟩), (zgs_n), 
      zct_c (zr_V (idx := 44) (r := 0) (ci := 0) (n0 := 0) (fs := fsX0) (lo := 0) (hi0 := 0) (ts := [(0, (-2147483648), 2147483647)]) hx hb hml hown hts hKn zKb (mX0_take l D cA ro sz H0) ⟨rfl, rfl⟩ ⟨by decide, by decide⟩ ⟨Nat.zero_le _, Nat.zero_le _⟩ (tb_4 8 rfl rfl) (tb_1 5 rfl rfl) (tb_4 45 rfl rfl) (tb_4 6 rfl rfl) (tb_4 7 rfl rfl) (by decide +kernel) rfl rfl (zCX0 hKn.1) rfl) (
      zct_c (zr_V (idx := 60) (r := 0) (ci := 0) (n0 := 0) (fs := fsX0) (lo := 0) (hi0 := 0) (ts := [(0, (-2147483648), 2147483647), (0, (-2147483648), 2147483647), (0, (-2147483648), 2147483647), (0, (-2147483648), 2147483647)]) hx hb hml hown hts hKn zKb (mX0_numberIn l D cA ro sz H0) ⟨rfl, rfl⟩ ⟨by decide, by decide⟩ ⟨Nat.zero_le _, Nat.zero_le _⟩ (tb_4 56 rfl rfl) (tb_1 5 rfl rfl) (tb_4 53 rfl rfl) (tb_4 54 rfl rfl) (tb_4 55 rfl rfl) (by decide +kernel) rfl rfl (zCX0 hKn.1) rfl) (zct_n))⟩)
