def tX12_isIn : List (Nat × Instr × Nat) := [(0, .lload_n 0, 1), (1, .lload_n 2, 1), (2, .lcmp, 1), (3, .ifCond .lt 14, 3), (6, .lload_n 0, 1), (7, .lload 4, 2), (9, .lcmp, 1), (10, .ifCond .gt 7, 3), (13, .iconst 1, 1), (14, .goto 4, 3), (17, .iconst 0, 1), (18, .ireturn, 1)]
set_option maxRecDepth 100000 in
theorem eX12_isIn : ∀ x ∈ tX12_isIn, decode cX12_isIn x.1 = .ok x.2 := by decide +kernel
def kX12_isIn : zc_C := ([(1, (-9223372036854775808), 9223372036854775807), (1, (-9223372036854775808), 9223372036854775807), (1, (-9223372036854775808), 9223372036854775807)], [], [], [], [], [(some (0, 1, 1), [], [([(1, 1), (0, (-1))], 0), ([(0, 1), (2, (-1))], 0)]), (some (0, 0, 0), [], [])])
def pX12_isIn : List zp_P := []
def KX12_isIn : zk_K := (6, RTg, gfX12, ciX12, clX12, [], [], [], [])
set_option maxRecDepth 100000 in
theorem qX12_isIn : zy_ck KX12_isIn tX12_isIn pX12_isIn kX12_isIn 1 1 4000 = true := by decide +kernel
set_option maxRecDepth 100000 in
theorem mX12_isIn (l : Launch) (D : va_G) (cA : Nat → ClassId) (ro : Nat → Option Nat) (sz : Nat) (H0 : Heap) : zy_M l D cA RTg ro sz H0 (zKn D cA ro sz H0) yX12_isIn (gW yX12_isIn cX12_isIn 6 (some .boolean)) { frames := 0, cells := 0, slots := 0, locals := 0 } kX12_isIn :=
  zy_met (zn := "MomentTexts$Zone") (K := KX12_isIn) (tb := tX12_isIn) (pts := pX12_isIn) (rc := 1) (N := 1) (fuel := 4000) (by decide +kernel) rfl rfl (by decide +kernel) rfl rfl (by decide +kernel) eX12_isIn qX12_isIn (fun p e s m args below meth c Q hx hb hml hown hts hKn => by
    have h2 : ∀ w ∈ gT, w.before args s = true := fun w hw => hts w (List.mem_cons_of_mem _ hw)
    exact ⟨hx, hb, zD_all h2 hKn.1, zArN hKn, zf_clause h2 hown hKn.1 gfX12_ok (by decide +kernel), fun i n h => (by obtain ⟨x, h3, h4⟩ := ciX12_ok i n h; exact ⟨_, x, hown, h2 _ h3, h4⟩), fun i n h => (by obtain ⟨x, h3, h4⟩ := clX12_ok i n h; exact ⟨_, x, hown, h2 _ h3, h4⟩), (zgs_n), zct_n⟩)
