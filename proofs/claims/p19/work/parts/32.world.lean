/-! the world: the types of the fields, the roles, what the tables say of the classes -/
def fsX0 : List zt_T := [(28, 0, 0), (0, 0, 120), (0, (-2147483648), 2147483647), (0, 0, 1), (0, (-2147483648), 2147483647)]
def fsX1 : List zt_T := [(0, (-2147483648), 2147483647), (0, 0, 1), (0, (-2147483648), 2147483647), (0, 0, 1), (0, 0, 1), (0, (-2147483648), 2147483647), (0, (-2147483648), 2147483647), (0, (-2147483648), 2147483647), (0, (-2147483648), 2147483647), (0, (-2147483648), 2147483647)]
def fsX3 : List zt_T := [(1, (-9223372036854775808), 9223372036854775807), (1, (-9223372036854775808), 9223372036854775807), (1, (-9223372036854775808), 9223372036854775807), (1, (-9223372036854775808), 9223372036854775807), (0, 0, 1)]
def fsX4 : List zt_T := [(4, 0, 0), (12, 0, 0), (6, 0, 0), (18, 0, 0), (8, 0, 0), (38, 0, 0)]
def fsX5 : List zt_T := [(30, 0, 0), (0, 0, 40)]
def fsX6 : List zt_T := [(0, (-2147483648), 2147483647), (0, (-2147483648), 2147483647), (0, (-2147483648), 2147483647), (16, 0, 0), (16, 0, 0), (0, 0, 1), (0, (-2147483648), 2147483647), (1, (-9223372036854775808), 9223372036854775807), (1, (-9223372036854775808), 9223372036854775807), (1, (-9223372036854775808), 9223372036854775807), (1, (-9223372036854775808), 9223372036854775807)]
def fsX7 : List zt_T := [(0, (-2147483648), 2147483647), (0, (-2147483648), 2147483647), (0, (-2147483648), 2147483647), (0, (-2147483648), 2147483647), (0, (-2147483648), 2147483647)]
def fsX8 : List zt_T := [(0, (-2147483648), 2147483647), (0, (-2147483648), 2147483647), (0, (-2147483648), 2147483647), (0, (-2147483648), 2147483647), (0, (-2147483648), 2147483647), (0, (-2147483648), 2147483647), (0, (-2147483648), 2147483647), (0, (-2147483648), 2147483647), (0, (-2147483648), 2147483647), (0, 0, 1), (0, (-2147483648), 2147483647), (0, (-2147483648), 2147483647), (0, (-2147483648), 2147483647), (0, (-2147483648), 2147483647)]
def fsX9 : List zt_T := [(36, 0, 0), (0, 0, 120)]
def fsX10 : List zt_T := [(0, (-2147483648), 2147483647), (12, 0, 0), (32, 0, 0), (34, 0, 0), (0, 0, 60), (14, 0, 0)]
def fsX11 : List zt_T := [(12, 0, 0), (44, 0, 0), (0, 0, 8), (14, 0, 0), (4, 0, 0), (20, 0, 0), (10, 0, 0), (40, 0, 0), (42, 0, 0)]
def fsX12 : List zt_T := [(0, 0, 2), (0, 0, 40), (46, 0, 0), (0, 0, 8), (48, 0, 0), (50, 0, 0), (52, 0, 0), (54, 0, 0), (56, 0, 0), (58, 0, 0), (60, 0, 0), (62, 0, 0), (64, 0, 0), (0, 0, 120), (66, 0, 0), (0, 0, 120), (1, (-365961662), (-365961662)), (1, 364522971, 364522971), (1, (-9223372036854775808), 9223372036854775807), (0, (-2147483648), 2147483647), (0, (-2147483648), 2147483647), (1, (-9223372036854775808), 9223372036854775807), (0, (-2147483648), 2147483647), (68, 0, 0), (0, 0, 64), (70, 0, 0), (72, 0, 0), (0, 0, 128), (0, 0, 7), (0, 0, 120), (0, (-1), 120), (0, (-2147483648), 2147483647), (74, 0, 0), (0, (-2147483648), 2147483647), (76, 0, 0), (78, 0, 0), (0, 0, 3), (0, 0, 1), (1, (-9223372036854775808), 9223372036854775807), (0, 0, 1), (80, 0, 0)]
def RTg : List zr_R := [(0, 0, 0, fsX0), (0, 1, 0, fsX1), (0, 2, 0, fsX3), (0, 3, 0, fsX4), (0, 4, 0, fsX5), (0, 5, 0, fsX6), (0, 6, 0, fsX7), (0, 7, 0, fsX8), (0, 8, 0, fsX9), (0, 9, 0, fsX10), (0, 10, 0, fsX11), (0, 11, 0, fsX12), (1, 2, 120, [(0, (-128), 127)]), (1, 1, 40, [(1, (-9223372036854775808), 9223372036854775807)]), (1, 1, 60, [(1, (-9223372036854775808), 9223372036854775807)]), (1, 0, 60, [(0, (-2147483648), 2147483647)]), (1, 2, 120, [(0, (-128), 127)]), (1, 1, 39, [(1, (-9223372036854775808), 9223372036854775807)]), (1, 1, 39, [(1, (-9223372036854775808), 9223372036854775807)]), (1, 1, 63, [(1, (-9223372036854775808), 9223372036854775807)]), (1, 4, 8, [(23, 0, 0)]), (1, 1, 40, [(1, (-9223372036854775808), 9223372036854775807)]), (1, 0, 8, [(0, (-1439), 1439)]), (1, 0, 8, [(0, 0, 60)]), (1, 1, 480, [(1, (-100000000000000), 100000000000000)]), (1, 0, 480, [(0, (-1439), 1439)]), (1, 0, 8, [(0, 0, 2)]), (1, 0, 8, [(0, (-1000000), 1000000)]), (1, 0, 8, [(0, (-1000000), 1000000)]), (1, 0, 80, [(0, (-1000000), 1000000)]), (1, 2, 120, [(0, (-128), 127)]), (1, 2, 160, [(0, (-128), 127)]), (1, 0, 64, [(0, (-1000000), 1000000)]), (1, 1, 64, [(1, (-100000000000000), 100000000000000)]), (1, 1, 128, [(1, (-100000000000000), 100000000000000)]), (1, 0, 10, [(0, (-1000000), 1000000)]), (1, 1, 64, [(1, (-9223372036854775808), 9223372036854775807)]), (1, 1, 16, [(1, (-9223372036854775808), 9223372036854775807)]), (1, 1, 39, [(1, (-9223372036854775808), 9223372036854775807)]), (2, 0, 13, [(0, 0, 365)]), (2, 3, 6, [(0, 0, 65535)]), (2, 0, 6, [(0, 1, 86400)]), (1, 1, 1, [(1, (-9223372036854775808), 9223372036854775807)])]
theorem wbX0 : (wsX00.all (fun w => decide (w ∈ lw_tbl) && goodWord w)) = true := by decide +kernel
theorem wiX0 : ∀ w ∈ wsX00, w ∈ gT := fun w h => by
  have h1 := List.all_eq_true.mp wbX0 w h
  simp only [Bool.and_eq_true, decide_eq_true_eq] at h1
  exact gT_in h1.1 h1.2
theorem wbX1 : (wsX10.all (fun w => decide (w ∈ lw_tbl) && goodWord w)) = true := by decide +kernel
theorem wiX1 : ∀ w ∈ wsX10, w ∈ gT := fun w h => by
  have h1 := List.all_eq_true.mp wbX1 w h
  simp only [Bool.and_eq_true, decide_eq_true_eq] at h1
  exact gT_in h1.1 h1.2
theorem wbX3 : (wsX30.all (fun w => decide (w ∈ lw_tbl) && goodWord w)) = true := by decide +kernel
theorem wiX3 : ∀ w ∈ wsX30, w ∈ gT := fun w h => by
  have h1 := List.all_eq_true.mp wbX3 w h
  simp only [Bool.and_eq_true, decide_eq_true_eq] at h1
  exact gT_in h1.1 h1.2
theorem wbX4 : (wsX40.all (fun w => decide (w ∈ lw_tbl) && goodWord w)) = true := by decide +kernel
theorem wiX4 : ∀ w ∈ wsX40, w ∈ gT := fun w h => by
  have h1 := List.all_eq_true.mp wbX4 w h
  simp only [Bool.and_eq_true, decide_eq_true_eq] at h1
  exact gT_in h1.1 h1.2
theorem wbX5 : (wsX50.all (fun w => decide (w ∈ lw_tbl) && goodWord w)) = true := by decide +kernel
theorem wiX5 : ∀ w ∈ wsX50, w ∈ gT := fun w h => by
  have h1 := List.all_eq_true.mp wbX5 w h
  simp only [Bool.and_eq_true, decide_eq_true_eq] at h1
  exact gT_in h1.1 h1.2
theorem wbX6 : (wsX60.all (fun w => decide (w ∈ lw_tbl) && goodWord w)) = true := by decide +kernel
theorem wiX6 : ∀ w ∈ wsX60, w ∈ gT := fun w h => by
  have h1 := List.all_eq_true.mp wbX6 w h
  simp only [Bool.and_eq_true, decide_eq_true_eq] at h1
  exact gT_in h1.1 h1.2
theorem wbX7 : (wsX70.all (fun w => decide (w ∈ lw_tbl) && goodWord w)) = true := by decide +kernel
theorem wiX7 : ∀ w ∈ wsX70, w ∈ gT := fun w h => by
  have h1 := List.all_eq_true.mp wbX7 w h
  simp only [Bool.and_eq_true, decide_eq_true_eq] at h1
  exact gT_in h1.1 h1.2
theorem wbX8 : (wsX80.all (fun w => decide (w ∈ lw_tbl) && goodWord w)) = true := by decide +kernel
theorem wiX8 : ∀ w ∈ wsX80, w ∈ gT := fun w h => by
  have h1 := List.all_eq_true.mp wbX8 w h
  simp only [Bool.and_eq_true, decide_eq_true_eq] at h1
  exact gT_in h1.1 h1.2
theorem wbX9 : (wsX90.all (fun w => decide (w ∈ lw_tbl) && goodWord w)) = true := by decide +kernel
theorem wiX9 : ∀ w ∈ wsX90, w ∈ gT := fun w h => by
  have h1 := List.all_eq_true.mp wbX9 w h
  simp only [Bool.and_eq_true, decide_eq_true_eq] at h1
  exact gT_in h1.1 h1.2
theorem wbX10 : (wsX100.all (fun w => decide (w ∈ lw_tbl) && goodWord w)) = true := by decide +kernel
theorem wiX10 : ∀ w ∈ wsX100, w ∈ gT := fun w h => by
  have h1 := List.all_eq_true.mp wbX10 w h
  simp only [Bool.and_eq_true, decide_eq_true_eq] at h1
  exact gT_in h1.1 h1.2
theorem wbX11 : (wsX110.all (fun w => decide (w ∈ lw_tbl) && goodWord w)) = true := by decide +kernel
theorem wiX11 : ∀ w ∈ wsX110, w ∈ gT := fun w h => by
  have h1 := List.all_eq_true.mp wbX11 w h
  simp only [Bool.and_eq_true, decide_eq_true_eq] at h1
  exact gT_in h1.1 h1.2
theorem wbX12 : (wsX120.all (fun w => decide (w ∈ lw_tbl) && goodWord w)) = true := by decide +kernel
theorem wiX12 : ∀ w ∈ wsX120, w ∈ gT := fun w h => by
  have h1 := List.all_eq_true.mp wbX12 w h
  simp only [Bool.and_eq_true, decide_eq_true_eq] at h1
  exact gT_in h1.1 h1.2
theorem zD_all {s : State} {args : Array Value} {D : va_G} {tys : List (ClassId × FieldType)} (hts : ∀ w ∈ gT, w.before args s = true) (hK : va_K D vwCl tys s) : zD_ok D RTg := by
  intro r ci n fs hr j k hj hk he
  by_cases hjk : j = k
  · exact hjk
  · exfalso
    match r, hr with
    | 0, hr =>
      cases (show some ((0, 0, 0, fsX0) : zr_R) = some (0, ci, n, fs) from hr)
      exact va_apart (own := RX0) (C := RX0) (T := TX0) (N := 5) (ci := 0) hts wiX0 tyX0 tyX0_ok nmX0 hK rfl j k hj hk hjk he
    | 1, hr =>
      cases (show some ((0, 1, 0, fsX1) : zr_R) = some (0, ci, n, fs) from hr)
      exact va_apart (own := RX1) (C := RX1) (T := TX1) (N := 10) (ci := 1) hts wiX1 tyX1 tyX1_ok nmX1 hK rfl j k hj hk hjk he
    | 2, hr =>
      cases (show some ((0, 2, 0, fsX3) : zr_R) = some (0, ci, n, fs) from hr)
      exact va_apart (own := RX3) (C := RX3) (T := TX3) (N := 5) (ci := 2) hts wiX3 tyX3 tyX3_ok nmX3 hK rfl j k hj hk hjk he
    | 3, hr =>
      cases (show some ((0, 3, 0, fsX4) : zr_R) = some (0, ci, n, fs) from hr)
      exact va_apart (own := RX4) (C := RX4) (T := TX4) (N := 6) (ci := 3) hts wiX4 tyX4 tyX4_ok nmX4 hK rfl j k hj hk hjk he
    | 4, hr =>
      cases (show some ((0, 4, 0, fsX5) : zr_R) = some (0, ci, n, fs) from hr)
      exact va_apart (own := RX5) (C := RX5) (T := TX5) (N := 2) (ci := 4) hts wiX5 tyX5 tyX5_ok nmX5 hK rfl j k hj hk hjk he
    | 5, hr =>
      cases (show some ((0, 5, 0, fsX6) : zr_R) = some (0, ci, n, fs) from hr)
      exact va_apart (own := RX6) (C := RX6) (T := TX6) (N := 11) (ci := 5) hts wiX6 tyX6 tyX6_ok nmX6 hK rfl j k hj hk hjk he
    | 6, hr =>
      cases (show some ((0, 6, 0, fsX7) : zr_R) = some (0, ci, n, fs) from hr)
      exact va_apart (own := RX7) (C := RX7) (T := TX7) (N := 5) (ci := 6) hts wiX7 tyX7 tyX7_ok nmX7 hK rfl j k hj hk hjk he
    | 7, hr =>
      cases (show some ((0, 7, 0, fsX8) : zr_R) = some (0, ci, n, fs) from hr)
      exact va_apart (own := RX8) (C := RX8) (T := TX8) (N := 14) (ci := 7) hts wiX8 tyX8 tyX8_ok nmX8 hK rfl j k hj hk hjk he
    | 8, hr =>
      cases (show some ((0, 8, 0, fsX9) : zr_R) = some (0, ci, n, fs) from hr)
      exact va_apart (own := RX9) (C := RX9) (T := TX9) (N := 2) (ci := 8) hts wiX9 tyX9 tyX9_ok nmX9 hK rfl j k hj hk hjk he
    | 9, hr =>
      cases (show some ((0, 9, 0, fsX10) : zr_R) = some (0, ci, n, fs) from hr)
      exact va_apart (own := RX10) (C := RX10) (T := TX10) (N := 6) (ci := 9) hts wiX10 tyX10 tyX10_ok nmX10 hK rfl j k hj hk hjk he
    | 10, hr =>
      cases (show some ((0, 10, 0, fsX11) : zr_R) = some (0, ci, n, fs) from hr)
      exact va_apart (own := RX11) (C := RX11) (T := TX11) (N := 9) (ci := 10) hts wiX11 tyX11 tyX11_ok nmX11 hK rfl j k hj hk hjk he
    | 11, hr =>
      cases (show some ((0, 11, 0, fsX12) : zr_R) = some (0, ci, n, fs) from hr)
      exact va_apart (own := RX12) (C := RX12) (T := TX12) (N := 41) (ci := 11) hts wiX12 tyX12 tyX12_ok nmX12 hK rfl j k hj hk hjk he
    | 12, hr => cases (show some ((1, 2, 120, [(0, (-128), 127)]) : zr_R) = some (0, ci, n, fs) from hr)
    | 13, hr => cases (show some ((1, 1, 40, [(1, (-9223372036854775808), 9223372036854775807)]) : zr_R) = some (0, ci, n, fs) from hr)
    | 14, hr => cases (show some ((1, 1, 60, [(1, (-9223372036854775808), 9223372036854775807)]) : zr_R) = some (0, ci, n, fs) from hr)
    | 15, hr => cases (show some ((1, 0, 60, [(0, (-2147483648), 2147483647)]) : zr_R) = some (0, ci, n, fs) from hr)
    | 16, hr => cases (show some ((1, 2, 120, [(0, (-128), 127)]) : zr_R) = some (0, ci, n, fs) from hr)
    | 17, hr => cases (show some ((1, 1, 39, [(1, (-9223372036854775808), 9223372036854775807)]) : zr_R) = some (0, ci, n, fs) from hr)
    | 18, hr => cases (show some ((1, 1, 39, [(1, (-9223372036854775808), 9223372036854775807)]) : zr_R) = some (0, ci, n, fs) from hr)
    | 19, hr => cases (show some ((1, 1, 63, [(1, (-9223372036854775808), 9223372036854775807)]) : zr_R) = some (0, ci, n, fs) from hr)
    | 20, hr => cases (show some ((1, 4, 8, [(23, 0, 0)]) : zr_R) = some (0, ci, n, fs) from hr)
    | 21, hr => cases (show some ((1, 1, 40, [(1, (-9223372036854775808), 9223372036854775807)]) : zr_R) = some (0, ci, n, fs) from hr)
    | 22, hr => cases (show some ((1, 0, 8, [(0, (-1439), 1439)]) : zr_R) = some (0, ci, n, fs) from hr)
    | 23, hr => cases (show some ((1, 0, 8, [(0, 0, 60)]) : zr_R) = some (0, ci, n, fs) from hr)
    | 24, hr => cases (show some ((1, 1, 480, [(1, (-100000000000000), 100000000000000)]) : zr_R) = some (0, ci, n, fs) from hr)
    | 25, hr => cases (show some ((1, 0, 480, [(0, (-1439), 1439)]) : zr_R) = some (0, ci, n, fs) from hr)
    | 26, hr => cases (show some ((1, 0, 8, [(0, 0, 2)]) : zr_R) = some (0, ci, n, fs) from hr)
    | 27, hr => cases (show some ((1, 0, 8, [(0, (-1000000), 1000000)]) : zr_R) = some (0, ci, n, fs) from hr)
    | 28, hr => cases (show some ((1, 0, 8, [(0, (-1000000), 1000000)]) : zr_R) = some (0, ci, n, fs) from hr)
    | 29, hr => cases (show some ((1, 0, 80, [(0, (-1000000), 1000000)]) : zr_R) = some (0, ci, n, fs) from hr)
    | 30, hr => cases (show some ((1, 2, 120, [(0, (-128), 127)]) : zr_R) = some (0, ci, n, fs) from hr)
    | 31, hr => cases (show some ((1, 2, 160, [(0, (-128), 127)]) : zr_R) = some (0, ci, n, fs) from hr)
    | 32, hr => cases (show some ((1, 0, 64, [(0, (-1000000), 1000000)]) : zr_R) = some (0, ci, n, fs) from hr)
    | 33, hr => cases (show some ((1, 1, 64, [(1, (-100000000000000), 100000000000000)]) : zr_R) = some (0, ci, n, fs) from hr)
    | 34, hr => cases (show some ((1, 1, 128, [(1, (-100000000000000), 100000000000000)]) : zr_R) = some (0, ci, n, fs) from hr)
    | 35, hr => cases (show some ((1, 0, 10, [(0, (-1000000), 1000000)]) : zr_R) = some (0, ci, n, fs) from hr)
    | 36, hr => cases (show some ((1, 1, 64, [(1, (-9223372036854775808), 9223372036854775807)]) : zr_R) = some (0, ci, n, fs) from hr)
    | 37, hr => cases (show some ((1, 1, 16, [(1, (-9223372036854775808), 9223372036854775807)]) : zr_R) = some (0, ci, n, fs) from hr)
    | 38, hr => cases (show some ((1, 1, 39, [(1, (-9223372036854775808), 9223372036854775807)]) : zr_R) = some (0, ci, n, fs) from hr)
    | 39, hr => cases (show some ((2, 0, 13, [(0, 0, 365)]) : zr_R) = some (0, ci, n, fs) from hr)
    | 40, hr => cases (show some ((2, 3, 6, [(0, 0, 65535)]) : zr_R) = some (0, ci, n, fs) from hr)
    | 41, hr => cases (show some ((2, 0, 6, [(0, 1, 86400)]) : zr_R) = some (0, ci, n, fs) from hr)
    | 42, hr => cases (show some ((1, 1, 1, [(1, (-9223372036854775808), 9223372036854775807)]) : zr_R) = some (0, ci, n, fs) from hr)
    | r + 43, hr => cases (show (none : Option zr_R) = some (0, ci, n, fs) from hr)
/-- a static that holds an array that is only read -/
def zS1 (ro : Nat → Option Nat) (sz : Nat) (H0 : Heap) (C n d : String) (r : Nat) (s : State) : Prop := ∃ a : Nat, ro a = some r ∧ va_Z C n d (.ref a) (fun q => sz ≤ q) s H0
def zK0 (D : va_G) (cA : Nat → ClassId) : State → Prop := fun s => va_K D vwCl [(cA 0, .int), (cA 1, .long), (cA 2, .byte), (cA 3, .char), (cA 4, .object "MomentTexts$Zone")] s
def zAx (cA : Nat → ClassId) (s : State) : Prop := ∀ ti u : Nat, ti < 5 → u < 3 → ArrOfT s (cA (ti + 10 * u)) (zk_ty "MomentTexts$Zone" ti)
def zKn (D : va_G) (cA : Nat → ClassId) (ro : Nat → Option Nat) (sz : Nat) (H0 : Heap) : State → Prop := fun s => zK0 D cA s ∧ zS1 ro sz H0 "MomentTexts$Days" "BEFORE_MONTH" "[I" 39 s ∧ zS1 ro sz H0 "MomentTexts$DurationText" "LETTERS" "[C" 40 s ∧ zS1 ro sz H0 "MomentTexts$DurationText" "UNITS" "[I" 41 s ∧ zAx cA s
theorem zS1.mv {ro : Nat → Option Nat} {sz : Nat} {H0 : Heap} {C n d : String} {r : Nat} {u U : State} (h : u.vm.Alike U.vm) (k : zS1 ro sz H0 C n d r u) : zS1 ro sz H0 C n d r U := by
  obtain ⟨a, h1, h2⟩ := k
  exact ⟨a, h1, va_Z.moved h h2⟩
theorem zKb {D : va_G} {cA : Nat → ClassId} {ro : Nat → Option Nat} {sz : Nat} {H0 : Heap} : zy_Kb (zKn D cA ro sz H0) := fun _ _ h k => ⟨va_K.moved h k.1, k.2.1.mv h, k.2.2.1.mv h, k.2.2.2.1.mv h, fun ti u h1 h2 => arrOfT_moved h (k.2.2.2.2 ti u h1 h2)⟩
theorem zgs_row {p : Program} {l : Launch} {e : Env} {R : Room} {s : State} {m : MethodId} {args : Array Value} {below : List Frame} {meth : Method} {c : Code} {cells slots : Nat} {Q : State → Prop} {cc : ByteArray} {D : va_G} {cA : Nat → ClassId} {RT : List zr_R} {ro : Nat → Option Nat} {sz : Nat} {H0 : Heap} {C n d own : String} {r idx : Nat} (hx : p.tables.exec = Jvm.exec) (hb : c.code = cc) (hown : s.vm.findClass own = some m.cls) (h : zS1 ro sz H0 C n d r s) (hl : (Cond.fieldLink own idx C n d).before args s = true) :
    ∀ pc, decode cc pc = .ok (.getstatic idx, 3) → ∀ H locs ls st, zh_ok D cA RT ro sz H0 H locs → ∃ x, zt_ok ro x (4 + 2 * r, 0, 0) ∧ (W p l e R s m args below meth c H locs cells slots Q (F0 m (pc + 3) ls (x :: st)) → W p l e R s m args below meth c H locs cells slots Q (F0 m pc ls st)) := by
  intro pc hd H locs ls st hh
  obtain ⟨a, ha, cf, kf, fi, f, a0, cell, h1, h2, h3, h4, h5, h6, h7, h8⟩ := h
  refine ⟨.ref a, ?_, fun k => W.gets hx hb hown hl h1 h2 h3 h4 (by rw [hh.2.1 a0 (Nat.not_le.mp h8)]; exact h5) (fun q => by rw [q] at h6; cases h6) h7 rfl hd k⟩
  rw [show 4 + 2 * r = 2 * r + 4 by omega]
  exact Or.inr ⟨a, rfl, by rw [show 2 * r / 2 = r by omega]; exact ha⟩
theorem zgs_c {P : Nat → zt_T → Prop} {a : Nat} {b : zt_T} {L : List (Nat × zt_T)} (h : P a b) (t : ∀ i k, (i, k) ∈ L → P i k) : ∀ i k, (i, k) ∈ (a, b) :: L → P i k := fun i k hm => (List.mem_cons.mp hm).elim (fun g => by cases g; exact h) (t i k)
theorem zgs_n {P : Nat → zt_T → Prop} : ∀ i k, (i, k) ∈ ([] : List (Nat × zt_T)) → P i k := fun _ _ h => nomatch h
theorem zAr {D : va_G} {cA : Nat → ClassId} {s : State} (h : zK0 D cA s) : ∀ ti, ti < 5 → ArrOfT s (cA ti) (zk_ty "MomentTexts$Zone" ti) := by
  intro ti hti
  match ti, hti with
  | 0, _ => exact (h.2 0 _ rfl).1
  | 1, _ => exact (h.2 1 _ rfl).1
  | 2, _ => exact (h.2 2 _ rfl).1
  | 3, _ => exact (h.2 3 _ rfl).1
  | 4, _ => exact (h.2 4 _ rfl).1
theorem zArN {D : va_G} {cA : Nat → ClassId} {ro : Nat → Option Nat} {sz : Nat} {H0 : Heap} {s : State} (h : zKn D cA ro sz H0 s) : ∀ ti, ti < 5 → zAQ s cA ti (zk_ty "MomentTexts$Zone" ti) := fun ti hti => ⟨zAr h.1 ti hti, fun u hu => h.2.2.2.2 ti u hti hu⟩
theorem zCX0 {D : va_G} {cA : Nat → ClassId} {s : State} (h : zK0 D cA s) : s.vm.findClass RX0 = some (D.1 0) := (h.1 0 _ rfl).2.1
theorem zCX1 {D : va_G} {cA : Nat → ClassId} {s : State} (h : zK0 D cA s) : s.vm.findClass RX1 = some (D.1 1) := (h.1 1 _ rfl).2.1
theorem zCX3 {D : va_G} {cA : Nat → ClassId} {s : State} (h : zK0 D cA s) : s.vm.findClass RX3 = some (D.1 2) := (h.1 2 _ rfl).2.1
theorem zCX4 {D : va_G} {cA : Nat → ClassId} {s : State} (h : zK0 D cA s) : s.vm.findClass RX4 = some (D.1 3) := (h.1 3 _ rfl).2.1
theorem zCX5 {D : va_G} {cA : Nat → ClassId} {s : State} (h : zK0 D cA s) : s.vm.findClass RX5 = some (D.1 4) := (h.1 4 _ rfl).2.1
theorem zCX6 {D : va_G} {cA : Nat → ClassId} {s : State} (h : zK0 D cA s) : s.vm.findClass RX6 = some (D.1 5) := (h.1 5 _ rfl).2.1
theorem zCX7 {D : va_G} {cA : Nat → ClassId} {s : State} (h : zK0 D cA s) : s.vm.findClass RX7 = some (D.1 6) := (h.1 6 _ rfl).2.1
theorem zCX8 {D : va_G} {cA : Nat → ClassId} {s : State} (h : zK0 D cA s) : s.vm.findClass RX8 = some (D.1 7) := (h.1 7 _ rfl).2.1
theorem zCX9 {D : va_G} {cA : Nat → ClassId} {s : State} (h : zK0 D cA s) : s.vm.findClass RX9 = some (D.1 8) := (h.1 8 _ rfl).2.1
theorem zCX10 {D : va_G} {cA : Nat → ClassId} {s : State} (h : zK0 D cA s) : s.vm.findClass RX10 = some (D.1 9) := (h.1 9 _ rfl).2.1
theorem zCX11 {D : va_G} {cA : Nat → ClassId} {s : State} (h : zK0 D cA s) : s.vm.findClass RX11 = some (D.1 10) := (h.1 10 _ rfl).2.1
theorem zCX12 {D : va_G} {cA : Nat → ClassId} {s : State} (h : zK0 D cA s) : s.vm.findClass RX12 = some (D.1 11) := (h.1 11 _ rfl).2.1
theorem zct_c {P : Nat → zc_C → Prop} {a : Nat} {b : zc_C} {L : List (Nat × zc_C)} (h : P a b) (t : ∀ i k, (i, k) ∈ L → P i k) : ∀ i k, (i, k) ∈ (a, b) :: L → P i k := fun i k hm => (List.mem_cons.mp hm).elim (fun g => by cases g; exact h) (t i k)
theorem zct_n {P : Nat → zc_C → Prop} : ∀ i k, (i, k) ∈ ([] : List (Nat × zc_C)) → P i k := fun _ _ h => nomatch h
theorem zci_c {P : Nat → Int → Prop} {a : Nat} {b : Int} {L : List (Nat × Int)} (h : P a b) (t : ∀ i k, (i, k) ∈ L → P i k) : ∀ i k, (i, k) ∈ (a, b) :: L → P i k := fun i k hm => (List.mem_cons.mp hm).elim (fun g => by cases g; exact h) (t i k)
theorem zci_n {P : Nat → Int → Prop} : ∀ i k, (i, k) ∈ ([] : List (Nat × Int)) → P i k := fun _ _ h => nomatch h
theorem zgf_c {P : Nat × Nat × Nat → Prop} {a : Nat × Nat × Nat} {L : List (Nat × Nat × Nat)} (h : P a) (t : ∀ x ∈ L, P x) : ∀ x ∈ a :: L, P x := fun x hm => (List.mem_cons.mp hm).elim (fun g => by rw [g]; exact h) (t x)
