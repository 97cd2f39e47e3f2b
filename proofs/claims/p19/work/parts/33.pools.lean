/-! MomentTexts$Days: its pool -/
def gfX2 : List (Nat × Nat × Nat) := []
theorem gfX2_ok : ∀ x ∈ gfX2, zf_w vwCl RTg RX2 x := fun _ h => nomatch h
def ciX2 : List (Nat × Int) := [(19, (-999999)), (20, 999999)]
theorem ciX2_ok : ∀ (i : Nat) (n : Int), (i, n) ∈ ciX2 → ∃ x : Int32, Cond.constant RX2 i x ∈ gT ∧ x.toInt = n := 
  zci_c ⟨(-999999), tb_2 111 rfl rfl, by decide +kernel⟩ (
  zci_c ⟨999999, tb_2 112 rfl rfl, by decide +kernel⟩ (zci_n))
def clX2 : List (Nat × Int) := [(11, (-365961662)), (13, 364522971), (15, (-526984793280)), (17, 524913079679), (29, 2000000), (31, 365), (33, 3), (35, 4), (37, 99), (39, 100), (41, 399), (43, 400), (45, 731204528), (47, 146097), (68, (-9223372036854775808)), (73, 12), (81, (-999999)), (83, 999999), (98, 1440), (104, 5118431696), (106, 7)]
theorem clX2_ok : ∀ (i : Nat) (n : Int), (i, n) ∈ clX2 → ∃ x : Int64, Cond.constantLong RX2 i x ∈ gT ∧ x.toInt = n := 
  zci_c ⟨(-365961662), tb_2 213 rfl rfl, by decide +kernel⟩ (
  zci_c ⟨364522971, tb_2 214 rfl rfl, by decide +kernel⟩ (
  zci_c ⟨(-526984793280), tb_3 109 rfl rfl, by decide +kernel⟩ (
  zci_c ⟨524913079679, tb_3 110 rfl rfl, by decide +kernel⟩ (
  zci_c ⟨2000000, tb_2 194 rfl rfl, by decide +kernel⟩ (
  zci_c ⟨365, tb_2 195 rfl rfl, by decide +kernel⟩ (
  zci_c ⟨3, tb_2 196 rfl rfl, by decide +kernel⟩ (
  zci_c ⟨4, tb_2 197 rfl rfl, by decide +kernel⟩ (
  zci_c ⟨99, tb_2 198 rfl rfl, by decide +kernel⟩ (
  zci_c ⟨100, tb_2 199 rfl rfl, by decide +kernel⟩ (
  zci_c ⟨399, tb_2 200 rfl rfl, by decide +kernel⟩ (
  zci_c ⟨400, tb_2 201 rfl rfl, by decide +kernel⟩ (
  zci_c ⟨731204528, tb_2 202 rfl rfl, by decide +kernel⟩ (
  zci_c ⟨146097, tb_2 219 rfl rfl, by decide +kernel⟩ (
  zci_c ⟨(-9223372036854775808), tb_3 32 rfl rfl, by decide +kernel⟩ (
  zci_c ⟨12, tb_3 36 rfl rfl, by decide +kernel⟩ (
  zci_c ⟨(-999999), tb_3 40 rfl rfl, by decide +kernel⟩ (
  zci_c ⟨999999, tb_3 41 rfl rfl, by decide +kernel⟩ (
  zci_c ⟨1440, tb_6 118 rfl rfl, by decide +kernel⟩ (
  zci_c ⟨5118431696, tb_2 232 rfl rfl, by decide +kernel⟩ (
  zci_c ⟨7, tb_2 233 rfl rfl, by decide +kernel⟩ (zci_n)))))))))))))))))))))
/-! MomentTexts$Cursor: its pool -/
def gfX0 : List (Nat × Nat × Nat) := [(9, 0, 0), (15, 0, 1), (19, 0, 2), (22, 0, 3), (26, 0, 4)]
theorem gfX0_ok : ∀ x ∈ gfX0, zf_w vwCl RTg RX0 x := 
  zgf_c ⟨RX0, TX0, 5, (.array .byte), 0, fsX0, (28, 0, 0), rfl, by decide, tb_1 118 rfl rfl, wiX0, by decide +kernel, rfl, rfl, rfl⟩ (
  zgf_c ⟨RX0, TX0, 5, .int, 0, fsX0, (0, 0, 120), rfl, by decide, tb_1 119 rfl rfl, wiX0, by decide +kernel, rfl, rfl, rfl⟩ (
  zgf_c ⟨RX0, TX0, 5, .int, 0, fsX0, (0, (-2147483648), 2147483647), rfl, by decide, tb_1 121 rfl rfl, wiX0, by decide +kernel, rfl, rfl, rfl⟩ (
  zgf_c ⟨RX0, TX0, 5, .boolean, 0, fsX0, (0, 0, 1), rfl, by decide, tb_1 126 rfl rfl, wiX0, by decide +kernel, rfl, rfl, rfl⟩ (
  zgf_c ⟨RX0, TX0, 5, .int, 0, fsX0, (0, (-2147483648), 2147483647), rfl, by decide, tb_1 127 rfl rfl, wiX0, by decide +kernel, rfl, rfl, rfl⟩ (fun _ h => nomatch h)))))
def ciX0 : List (Nat × Int) := []
theorem ciX0_ok : ∀ (i : Nat) (n : Int), (i, n) ∈ ciX0 → ∃ x : Int32, Cond.constant RX0 i x ∈ gT ∧ x.toInt = n := zci_n
def clX0 : List (Nat × Int) := [(50, (-9223372036854775808))]
theorem clX0_ok : ∀ (i : Nat) (n : Int), (i, n) ∈ clX0 → ∃ x : Int64, Cond.constantLong RX0 i x ∈ gT ∧ x.toInt = n := 
  zci_c ⟨(-9223372036854775808), tb_4 65 rfl rfl, by decide +kernel⟩ (zci_n)
/-! MomentTexts$Leaps: its pool -/
def gfX5 : List (Nat × Nat × Nat) := [(11, 4, 0), (15, 4, 1)]
theorem gfX5_ok : ∀ x ∈ gfX5, zf_w vwCl RTg RX5 x := 
  zgf_c ⟨RX5, TX5, 2, (.array .long), 0, fsX5, (30, 0, 0), rfl, by decide, tb_1 37 rfl rfl, wiX5, by decide +kernel, rfl, rfl, rfl⟩ (
  zgf_c ⟨RX5, TX5, 2, .int, 0, fsX5, (0, 0, 40), rfl, by decide, tb_1 38 rfl rfl, wiX5, by decide +kernel, rfl, rfl, rfl⟩ (fun _ h => nomatch h))
def ciX5 : List (Nat × Int) := []
theorem ciX5_ok : ∀ (i : Nat) (n : Int), (i, n) ∈ ciX5 → ∃ x : Int32, Cond.constant RX5 i x ∈ gT ∧ x.toInt = n := zci_n
def clX5 : List (Nat × Int) := [(19, 86400), (27, (-365961662)), (33, 364522972), (35, 1440), (43, 1439), (49, 60)]
theorem clX5_ok : ∀ (i : Nat) (n : Int), (i, n) ∈ clX5 → ∃ x : Int64, Cond.constantLong RX5 i x ∈ gT ∧ x.toInt = n := 
  zci_c ⟨86400, tb_3 145 rfl rfl, by decide +kernel⟩ (
  zci_c ⟨(-365961662), tb_3 140 rfl rfl, by decide +kernel⟩ (
  zci_c ⟨364522972, tb_3 146 rfl rfl, by decide +kernel⟩ (
  zci_c ⟨1440, tb_3 115 rfl rfl, by decide +kernel⟩ (
  zci_c ⟨1439, tb_3 117 rfl rfl, by decide +kernel⟩ (
  zci_c ⟨60, tb_3 124 rfl rfl, by decide +kernel⟩ (zci_n))))))
/-! MomentTexts$DateText: its pool -/
def gfX1 : List (Nat × Nat × Nat) := [(9, 1, 0), (15, 1, 1), (19, 1, 2), (22, 1, 3), (25, 1, 4), (28, 1, 5), (31, 1, 6), (34, 1, 7), (37, 1, 8), (40, 1, 9), (79, 0, 2)]
theorem gfX1_ok : ∀ x ∈ gfX1, zf_w vwCl RTg RX1 x := 
  zgf_c ⟨RX1, TX1, 10, .int, 0, fsX1, (0, (-2147483648), 2147483647), rfl, by decide, tb_1 167 rfl rfl, wiX1, by decide +kernel, rfl, rfl, rfl⟩ (
  zgf_c ⟨RX1, TX1, 10, .boolean, 0, fsX1, (0, 0, 1), rfl, by decide, tb_1 169 rfl rfl, wiX1, by decide +kernel, rfl, rfl, rfl⟩ (
  zgf_c ⟨RX1, TX1, 10, .int, 0, fsX1, (0, (-2147483648), 2147483647), rfl, by decide, tb_1 171 rfl rfl, wiX1, by decide +kernel, rfl, rfl, rfl⟩ (
  zgf_c ⟨RX1, TX1, 10, .boolean, 0, fsX1, (0, 0, 1), rfl, by decide, tb_1 172 rfl rfl, wiX1, by decide +kernel, rfl, rfl, rfl⟩ (
  zgf_c ⟨RX1, TX1, 10, .boolean, 0, fsX1, (0, 0, 1), rfl, by decide, tb_1 173 rfl rfl, wiX1, by decide +kernel, rfl, rfl, rfl⟩ (
  zgf_c ⟨RX1, TX1, 10, .int, 0, fsX1, (0, (-2147483648), 2147483647), rfl, by decide, tb_1 174 rfl rfl, wiX1, by decide +kernel, rfl, rfl, rfl⟩ (
  zgf_c ⟨RX1, TX1, 10, .int, 0, fsX1, (0, (-2147483648), 2147483647), rfl, by decide, tb_1 175 rfl rfl, wiX1, by decide +kernel, rfl, rfl, rfl⟩ (
  zgf_c ⟨RX1, TX1, 10, .int, 0, fsX1, (0, (-2147483648), 2147483647), rfl, by decide, tb_1 176 rfl rfl, wiX1, by decide +kernel, rfl, rfl, rfl⟩ (
  zgf_c ⟨RX1, TX1, 10, .int, 0, fsX1, (0, (-2147483648), 2147483647), rfl, by decide, tb_1 177 rfl rfl, wiX1, by decide +kernel, rfl, rfl, rfl⟩ (
  zgf_c ⟨RX1, TX1, 10, .int, 0, fsX1, (0, (-2147483648), 2147483647), rfl, by decide, tb_1 178 rfl rfl, wiX1, by decide +kernel, rfl, rfl, rfl⟩ (
  zgf_c ⟨RX0, TX0, 5, .int, 0, fsX0, (0, (-2147483648), 2147483647), rfl, by decide, tb_1 125 rfl rfl, wiX0, by decide +kernel, rfl, rfl, rfl⟩ (fun _ h => nomatch h)))))))))))
def ciX1 : List (Nat × Int) := []
theorem ciX1_ok : ∀ (i : Nat) (n : Int), (i, n) ∈ ciX1 → ∃ x : Int32, Cond.constant RX1 i x ∈ gT ∧ x.toInt = n := zci_n
def clX1 : List (Nat × Int) := [(88, (-9223372036854775808))]
theorem clX1_ok : ∀ (i : Nat) (n : Int), (i, n) ∈ clX1 → ∃ x : Int64, Cond.constantLong RX1 i x ∈ gT ∧ x.toInt = n := 
  zci_c ⟨(-9223372036854775808), tb_5 33 rfl rfl, by decide +kernel⟩ (zci_n)
/-! MomentTexts$DurationText: its pool -/
def gfX3 : List (Nat × Nat × Nat) := [(9, 2, 0), (15, 2, 1), (18, 2, 2), (21, 2, 3), (24, 2, 4), (57, 0, 2)]
theorem gfX3_ok : ∀ x ∈ gfX3, zf_w vwCl RTg RX3 x := 
  zgf_c ⟨RX3, TX3, 5, .long, 0, fsX3, (1, (-9223372036854775808), 9223372036854775807), rfl, by decide, tb_2 16 rfl rfl, wiX3, by decide +kernel, rfl, rfl, rfl⟩ (
  zgf_c ⟨RX3, TX3, 5, .long, 0, fsX3, (1, (-9223372036854775808), 9223372036854775807), rfl, by decide, tb_2 18 rfl rfl, wiX3, by decide +kernel, rfl, rfl, rfl⟩ (
  zgf_c ⟨RX3, TX3, 5, .long, 0, fsX3, (1, (-9223372036854775808), 9223372036854775807), rfl, by decide, tb_2 20 rfl rfl, wiX3, by decide +kernel, rfl, rfl, rfl⟩ (
  zgf_c ⟨RX3, TX3, 5, .long, 0, fsX3, (1, (-9223372036854775808), 9223372036854775807), rfl, by decide, tb_2 22 rfl rfl, wiX3, by decide +kernel, rfl, rfl, rfl⟩ (
  zgf_c ⟨RX3, TX3, 5, .boolean, 0, fsX3, (0, 0, 1), rfl, by decide, tb_2 24 rfl rfl, wiX3, by decide +kernel, rfl, rfl, rfl⟩ (
  zgf_c ⟨RX0, TX0, 5, .int, 0, fsX0, (0, (-2147483648), 2147483647), rfl, by decide, tb_1 123 rfl rfl, wiX0, by decide +kernel, rfl, rfl, rfl⟩ (fun _ h => nomatch h))))))
def ciX3 : List (Nat × Int) := []
theorem ciX3_ok : ∀ (i : Nat) (n : Int), (i, n) ∈ ciX3 → ∃ x : Int32, Cond.constant RX3 i x ∈ gT ∧ x.toInt = n := zci_n
def clX3 : List (Nat × Int) := [(65, 7), (79, 1000000000)]
theorem clX3_ok : ∀ (i : Nat) (n : Int), (i, n) ∈ clX3 → ∃ x : Int64, Cond.constantLong RX3 i x ∈ gT ∧ x.toInt = n := 
  zci_c ⟨7, tb_5 160 rfl rfl, by decide +kernel⟩ (
  zci_c ⟨1000000000, tb_5 168 rfl rfl, by decide +kernel⟩ (zci_n))
/-! MomentTexts$RuleDate: its pool -/
def gfX7 : List (Nat × Nat × Nat) := [(9, 6, 0), (15, 6, 1), (18, 6, 2), (21, 6, 3), (24, 6, 4)]
theorem gfX7_ok : ∀ x ∈ gfX7, zf_w vwCl RTg RX7 x := 
  zgf_c ⟨RX7, TX7, 5, .int, 0, fsX7, (0, (-2147483648), 2147483647), rfl, by decide, tb_1 59 rfl rfl, wiX7, by decide +kernel, rfl, rfl, rfl⟩ (
  zgf_c ⟨RX7, TX7, 5, .int, 0, fsX7, (0, (-2147483648), 2147483647), rfl, by decide, tb_1 60 rfl rfl, wiX7, by decide +kernel, rfl, rfl, rfl⟩ (
  zgf_c ⟨RX7, TX7, 5, .int, 0, fsX7, (0, (-2147483648), 2147483647), rfl, by decide, tb_1 61 rfl rfl, wiX7, by decide +kernel, rfl, rfl, rfl⟩ (
  zgf_c ⟨RX7, TX7, 5, .int, 0, fsX7, (0, (-2147483648), 2147483647), rfl, by decide, tb_1 62 rfl rfl, wiX7, by decide +kernel, rfl, rfl, rfl⟩ (
  zgf_c ⟨RX7, TX7, 5, .int, 0, fsX7, (0, (-2147483648), 2147483647), rfl, by decide, tb_1 63 rfl rfl, wiX7, by decide +kernel, rfl, rfl, rfl⟩ (fun _ h => nomatch h)))))
def ciX7 : List (Nat × Int) := []
theorem ciX7_ok : ∀ (i : Nat) (n : Int), (i, n) ∈ ciX7 → ∃ x : Int32, Cond.constant RX7 i x ∈ gT ∧ x.toInt = n := zci_n
def clX7 : List (Nat × Int) := [(51, 5118431696), (53, 4), (55, 7), (57, 1440)]
theorem clX7_ok : ∀ (i : Nat) (n : Int), (i, n) ∈ clX7 → ∃ x : Int64, Cond.constantLong RX7 i x ∈ gT ∧ x.toInt = n := 
  zci_c ⟨5118431696, tb_4 137 rfl rfl, by decide +kernel⟩ (
  zci_c ⟨4, tb_4 138 rfl rfl, by decide +kernel⟩ (
  zci_c ⟨7, tb_4 139 rfl rfl, by decide +kernel⟩ (
  zci_c ⟨1440, tb_4 140 rfl rfl, by decide +kernel⟩ (zci_n))))
/-! MomentTexts$TimeText: its pool -/
def gfX8 : List (Nat × Nat × Nat) := [(9, 7, 0), (15, 7, 1), (18, 7, 2), (21, 7, 3), (24, 7, 4), (27, 7, 5), (30, 7, 6), (33, 7, 7), (36, 7, 8), (39, 7, 9), (43, 7, 10), (46, 7, 11), (49, 7, 12), (52, 7, 13), (55, 0, 2)]
theorem gfX8_ok : ∀ x ∈ gfX8, zf_w vwCl RTg RX8 x := 
  zgf_c ⟨RX8, TX8, 14, .int, 0, fsX8, (0, (-2147483648), 2147483647), rfl, by decide, tb_1 206 rfl rfl, wiX8, by decide +kernel, rfl, rfl, rfl⟩ (
  zgf_c ⟨RX8, TX8, 14, .int, 0, fsX8, (0, (-2147483648), 2147483647), rfl, by decide, tb_1 207 rfl rfl, wiX8, by decide +kernel, rfl, rfl, rfl⟩ (
  zgf_c ⟨RX8, TX8, 14, .int, 0, fsX8, (0, (-2147483648), 2147483647), rfl, by decide, tb_1 208 rfl rfl, wiX8, by decide +kernel, rfl, rfl, rfl⟩ (
  zgf_c ⟨RX8, TX8, 14, .int, 0, fsX8, (0, (-2147483648), 2147483647), rfl, by decide, tb_1 209 rfl rfl, wiX8, by decide +kernel, rfl, rfl, rfl⟩ (
  zgf_c ⟨RX8, TX8, 14, .int, 0, fsX8, (0, (-2147483648), 2147483647), rfl, by decide, tb_1 210 rfl rfl, wiX8, by decide +kernel, rfl, rfl, rfl⟩ (
  zgf_c ⟨RX8, TX8, 14, .int, 0, fsX8, (0, (-2147483648), 2147483647), rfl, by decide, tb_1 211 rfl rfl, wiX8, by decide +kernel, rfl, rfl, rfl⟩ (
  zgf_c ⟨RX8, TX8, 14, .int, 0, fsX8, (0, (-2147483648), 2147483647), rfl, by decide, tb_1 212 rfl rfl, wiX8, by decide +kernel, rfl, rfl, rfl⟩ (
  zgf_c ⟨RX8, TX8, 14, .int, 0, fsX8, (0, (-2147483648), 2147483647), rfl, by decide, tb_1 213 rfl rfl, wiX8, by decide +kernel, rfl, rfl, rfl⟩ (
  zgf_c ⟨RX8, TX8, 14, .int, 0, fsX8, (0, (-2147483648), 2147483647), rfl, by decide, tb_1 214 rfl rfl, wiX8, by decide +kernel, rfl, rfl, rfl⟩ (
  zgf_c ⟨RX8, TX8, 14, .boolean, 0, fsX8, (0, 0, 1), rfl, by decide, tb_1 216 rfl rfl, wiX8, by decide +kernel, rfl, rfl, rfl⟩ (
  zgf_c ⟨RX8, TX8, 14, .int, 0, fsX8, (0, (-2147483648), 2147483647), rfl, by decide, tb_1 217 rfl rfl, wiX8, by decide +kernel, rfl, rfl, rfl⟩ (
  zgf_c ⟨RX8, TX8, 14, .int, 0, fsX8, (0, (-2147483648), 2147483647), rfl, by decide, tb_1 218 rfl rfl, wiX8, by decide +kernel, rfl, rfl, rfl⟩ (
  zgf_c ⟨RX8, TX8, 14, .int, 0, fsX8, (0, (-2147483648), 2147483647), rfl, by decide, tb_1 219 rfl rfl, wiX8, by decide +kernel, rfl, rfl, rfl⟩ (
  zgf_c ⟨RX8, TX8, 14, .int, 0, fsX8, (0, (-2147483648), 2147483647), rfl, by decide, tb_1 220 rfl rfl, wiX8, by decide +kernel, rfl, rfl, rfl⟩ (
  zgf_c ⟨RX0, TX0, 5, .int, 0, fsX0, (0, (-2147483648), 2147483647), rfl, by decide, tb_1 122 rfl rfl, wiX0, by decide +kernel, rfl, rfl, rfl⟩ (fun _ h => nomatch h)))))))))))))))
def ciX8 : List (Nat × Int) := []
theorem ciX8_ok : ∀ (i : Nat) (n : Int), (i, n) ∈ ciX8 → ∃ x : Int32, Cond.constant RX8 i x ∈ gT ∧ x.toInt = n := zci_n
def clX8 : List (Nat × Int) := [(107, (-9223372036854775808)), (109, 1440), (119, 364522971), (129, 1000000000), (131, 60)]
theorem clX8_ok : ∀ (i : Nat) (n : Int), (i, n) ∈ clX8 → ∃ x : Int64, Cond.constantLong RX8 i x ∈ gT ∧ x.toInt = n := 
  zci_c ⟨(-9223372036854775808), tb_5 60 rfl rfl, by decide +kernel⟩ (
  zci_c ⟨1440, tb_5 61 rfl rfl, by decide +kernel⟩ (
  zci_c ⟨364522971, tb_5 67 rfl rfl, by decide +kernel⟩ (
  zci_c ⟨1000000000, tb_5 77 rfl rfl, by decide +kernel⟩ (
  zci_c ⟨60, tb_5 78 rfl rfl, by decide +kernel⟩ (zci_n)))))
/-! MomentTexts$Writer: its pool -/
def gfX9 : List (Nat × Nat × Nat) := [(9, 8, 0), (15, 8, 1)]
theorem gfX9_ok : ∀ x ∈ gfX9, zf_w vwCl RTg RX9 x := 
  zgf_c ⟨RX9, TX9, 2, (.array .byte), 0, fsX9, (36, 0, 0), rfl, by decide, tb_1 146 rfl rfl, wiX9, by decide +kernel, rfl, rfl, rfl⟩ (
  zgf_c ⟨RX9, TX9, 2, .int, 0, fsX9, (0, 0, 120), rfl, by decide, tb_1 148 rfl rfl, wiX9, by decide +kernel, rfl, rfl, rfl⟩ (fun _ h => nomatch h))
def ciX9 : List (Nat × Int) := []
theorem ciX9_ok : ∀ (i : Nat) (n : Int), (i, n) ∈ ciX9 → ∃ x : Int32, Cond.constant RX9 i x ∈ gT ∧ x.toInt = n := zci_n
def clX9 : List (Nat × Int) := [(23, 48), (25, 10)]
theorem clX9_ok : ∀ (i : Nat) (n : Int), (i, n) ∈ clX9 → ∃ x : Int64, Cond.constantLong RX9 i x ∈ gT ∧ x.toInt = n := 
  zci_c ⟨48, tb_5 222 rfl rfl, by decide +kernel⟩ (
  zci_c ⟨10, tb_5 223 rfl rfl, by decide +kernel⟩ (zci_n))
/-! MomentTexts$Rule: its pool -/
def gfX6 : List (Nat × Nat × Nat) := [(9, 5, 0), (15, 5, 1), (18, 5, 2), (24, 5, 3), (28, 5, 4), (31, 5, 5), (35, 5, 6), (38, 5, 7), (42, 5, 8), (45, 5, 9), (48, 5, 10), (68, 0, 2)]
theorem gfX6_ok : ∀ x ∈ gfX6, zf_w vwCl RTg RX6 x := 
  zgf_c ⟨RX6, TX6, 11, .int, 0, fsX6, (0, (-2147483648), 2147483647), rfl, by decide, tb_1 75 rfl rfl, wiX6, by decide +kernel, rfl, rfl, rfl⟩ (
  zgf_c ⟨RX6, TX6, 11, .int, 0, fsX6, (0, (-2147483648), 2147483647), rfl, by decide, tb_1 77 rfl rfl, wiX6, by decide +kernel, rfl, rfl, rfl⟩ (
  zgf_c ⟨RX6, TX6, 11, .int, 0, fsX6, (0, (-2147483648), 2147483647), rfl, by decide, tb_1 79 rfl rfl, wiX6, by decide +kernel, rfl, rfl, rfl⟩ (
  zgf_c ⟨RX6, TX6, 11, (.object "MomentTexts$RuleDate"), 0, fsX6, (16, 0, 0), rfl, by decide, tb_1 81 rfl rfl, wiX6, by decide +kernel, rfl, rfl, rfl⟩ (
  zgf_c ⟨RX6, TX6, 11, (.object "MomentTexts$RuleDate"), 0, fsX6, (16, 0, 0), rfl, by decide, tb_1 82 rfl rfl, wiX6, by decide +kernel, rfl, rfl, rfl⟩ (
  zgf_c ⟨RX6, TX6, 11, .boolean, 0, fsX6, (0, 0, 1), rfl, by decide, tb_1 83 rfl rfl, wiX6, by decide +kernel, rfl, rfl, rfl⟩ (
  zgf_c ⟨RX6, TX6, 11, .int, 0, fsX6, (0, (-2147483648), 2147483647), rfl, by decide, tb_1 84 rfl rfl, wiX6, by decide +kernel, rfl, rfl, rfl⟩ (
  zgf_c ⟨RX6, TX6, 11, .long, 0, fsX6, (1, (-9223372036854775808), 9223372036854775807), rfl, by decide, tb_1 85 rfl rfl, wiX6, by decide +kernel, rfl, rfl, rfl⟩ (
  zgf_c ⟨RX6, TX6, 11, .long, 0, fsX6, (1, (-9223372036854775808), 9223372036854775807), rfl, by decide, tb_1 86 rfl rfl, wiX6, by decide +kernel, rfl, rfl, rfl⟩ (
  zgf_c ⟨RX6, TX6, 11, .long, 0, fsX6, (1, (-9223372036854775808), 9223372036854775807), rfl, by decide, tb_1 87 rfl rfl, wiX6, by decide +kernel, rfl, rfl, rfl⟩ (
  zgf_c ⟨RX6, TX6, 11, .long, 0, fsX6, (1, (-9223372036854775808), 9223372036854775807), rfl, by decide, tb_1 88 rfl rfl, wiX6, by decide +kernel, rfl, rfl, rfl⟩ (
  zgf_c ⟨RX0, TX0, 5, .int, 0, fsX0, (0, (-2147483648), 2147483647), rfl, by decide, tb_1 124 rfl rfl, wiX0, by decide +kernel, rfl, rfl, rfl⟩ (fun _ h => nomatch h))))))))))))
def ciX6 : List (Nat × Int) := []
theorem ciX6_ok : ∀ (i : Nat) (n : Int), (i, n) ∈ ciX6 → ∃ x : Int32, Cond.constant RX6 i x ∈ gT ∧ x.toInt = n := zci_n
def clX6 : List (Nat × Int) := [(131, 1440), (153, (-9223372036854775808))]
theorem clX6_ok : ∀ (i : Nat) (n : Int), (i, n) ∈ clX6 → ∃ x : Int64, Cond.constantLong RX6 i x ∈ gT ∧ x.toInt = n := 
  zci_c ⟨1440, tb_4 123 rfl rfl, by decide +kernel⟩ (
  zci_c ⟨(-9223372036854775808), tb_4 187 rfl rfl, by decide +kernel⟩ (zci_n))
/-! MomentTexts$Zone: its pool -/
def gfX10 : List (Nat × Nat × Nat) := [(9, 9, 2), (15, 9, 3), (19, 9, 4), (26, 9, 5), (30, 9, 0), (33, 9, 1), (37, 5, 0), (54, 5, 1), (55, 5, 2)]
theorem gfX10_ok : ∀ x ∈ gfX10, zf_w vwCl RTg RX10 x := 
  zgf_c ⟨RX10, TX10, 6, (.array .long), 0, fsX10, (32, 0, 0), rfl, by decide, tb_3 182 rfl rfl, wiX10, by decide +kernel, rfl, rfl, rfl⟩ (
  zgf_c ⟨RX10, TX10, 6, (.array .int), 0, fsX10, (34, 0, 0), rfl, by decide, tb_3 183 rfl rfl, wiX10, by decide +kernel, rfl, rfl, rfl⟩ (
  zgf_c ⟨RX10, TX10, 6, .int, 0, fsX10, (0, 0, 60), rfl, by decide, tb_3 184 rfl rfl, wiX10, by decide +kernel, rfl, rfl, rfl⟩ (
  zgf_c ⟨RX10, TX10, 6, (.object "MomentTexts$Rule"), 0, fsX10, (14, 0, 0), rfl, by decide, tb_3 185 rfl rfl, wiX10, by decide +kernel, rfl, rfl, rfl⟩ (
  zgf_c ⟨RX10, TX10, 6, .int, 0, fsX10, (0, (-2147483648), 2147483647), rfl, by decide, tb_3 180 rfl rfl, wiX10, by decide +kernel, rfl, rfl, rfl⟩ (
  zgf_c ⟨RX10, TX10, 6, (.object "MomentTexts$Leaps"), 0, fsX10, (12, 0, 0), rfl, by decide, tb_3 181 rfl rfl, wiX10, by decide +kernel, rfl, rfl, rfl⟩ (
  zgf_c ⟨RX6, TX6, 11, .int, 0, fsX6, (0, (-2147483648), 2147483647), rfl, by decide, tb_1 76 rfl rfl, wiX6, by decide +kernel, rfl, rfl, rfl⟩ (
  zgf_c ⟨RX6, TX6, 11, .int, 0, fsX6, (0, (-2147483648), 2147483647), rfl, by decide, tb_1 78 rfl rfl, wiX6, by decide +kernel, rfl, rfl, rfl⟩ (
  zgf_c ⟨RX6, TX6, 11, .int, 0, fsX6, (0, (-2147483648), 2147483647), rfl, by decide, tb_1 80 rfl rfl, wiX6, by decide +kernel, rfl, rfl, rfl⟩ (fun _ h => nomatch h)))))))))
def ciX10 : List (Nat × Int) := []
theorem ciX10_ok : ∀ (i : Nat) (n : Int), (i, n) ∈ ciX10 → ∃ x : Int32, Cond.constant RX10 i x ∈ gT ∧ x.toInt = n := zci_n
def clX10 : List (Nat × Int) := [(79, (-9223372036854775808))]
theorem clX10_ok : ∀ (i : Nat) (n : Int), (i, n) ∈ clX10 → ∃ x : Int64, Cond.constantLong RX10 i x ∈ gT ∧ x.toInt = n := 
  zci_c ⟨(-9223372036854775808), tb_4 179 rfl rfl, by decide +kernel⟩ (zci_n)
/-! MomentTexts$FormReader: its pool -/
def gfX4 : List (Nat × Nat × Nat) := [(12, 3, 2), (21, 3, 3), (28, 3, 4), (32, 3, 5), (36, 3, 0), (40, 3, 1), (85, 1, 0), (95, 1, 1), (103, 2, 0), (107, 2, 1), (110, 2, 2), (113, 2, 3), (142, 7, 8)]
theorem gfX4_ok : ∀ x ∈ gfX4, zf_w vwCl RTg RX4 x := 
  zgf_c ⟨RX4, TX4, 6, (.object "MomentTexts$DateText"), 0, fsX4, (6, 0, 0), rfl, by decide, tb_2 38 rfl rfl, wiX4, by decide +kernel, rfl, rfl, rfl⟩ (
  zgf_c ⟨RX4, TX4, 6, (.object "MomentTexts$TimeText"), 0, fsX4, (18, 0, 0), rfl, by decide, tb_2 39 rfl rfl, wiX4, by decide +kernel, rfl, rfl, rfl⟩ (
  zgf_c ⟨RX4, TX4, 6, (.object "MomentTexts$DurationText"), 0, fsX4, (8, 0, 0), rfl, by decide, tb_2 40 rfl rfl, wiX4, by decide +kernel, rfl, rfl, rfl⟩ (
  zgf_c ⟨RX4, TX4, 6, (.array .long), 0, fsX4, (38, 0, 0), rfl, by decide, tb_2 41 rfl rfl, wiX4, by decide +kernel, rfl, rfl, rfl⟩ (
  zgf_c ⟨RX4, TX4, 6, (.object "MomentTexts$Cursor"), 0, fsX4, (4, 0, 0), rfl, by decide, tb_2 36 rfl rfl, wiX4, by decide +kernel, rfl, rfl, rfl⟩ (
  zgf_c ⟨RX4, TX4, 6, (.object "MomentTexts$Leaps"), 0, fsX4, (12, 0, 0), rfl, by decide, tb_2 37 rfl rfl, wiX4, by decide +kernel, rfl, rfl, rfl⟩ (
  zgf_c ⟨RX1, TX1, 10, .int, 0, fsX1, (0, (-2147483648), 2147483647), rfl, by decide, tb_1 168 rfl rfl, wiX1, by decide +kernel, rfl, rfl, rfl⟩ (
  zgf_c ⟨RX1, TX1, 10, .boolean, 0, fsX1, (0, 0, 1), rfl, by decide, tb_1 170 rfl rfl, wiX1, by decide +kernel, rfl, rfl, rfl⟩ (
  zgf_c ⟨RX3, TX3, 5, .long, 0, fsX3, (1, (-9223372036854775808), 9223372036854775807), rfl, by decide, tb_2 17 rfl rfl, wiX3, by decide +kernel, rfl, rfl, rfl⟩ (
  zgf_c ⟨RX3, TX3, 5, .long, 0, fsX3, (1, (-9223372036854775808), 9223372036854775807), rfl, by decide, tb_2 19 rfl rfl, wiX3, by decide +kernel, rfl, rfl, rfl⟩ (
  zgf_c ⟨RX3, TX3, 5, .long, 0, fsX3, (1, (-9223372036854775808), 9223372036854775807), rfl, by decide, tb_2 21 rfl rfl, wiX3, by decide +kernel, rfl, rfl, rfl⟩ (
  zgf_c ⟨RX3, TX3, 5, .long, 0, fsX3, (1, (-9223372036854775808), 9223372036854775807), rfl, by decide, tb_2 23 rfl rfl, wiX3, by decide +kernel, rfl, rfl, rfl⟩ (
  zgf_c ⟨RX8, TX8, 14, .int, 0, fsX8, (0, (-2147483648), 2147483647), rfl, by decide, tb_1 215 rfl rfl, wiX8, by decide +kernel, rfl, rfl, rfl⟩ (fun _ h => nomatch h)))))))))))))
def ciX4 : List (Nat × Int) := []
theorem ciX4_ok : ∀ (i : Nat) (n : Int), (i, n) ∈ ciX4 → ∃ x : Int32, Cond.constant RX4 i x ∈ gT ∧ x.toInt = n := zci_n
def clX4 : List (Nat × Int) := [(49, (-9223372036854775808)), (101, 4), (137, 1440), (167, 1000000000)]
theorem clX4_ok : ∀ (i : Nat) (n : Int), (i, n) ∈ clX4 → ∃ x : Int64, Cond.constantLong RX4 i x ∈ gT ∧ x.toInt = n := 
  zci_c ⟨(-9223372036854775808), tb_4 217 rfl rfl, by decide +kernel⟩ (
  zci_c ⟨4, tb_5 170 rfl rfl, by decide +kernel⟩ (
  zci_c ⟨1440, tb_5 83 rfl rfl, by decide +kernel⟩ (
  zci_c ⟨1000000000, tb_5 89 rfl rfl, by decide +kernel⟩ (zci_n))))
/-! MomentTexts: its pool -/
def gfX11 : List (Nat × Nat × Nat) := [(14, 10, 0), (20, 10, 1), (24, 10, 2), (31, 10, 3), (38, 10, 4), (45, 10, 5), (54, 10, 6), (58, 10, 7), (70, 10, 8), (217, 9, 5), (242, 0, 1), (251, 8, 1), (252, 8, 0), (290, 3, 5)]
theorem gfX11_ok : ∀ x ∈ gfX11, zf_w vwCl RTg RX11 x := 
  zgf_c ⟨RX11, TX11, 9, (.object "MomentTexts$Leaps"), 0, fsX11, (12, 0, 0), rfl, by decide, tb_2 60 rfl rfl, wiX11, by decide +kernel, rfl, rfl, rfl⟩ (
  zgf_c ⟨RX11, TX11, 9, (.array (.object "MomentTexts$Zone")), 0, fsX11, (44, 0, 0), rfl, by decide, tb_2 61 rfl rfl, wiX11, by decide +kernel, rfl, rfl, rfl⟩ (
  zgf_c ⟨RX11, TX11, 9, .int, 0, fsX11, (0, 0, 8), rfl, by decide, tb_2 62 rfl rfl, wiX11, by decide +kernel, rfl, rfl, rfl⟩ (
  zgf_c ⟨RX11, TX11, 9, (.object "MomentTexts$Rule"), 0, fsX11, (14, 0, 0), rfl, by decide, tb_2 63 rfl rfl, wiX11, by decide +kernel, rfl, rfl, rfl⟩ (
  zgf_c ⟨RX11, TX11, 9, (.object "MomentTexts$Cursor"), 0, fsX11, (4, 0, 0), rfl, by decide, tb_2 64 rfl rfl, wiX11, by decide +kernel, rfl, rfl, rfl⟩ (
  zgf_c ⟨RX11, TX11, 9, (.object "MomentTexts$Writer"), 0, fsX11, (20, 0, 0), rfl, by decide, tb_2 65 rfl rfl, wiX11, by decide +kernel, rfl, rfl, rfl⟩ (
  zgf_c ⟨RX11, TX11, 9, (.object "MomentTexts$FormReader"), 0, fsX11, (10, 0, 0), rfl, by decide, tb_2 66 rfl rfl, wiX11, by decide +kernel, rfl, rfl, rfl⟩ (
  zgf_c ⟨RX11, TX11, 9, (.array .long), 0, fsX11, (40, 0, 0), rfl, by decide, tb_2 67 rfl rfl, wiX11, by decide +kernel, rfl, rfl, rfl⟩ (
  zgf_c ⟨RX11, TX11, 9, (.array .long), 0, fsX11, (42, 0, 0), rfl, by decide, tb_2 68 rfl rfl, wiX11, by decide +kernel, rfl, rfl, rfl⟩ (
  zgf_c ⟨RX10, TX10, 6, (.object "MomentTexts$Rule"), 0, fsX10, (14, 0, 0), rfl, by decide, tb_3 186 rfl rfl, wiX10, by decide +kernel, rfl, rfl, rfl⟩ (
  zgf_c ⟨RX0, TX0, 5, .int, 0, fsX0, (0, 0, 120), rfl, by decide, tb_1 120 rfl rfl, wiX0, by decide +kernel, rfl, rfl, rfl⟩ (
  zgf_c ⟨RX9, TX9, 2, .int, 0, fsX9, (0, 0, 120), rfl, by decide, tb_1 149 rfl rfl, wiX9, by decide +kernel, rfl, rfl, rfl⟩ (
  zgf_c ⟨RX9, TX9, 2, (.array .byte), 0, fsX9, (36, 0, 0), rfl, by decide, tb_1 147 rfl rfl, wiX9, by decide +kernel, rfl, rfl, rfl⟩ (
  zgf_c ⟨RX4, TX4, 6, (.array .long), 0, fsX4, (38, 0, 0), rfl, by decide, tb_2 42 rfl rfl, wiX4, by decide +kernel, rfl, rfl, rfl⟩ (fun _ h => nomatch h))))))))))))))
def ciX11 : List (Nat × Int) := [(142, 999999), (323, 999999999)]
theorem ciX11_ok : ∀ (i : Nat) (n : Int), (i, n) ∈ ciX11 → ∃ x : Int32, Cond.constant RX11 i x ∈ gT ∧ x.toInt = n := 
  zci_c ⟨999999, tb_3 57 rfl rfl, by decide +kernel⟩ (
  zci_c ⟨999999999, tb_6 18 rfl rfl, by decide +kernel⟩ (zci_n))
def clX11 : List (Nat × Int) := [(62, (-9223372036854775808)), (238, 172800000), (328, 1440), (346, 999999999), (348, 3599999999999), (355, 12), (361, 3600), (363, 60), (382, 2592000000), (386, 1439), (404, (-526984793280))]
theorem clX11_ok : ∀ (i : Nat) (n : Int), (i, n) ∈ clX11 → ∃ x : Int64, Cond.constantLong RX11 i x ∈ gT ∧ x.toInt = n := 
  zci_c ⟨(-9223372036854775808), tb_2 56 rfl rfl, by decide +kernel⟩ (
  zci_c ⟨172800000, tb_4 194 rfl rfl, by decide +kernel⟩ (
  zci_c ⟨1440, tb_6 21 rfl rfl, by decide +kernel⟩ (
  zci_c ⟨999999999, tb_6 42 rfl rfl, by decide +kernel⟩ (
  zci_c ⟨3599999999999, tb_6 43 rfl rfl, by decide +kernel⟩ (
  zci_c ⟨12, tb_6 46 rfl rfl, by decide +kernel⟩ (
  zci_c ⟨3600, tb_6 55 rfl rfl, by decide +kernel⟩ (
  zci_c ⟨60, tb_6 56 rfl rfl, by decide +kernel⟩ (
  zci_c ⟨2592000000, tb_6 112 rfl rfl, by decide +kernel⟩ (
  zci_c ⟨1439, tb_6 114 rfl rfl, by decide +kernel⟩ (
  zci_c ⟨(-526984793280), tb_6 101 rfl rfl, by decide +kernel⟩ (zci_n)))))))))))
/-! MomentTextsModel: its pool -/
def gfX12 : List (Nat × Nat × Nat) := [(9, 11, 2), (15, 11, 4), (19, 11, 5), (22, 11, 6), (25, 11, 7), (28, 11, 8), (31, 11, 9), (34, 11, 10), (37, 11, 11), (40, 11, 12), (44, 11, 14), (47, 11, 23), (50, 11, 25), (53, 11, 26), (56, 11, 32), (59, 11, 34), (62, 11, 35), (65, 11, 40), (74, 11, 16), (80, 11, 17), (85, 11, 0), (121, 11, 20), (124, 11, 19), (127, 11, 18), (173, 11, 1), (195, 11, 21), (198, 11, 22), (215, 11, 3), (236, 11, 24), (253, 11, 27), (256, 11, 28), (293, 11, 29), (296, 11, 30), (299, 11, 31), (302, 11, 13), (328, 11, 33), (354, 11, 36), (365, 11, 37), (404, 11, 39), (407, 11, 38), (447, 11, 15)]
theorem gfX12_ok : ∀ x ∈ gfX12, zf_w vwCl RTg RX12 x := 
  zgf_c ⟨RX12, TX12, 41, (.array .long), 0, fsX12, (46, 0, 0), rfl, by decide, tb_6 152 rfl rfl, wiX12, by decide +kernel, rfl, rfl, rfl⟩ (
  zgf_c ⟨RX12, TX12, 41, (.array .int), 0, fsX12, (48, 0, 0), rfl, by decide, tb_6 154 rfl rfl, wiX12, by decide +kernel, rfl, rfl, rfl⟩ (
  zgf_c ⟨RX12, TX12, 41, (.array .int), 0, fsX12, (50, 0, 0), rfl, by decide, tb_6 155 rfl rfl, wiX12, by decide +kernel, rfl, rfl, rfl⟩ (
  zgf_c ⟨RX12, TX12, 41, (.array .long), 0, fsX12, (52, 0, 0), rfl, by decide, tb_6 156 rfl rfl, wiX12, by decide +kernel, rfl, rfl, rfl⟩ (
  zgf_c ⟨RX12, TX12, 41, (.array .int), 0, fsX12, (54, 0, 0), rfl, by decide, tb_6 157 rfl rfl, wiX12, by decide +kernel, rfl, rfl, rfl⟩ (
  zgf_c ⟨RX12, TX12, 41, (.array .int), 0, fsX12, (56, 0, 0), rfl, by decide, tb_6 158 rfl rfl, wiX12, by decide +kernel, rfl, rfl, rfl⟩ (
  zgf_c ⟨RX12, TX12, 41, (.array .int), 0, fsX12, (58, 0, 0), rfl, by decide, tb_6 159 rfl rfl, wiX12, by decide +kernel, rfl, rfl, rfl⟩ (
  zgf_c ⟨RX12, TX12, 41, (.array .int), 0, fsX12, (60, 0, 0), rfl, by decide, tb_6 160 rfl rfl, wiX12, by decide +kernel, rfl, rfl, rfl⟩ (
  zgf_c ⟨RX12, TX12, 41, (.array .int), 0, fsX12, (62, 0, 0), rfl, by decide, tb_6 161 rfl rfl, wiX12, by decide +kernel, rfl, rfl, rfl⟩ (
  zgf_c ⟨RX12, TX12, 41, (.array .byte), 0, fsX12, (64, 0, 0), rfl, by decide, tb_6 162 rfl rfl, wiX12, by decide +kernel, rfl, rfl, rfl⟩ (
  zgf_c ⟨RX12, TX12, 41, (.array .byte), 0, fsX12, (66, 0, 0), rfl, by decide, tb_6 164 rfl rfl, wiX12, by decide +kernel, rfl, rfl, rfl⟩ (
  zgf_c ⟨RX12, TX12, 41, (.array .int), 0, fsX12, (68, 0, 0), rfl, by decide, tb_6 173 rfl rfl, wiX12, by decide +kernel, rfl, rfl, rfl⟩ (
  zgf_c ⟨RX12, TX12, 41, (.array .long), 0, fsX12, (70, 0, 0), rfl, by decide, tb_6 175 rfl rfl, wiX12, by decide +kernel, rfl, rfl, rfl⟩ (
  zgf_c ⟨RX12, TX12, 41, (.array .long), 0, fsX12, (72, 0, 0), rfl, by decide, tb_6 176 rfl rfl, wiX12, by decide +kernel, rfl, rfl, rfl⟩ (
  zgf_c ⟨RX12, TX12, 41, (.array .int), 0, fsX12, (74, 0, 0), rfl, by decide, tb_6 182 rfl rfl, wiX12, by decide +kernel, rfl, rfl, rfl⟩ (
  zgf_c ⟨RX12, TX12, 41, (.array .long), 0, fsX12, (76, 0, 0), rfl, by decide, tb_6 184 rfl rfl, wiX12, by decide +kernel, rfl, rfl, rfl⟩ (
  zgf_c ⟨RX12, TX12, 41, (.array .long), 0, fsX12, (78, 0, 0), rfl, by decide, tb_6 185 rfl rfl, wiX12, by decide +kernel, rfl, rfl, rfl⟩ (
  zgf_c ⟨RX12, TX12, 41, (.array .long), 0, fsX12, (80, 0, 0), rfl, by decide, tb_6 190 rfl rfl, wiX12, by decide +kernel, rfl, rfl, rfl⟩ (
  zgf_c ⟨RX12, TX12, 41, .long, 0, fsX12, (1, (-365961662), (-365961662)), rfl, by decide, tb_6 166 rfl rfl, wiX12, by decide +kernel, rfl, rfl, rfl⟩ (
  zgf_c ⟨RX12, TX12, 41, .long, 0, fsX12, (1, 364522971, 364522971), rfl, by decide, tb_6 167 rfl rfl, wiX12, by decide +kernel, rfl, rfl, rfl⟩ (
  zgf_c ⟨RX12, TX12, 41, .int, 0, fsX12, (0, 0, 2), rfl, by decide, tb_6 150 rfl rfl, wiX12, by decide +kernel, rfl, rfl, rfl⟩ (
  zgf_c ⟨RX12, TX12, 41, .int, 0, fsX12, (0, (-2147483648), 2147483647), rfl, by decide, tb_6 170 rfl rfl, wiX12, by decide +kernel, rfl, rfl, rfl⟩ (
  zgf_c ⟨RX12, TX12, 41, .int, 0, fsX12, (0, (-2147483648), 2147483647), rfl, by decide, tb_6 169 rfl rfl, wiX12, by decide +kernel, rfl, rfl, rfl⟩ (
  zgf_c ⟨RX12, TX12, 41, .long, 0, fsX12, (1, (-9223372036854775808), 9223372036854775807), rfl, by decide, tb_6 168 rfl rfl, wiX12, by decide +kernel, rfl, rfl, rfl⟩ (
  zgf_c ⟨RX12, TX12, 41, .int, 0, fsX12, (0, 0, 40), rfl, by decide, tb_6 151 rfl rfl, wiX12, by decide +kernel, rfl, rfl, rfl⟩ (
  zgf_c ⟨RX12, TX12, 41, .long, 0, fsX12, (1, (-9223372036854775808), 9223372036854775807), rfl, by decide, tb_6 171 rfl rfl, wiX12, by decide +kernel, rfl, rfl, rfl⟩ (
  zgf_c ⟨RX12, TX12, 41, .int, 0, fsX12, (0, (-2147483648), 2147483647), rfl, by decide, tb_6 172 rfl rfl, wiX12, by decide +kernel, rfl, rfl, rfl⟩ (
  zgf_c ⟨RX12, TX12, 41, .int, 0, fsX12, (0, 0, 8), rfl, by decide, tb_6 153 rfl rfl, wiX12, by decide +kernel, rfl, rfl, rfl⟩ (
  zgf_c ⟨RX12, TX12, 41, .int, 0, fsX12, (0, 0, 64), rfl, by decide, tb_6 174 rfl rfl, wiX12, by decide +kernel, rfl, rfl, rfl⟩ (
  zgf_c ⟨RX12, TX12, 41, .int, 0, fsX12, (0, 0, 128), rfl, by decide, tb_6 177 rfl rfl, wiX12, by decide +kernel, rfl, rfl, rfl⟩ (
  zgf_c ⟨RX12, TX12, 41, .int, 0, fsX12, (0, 0, 7), rfl, by decide, tb_6 178 rfl rfl, wiX12, by decide +kernel, rfl, rfl, rfl⟩ (
  zgf_c ⟨RX12, TX12, 41, .int, 0, fsX12, (0, 0, 120), rfl, by decide, tb_6 179 rfl rfl, wiX12, by decide +kernel, rfl, rfl, rfl⟩ (
  zgf_c ⟨RX12, TX12, 41, .int, 0, fsX12, (0, (-1), 120), rfl, by decide, tb_6 180 rfl rfl, wiX12, by decide +kernel, rfl, rfl, rfl⟩ (
  zgf_c ⟨RX12, TX12, 41, .int, 0, fsX12, (0, (-2147483648), 2147483647), rfl, by decide, tb_6 181 rfl rfl, wiX12, by decide +kernel, rfl, rfl, rfl⟩ (
  zgf_c ⟨RX12, TX12, 41, .int, 0, fsX12, (0, 0, 120), rfl, by decide, tb_6 163 rfl rfl, wiX12, by decide +kernel, rfl, rfl, rfl⟩ (
  zgf_c ⟨RX12, TX12, 41, .int, 0, fsX12, (0, (-2147483648), 2147483647), rfl, by decide, tb_6 183 rfl rfl, wiX12, by decide +kernel, rfl, rfl, rfl⟩ (
  zgf_c ⟨RX12, TX12, 41, .int, 0, fsX12, (0, 0, 3), rfl, by decide, tb_6 186 rfl rfl, wiX12, by decide +kernel, rfl, rfl, rfl⟩ (
  zgf_c ⟨RX12, TX12, 41, .boolean, 0, fsX12, (0, 0, 1), rfl, by decide, tb_6 187 rfl rfl, wiX12, by decide +kernel, rfl, rfl, rfl⟩ (
  zgf_c ⟨RX12, TX12, 41, .boolean, 0, fsX12, (0, 0, 1), rfl, by decide, tb_6 189 rfl rfl, wiX12, by decide +kernel, rfl, rfl, rfl⟩ (
  zgf_c ⟨RX12, TX12, 41, .long, 0, fsX12, (1, (-9223372036854775808), 9223372036854775807), rfl, by decide, tb_6 188 rfl rfl, wiX12, by decide +kernel, rfl, rfl, rfl⟩ (
  zgf_c ⟨RX12, TX12, 41, .int, 0, fsX12, (0, 0, 120), rfl, by decide, tb_6 165 rfl rfl, wiX12, by decide +kernel, rfl, rfl, rfl⟩ (fun _ h => nomatch h)))))))))))))))))))))))))))))))))))))))))
def ciX12 : List (Nat × Int) := []
theorem ciX12_ok : ∀ (i : Nat) (n : Int), (i, n) ∈ ciX12 → ∃ x : Int32, Cond.constant RX12 i x ∈ gT ∧ x.toInt = n := zci_n
def clX12 : List (Nat × Int) := [(68, (-999999)), (78, 999999), (83, (-9223372036854775808)), (89, 4), (91, 100), (93, 400), (103, 153), (105, 2), (107, 5), (109, 146097), (111, 365), (113, 719468), (115, 1460), (117, 36524), (119, 146096), (134, 3), (136, 7), (153, 12), (162, 9), (176, (-1)), (178, 60), (180, 1440), (185, 1439), (193, 45), (213, (-1439)), (263, 172800000), (273, 400000), (275, 64), (281, 2592000000), (283, 86400), (285, 28), (291, 70), (373, 10), (375, 48), (410, 366), (412, 24), (414, 59), (416, 23), (424, 3600), (426, 1000000000), (431, 6), (445, 8), (457, 9999), (462, 999999999), (470, 3599999999999)]
theorem clX12_ok : ∀ (i : Nat) (n : Int), (i, n) ∈ clX12 → ∃ x : Int64, Cond.constantLong RX12 i x ∈ gT ∧ x.toInt = n := 
  zci_c ⟨(-999999), tb_6 132 rfl rfl, by decide +kernel⟩ (
  zci_c ⟨999999, tb_6 148 rfl rfl, by decide +kernel⟩ (
  zci_c ⟨(-9223372036854775808), tb_6 149 rfl rfl, by decide +kernel⟩ (
  zci_c ⟨4, tb_6 145 rfl rfl, by decide +kernel⟩ (
  zci_c ⟨100, tb_6 146 rfl rfl, by decide +kernel⟩ (
  zci_c ⟨400, tb_6 136 rfl rfl, by decide +kernel⟩ (
  zci_c ⟨153, tb_6 140 rfl rfl, by decide +kernel⟩ (
  zci_c ⟨2, tb_6 141 rfl rfl, by decide +kernel⟩ (
  zci_c ⟨5, tb_6 142 rfl rfl, by decide +kernel⟩ (
  zci_c ⟨146097, tb_6 143 rfl rfl, by decide +kernel⟩ (
  zci_c ⟨365, tb_6 144 rfl rfl, by decide +kernel⟩ (
  zci_c ⟨719468, tb_6 147 rfl rfl, by decide +kernel⟩ (
  zci_c ⟨1460, tb_7 72 rfl rfl, by decide +kernel⟩ (
  zci_c ⟨36524, tb_7 73 rfl rfl, by decide +kernel⟩ (
  zci_c ⟨146096, tb_7 74 rfl rfl, by decide +kernel⟩ (
  zci_c ⟨3, tb_7 81 rfl rfl, by decide +kernel⟩ (
  zci_c ⟨7, tb_7 82 rfl rfl, by decide +kernel⟩ (
  zci_c ⟨12, tb_7 48 rfl rfl, by decide +kernel⟩ (
  zci_c ⟨9, tb_7 63 rfl rfl, by decide +kernel⟩ (
  zci_c ⟨(-1), tb_7 133 rfl rfl, by decide +kernel⟩ (
  zci_c ⟨60, tb_7 128 rfl rfl, by decide +kernel⟩ (
  zci_c ⟨1440, tb_7 118 rfl rfl, by decide +kernel⟩ (
  zci_c ⟨1439, tb_7 119 rfl rfl, by decide +kernel⟩ (
  zci_c ⟨45, tb_7 146 rfl rfl, by decide +kernel⟩ (
  zci_c ⟨(-1439), tb_7 154 rfl rfl, by decide +kernel⟩ (
  zci_c ⟨172800000, tb_7 199 rfl rfl, by decide +kernel⟩ (
  zci_c ⟨400000, tb_7 224 rfl rfl, by decide +kernel⟩ (
  zci_c ⟨64, tb_7 225 rfl rfl, by decide +kernel⟩ (
  zci_c ⟨2592000000, tb_7 230 rfl rfl, by decide +kernel⟩ (
  zci_c ⟨86400, tb_7 231 rfl rfl, by decide +kernel⟩ (
  zci_c ⟨28, tb_7 232 rfl rfl, by decide +kernel⟩ (
  zci_c ⟨70, tb_7 237 rfl rfl, by decide +kernel⟩ (
  zci_c ⟨10, tb_8 85 rfl rfl, by decide +kernel⟩ (
  zci_c ⟨48, tb_8 86 rfl rfl, by decide +kernel⟩ (
  zci_c ⟨366, tb_8 118 rfl rfl, by decide +kernel⟩ (
  zci_c ⟨24, tb_8 123 rfl rfl, by decide +kernel⟩ (
  zci_c ⟨59, tb_8 124 rfl rfl, by decide +kernel⟩ (
  zci_c ⟨23, tb_8 125 rfl rfl, by decide +kernel⟩ (
  zci_c ⟨3600, tb_8 138 rfl rfl, by decide +kernel⟩ (
  zci_c ⟨1000000000, tb_8 139 rfl rfl, by decide +kernel⟩ (
  zci_c ⟨6, tb_8 60 rfl rfl, by decide +kernel⟩ (
  zci_c ⟨8, tb_8 148 rfl rfl, by decide +kernel⟩ (
  zci_c ⟨9999, tb_8 165 rfl rfl, by decide +kernel⟩ (
  zci_c ⟨999999999, tb_8 178 rfl rfl, by decide +kernel⟩ (
  zci_c ⟨3599999999999, tb_8 187 rfl rfl, by decide +kernel⟩ (zci_n)))))))))))))))))))))))))))))))))))))))))))))
