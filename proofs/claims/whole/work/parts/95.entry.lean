/-! dep: 94 -/
/-! ===== printed by gen/specs/gen95.py: the constants at the law's entry ===== -/
abbrev y_pre : List Cond := flatC (Jvm.Cond.and given_1 narrow_1)
def z_pf (b : Nat) (s : State) : Prop := ∀ w ∈ y_pre, w.before #[Value.ref b] s = true
def z_tf (b : Nat) (s : State) : Prop := ∀ w ∈ lw_tbl, w.before #[Value.ref b] s = true
theorem z_pf.at {b : Nat} {s : State} (h : z_pf b s) {w : Cond} (i : Nat) (hi : y_pre[i]? = some w) : w.before #[Value.ref b] s = true := h w (List.mem_of_getElem? hi)
theorem z_tf.at {b : Nat} {s : State} (h : z_tf b s) {w : Cond} (i : Nat) (hi : lw_tbl[i]? = some w) : w.before #[Value.ref b] s = true := h w (List.mem_of_getElem? hi)
abbrev z_st (i : Nat) : Term := Term.string (z_sn.getD i default).1 (z_sn.getD i default).2.1
abbrev z_sf (i : Nat) : Term := Term.static "WindElection$Fault" (z_fn.getD i "") "LWindElection$Fault;"
abbrev z_sw (i : Nat) : Term := Term.static "WindElection$Word" (z_wn.getD i "") "LWindElection$Word;"
def z_so : List Nat := [402, 427, 454, 488, 525, 546, 570, 598, 625, 643, 674, 691, 717, 761, 799, 833, 857, 896, 933, 958, 978, 1003, 1027, 1036, 1043, 1053, 1059, 1066, 1074, 1079, 1088, 1096, 1106, 1118, 1126, 1136, 1147, 1155]
def z_ss : List Nat := [496, 523, 533, 540, 550, 557, 558, 559, 569, 833, 845, 871, 873, 929, 1038, 1046, 1058, 1059, 1185, 1186, 1212, 1220, 1609, 1628, 1629, 1634, 1635, 1636, 1637, 1638, 1705, 1712, 1713, 1714, 1715, 1716, 1717, 1718]
def z_xf : List Nat := [9, 31, 57, 42, 66, 27, 49, 76, 36, 87]
def z_of : List Nat := [10, 32, 58, 43, 67, 28, 50, 77, 37, 88]
def z_lf : List Nat := [436, 713, 774, 751, 777, 678, 753, 783, 715, 1007]
def z_xw : List Nat := [4, 144, 117, 161, 179, 198, 218, 239]
def z_ow : List Nat := [5, 145, 118, 162, 180, 199, 219, 240]
def z_lw : List Nat := [272, 1706, 1161, 1707, 1708, 1709, 1710, 1711]
def z_aw : List Nat := [7, 147, 120, 164, 182, 201, 221, 242]
def z_bw : List Nat := [8, 148, 121, 165, 183, 202, 222, 243]
def z_ew : List Nat := [6, 146, 119, 163, 181, 200, 220, 241]
theorem e_s0 : ∀ i, i < 38 → y_pre[z_so.getD i 0]? = some (Cond.exactly (z_st i) "java/lang/String") := by decide +kernel
theorem e_s1 : ∀ i, i < 38 → y_pre[z_so.getD i 0 + 1]? = some (Cond.eq (.field (z_st i) "java/lang/String" "coder" "B") (.int 0)) := by decide +kernel
theorem e_s2 : ∀ i, i < 38 → y_pre[z_so.getD i 0 + 2]? = some (Cond.arrayOf (.field (z_st i) "java/lang/String" "value" "[B") .byte) := by decide +kernel
theorem e_s3 : ∀ i, i < 38 → y_pre[z_so.getD i 0 + 3]? = some (Cond.eq (.length (.field (z_st i) "java/lang/String" "value" "[B")) (.int (Int32.ofNat (z_sl.getD i 0)))) := by decide +kernel
theorem e_s4 : ∀ i, i < 38 → ∀ j, j < z_sl.getD i 0 → y_pre[z_so.getD i 0 + (4 + j)]? = some (Cond.eq (.elem (.field (z_st i) "java/lang/String" "value" "[B") (.int (Int32.ofNat j))) (.int ((z_sb.getD i []).getD j 0))) := by decide +kernel
theorem e_s5 : ∀ i, i < 38 → lw_tbl[z_ss.getD i 0]? = some (Cond.stringRef (z_sn.getD i default).1 (z_sn.getD i default).2.1 (z_sn.getD i default).2.2) := by decide +kernel
theorem e_s6 : ∀ i, i < 38 → z_sl.getD i 0 < 100 := by decide +kernel
theorem e_s7 : ∀ i, i < 38 → ∀ j, j < 38 → z_sl.getD i 0 = z_sl.getD j 0 → (∀ k, k < z_sl.getD i 0 → (z_sb.getD i []).getD k 0 = (z_sb.getD j []).getD k 0) → i = j := by decide +kernel
theorem e_f0 : ∀ i, i < 10 → y_pre[z_xf.getD i 0]? = some (Cond.exactly (z_sf i) "WindElection$Fault") := by decide +kernel
theorem e_f1 : ∀ i, i < 10 → y_pre[z_of.getD i 0]? = some (Cond.eq (.field (z_sf i) "java/lang/Enum" "ordinal" "I") (.int (([0, 1, 2, 3, 4, 5, 6, 7, 8, 9] : List Int32).getD i 0))) := by decide +kernel
theorem e_f2 : ∀ i, i < 10 → lw_tbl[z_lf.getD i 0]? = some (Cond.laysStatic "WindElection$Fault" (z_fn.getD i "") "LWindElection$Fault;") := by decide +kernel
theorem e_w0 : ∀ i, i < 8 → y_pre[z_xw.getD i 0]? = some (Cond.exactly (z_sw i) "WindElection$Word") := by decide +kernel
theorem e_w1 : ∀ i, i < 8 → y_pre[z_ow.getD i 0]? = some (Cond.eq (.field (z_sw i) "java/lang/Enum" "ordinal" "I") (.int (([0, 1, 2, 3, 4, 5, 6, 7] : List Int32).getD i 0))) := by decide +kernel
theorem e_w2 : ∀ i, i < 8 → lw_tbl[z_lw.getD i 0]? = some (Cond.laysStatic "WindElection$Word" (z_wn.getD i "") "LWindElection$Word;") := by decide +kernel
theorem e_w3 : ∀ i, i < 8 → y_pre[z_aw.getD i 0]? = some (Cond.eq (.field (z_sw i) "WindElection$Word" "firstDigits" "I") (.int (([0, 1, 2, 2, 2, 2, 0, 0] : List Int32).getD i 0))) := by decide +kernel
theorem e_w4 : ∀ i, i < 8 → y_pre[z_bw.getD i 0]? = some (Cond.eq (.field (z_sw i) "WindElection$Word" "secondDigits" "I") (.int (([0, 0, 1, 1, 0, 2, 0, 0] : List Int32).getD i 0))) := by decide +kernel
theorem e_w5 : ∀ i, i < 8 → y_pre[z_ew.getD i 0]? = some (Cond.eq (.field (z_sw i) "WindElection$Word" "letters" "Ljava/lang/String;") (z_st (z_wl.getD i 0))) := by decide +kernel
def z_pF : List (List Nat) := [[0, 34, 60, 45, 69, 30, 52, 79, 39, 90], [34, 0, 62, 47, 71, 35, 54, 81, 41, 92], [60, 62, 0, 64, 75, 61, 65, 85, 63, 96], [45, 47, 64, 0, 73, 46, 56, 83, 48, 94], [69, 71, 75, 73, 0, 70, 74, 86, 72, 97], [30, 35, 61, 46, 70, 0, 53, 80, 40, 91], [52, 54, 65, 56, 74, 53, 0, 84, 55, 95], [79, 81, 85, 83, 86, 80, 84, 0, 82, 98], [39, 41, 63, 48, 72, 40, 55, 82, 0, 93], [90, 92, 96, 94, 97, 91, 95, 98, 93, 0]]
def z_pW : List (List Nat) := [[0, 149, 122, 166, 184, 203, 223, 244], [149, 0, 160, 178, 196, 215, 235, 256], [122, 160, 0, 177, 195, 214, 234, 255], [166, 178, 177, 0, 197, 216, 236, 257], [184, 196, 195, 197, 0, 217, 237, 258], [203, 215, 214, 216, 217, 0, 238, 259], [223, 235, 234, 236, 237, 238, 0, 260], [244, 256, 255, 257, 258, 259, 260, 0]]
theorem e_f3 : ∀ i, i < 10 → ∀ j, j < 10 → i ≠ j → y_pre[(z_pF.getD i []).getD j 0]? = some (Cond.not (.eq (z_sf i) (z_sf j))) ∨ y_pre[(z_pF.getD i []).getD j 0]? = some (Cond.not (.eq (z_sf j) (z_sf i))) := by decide +kernel
theorem e_w6 : ∀ i, i < 8 → ∀ j, j < 8 → i ≠ j → y_pre[(z_pW.getD i []).getD j 0]? = some (Cond.not (.eq (z_sw i) (z_sw j))) ∨ y_pre[(z_pW.getD i []).getD j 0]? = some (Cond.not (.eq (z_sw j) (z_sw i))) := by decide +kernel
theorem e_m1 : ∀ j, j < 10 → y_pre[15 + j]? = some (Cond.eq (.elem (.static "WindElection$1" "$SwitchMap$WindElection$Fault" "[I") (.int (Int32.ofNat j))) (.int (Int32.ofInt (j : Int)))) := by decide +kernel
theorem e_m2 : ∀ j, j < 8 → y_pre[136 + j]? = some (Cond.eq (.elem (.static "WindElection$1" "$SwitchMap$WindElection$Word" "[I") (.int (Int32.ofNat j))) (.int (Int32.ofInt ((j : Int) + 1)))) := by decide +kernel
theorem e_m3 : ∀ j, j < 8 → y_pre[104 + j]? = some (Cond.eq (.elem (.static "WindElection" "WORDS" "[LWindElection$Word;") (.int (Int32.ofNat j))) (z_sw j)) := by decide +kernel
def z_pC : List (List Nat) := [[0, 306, 273, 340, 323], [290, 0, 274, 341, 324], [291, 307, 0, 342, 325], [293, 310, 277, 0, 327], [292, 308, 275, 343, 0]]
theorem e_c0 : ∀ i, i < 5 → ∀ j, j < 5 → i ≠ j → y_pre[(z_pC.getD i []).getD j 0]? = some (Cond.not (.castable (z_exs.getD i "") (z_exs.getD j ""))) := by decide +kernel
