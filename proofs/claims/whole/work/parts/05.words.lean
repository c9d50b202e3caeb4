/-! the words of the tables that the small machine stands on, each by its place -/
def mw_wd : List Cond := lw_tbl.filter goodWord
theorem mw_wd_of {w : Cond} (h : w ∈ lw_tbl) (g : goodWord w = true) : w ∈ mw_wd := List.mem_filter.mpr ⟨h, g⟩
theorem mw_wd_in {w : Cond} (h : w ∈ mw_wd) : w ∈ lw_tbl := (List.mem_filter.mp h).1
theorem mw_pl {ws : List Cond} {ps : List Nat} (h : ws = ps.filterMap (fun i => lw_tbl[i]?)) (g : ws.all goodWord = true) : ∀ w ∈ ws, w ∈ mw_wd := by
  intro w hw
  have h1 := List.all_eq_true.mp g w hw
  rw [h] at hw
  obtain ⟨i, -, hi⟩ := List.mem_filterMap.mp hw
  exact mw_wd_of (List.mem_of_getElem? hi) h1
def mw_own (k : Nat) : String := mw_ow.getD (k / 10000) ""
def mw_fW (e : Nat × Nat × Nat) : Cond := match vwCl[e.2.1]? with
  | some q => .fieldLink (mw_own e.1) (e.1 % 10000) (q.2.1 e.2.2).1 (q.2.1 e.2.2).2.1 (q.2.1 e.2.2).2.2.1
  | none => .initialized ""
def mw_cW (e : Nat × Nat) : Cond := .methodLink (mw_own e.1) (e.1 % 10000) ((mw_mT[e.2]?).elim ⟨"", "", ""⟩ (fun q => q.1))
def mw_kW (e : Nat × Int) : Cond := .constant (mw_own e.1) (e.1 % 10000) (Int32.ofInt e.2)
def mw_lW (e : Nat × Int) : Cond := .constantLong (mw_own e.1) (e.1 % 10000) (Int64.ofInt e.2)
def mw_jW (e : Nat × Nat) : Cond := .fieldLink (mw_own e.1) (e.1 % 10000) "java/lang/String" (if e.2 = 0 then "value" else "coder") (if e.2 = 0 then "[B" else "B")
def mw_aW (e : Nat) : Cond := .methodLink (mw_own e) (e % 10000) arraycopyName
set_option maxRecDepth 100000 in
theorem mw_fT_in : ∀ w ∈ mw_fT.map mw_fW, w ∈ mw_wd := mw_pl (ps := mw_fP) (by decide +kernel) (by decide +kernel)
set_option maxRecDepth 100000 in
theorem mw_cT_in : ∀ w ∈ mw_cT.map mw_cW, w ∈ mw_wd := mw_pl (ps := mw_cP) (by decide +kernel) (by decide +kernel)
set_option maxRecDepth 100000 in
theorem mw_kT_in : ∀ w ∈ mw_kT.map mw_kW, w ∈ mw_wd := mw_pl (ps := mw_kP) (by decide +kernel) (by decide +kernel)
set_option maxRecDepth 100000 in
theorem mw_lT_in : ∀ w ∈ mw_lT.map mw_lW, w ∈ mw_wd := mw_pl (ps := mw_lP) (by decide +kernel) (by decide +kernel)
set_option maxRecDepth 100000 in
theorem mw_jT_in : ∀ w ∈ mw_jT.map mw_jW, w ∈ mw_wd := mw_pl (ps := mw_jP) (by decide +kernel) (by decide +kernel)
set_option maxRecDepth 100000 in
theorem mw_aT_in : ∀ w ∈ mw_aT.map mw_aW, w ∈ mw_wd := mw_pl (ps := mw_aP) (by decide +kernel) (by decide +kernel)
set_option maxRecDepth 100000 in
theorem mw_cw0 : mw_mT0.map (fun q => Cond.code q.1 q.2.1 q.2.2.1 q.2.2.2.1) = ([618, 893, 900, 776, 786, 884, 824, 1382, 1386, 1397, 1405, 1408, 1413, 1420, 1343, 1357, 1365, 1348, 1352, 1281, 1286, 1290, 1295, 1304, 1299, 1321, 1330, 1456, 1202, 1209, 1213, 1222, 1218, 1236, 1244, 1252, 1256, 1260, 1264, 1268] : List Nat).filterMap (fun i => lw_tbl[i]?) := rfl
set_option maxRecDepth 100000 in
theorem mw_cw1 : mw_mT1.map (fun q => Cond.code q.1 q.2.1 q.2.2.1 q.2.2.2.1) = ([904, 1016, 1050, 599, 603, 611, 754, 771, 781, 889, 791, 803, 807, 812, 828, 832, 850, 865, 858, 836, 816, 820, 861, 854, 841, 871, 729, 799, 795, 762, 766, 758, 622, 629, 636, 625, 632, 639, 1152, 1166] : List Nat).filterMap (fun i => lw_tbl[i]?) := rfl
set_option maxRecDepth 100000 in
theorem mw_cw2 : mw_mT2.map (fun q => Cond.code q.1 q.2.1 q.2.2.1 q.2.2.2.1) = ([1156, 1160, 1179, 1183, 1126, 1130, 1133, 1010, 1025, 965, 1187, 952, 973, 968, 976, 979, 921, 925, 957, 948, 1029, 1034, 1038, 1042, 984, 988, 992, 995, 998, 1076, 1092, 1105, 1062, 1066, 1080, 1085, 1430, 1440, 1443, 595] : List Nat).filterMap (fun i => lw_tbl[i]?) := rfl
set_option maxRecDepth 100000 in
theorem mw_cw3 : mw_mT3.map (fun q => Cond.code q.1 q.2.1 q.2.2.1 q.2.2.2.1) = ([607, 909, 913, 929, 933, 941, 961, 1006, 1046, 1058, 1097, 1101, 1110, 1117, 1139, 1170, 1175, 1193, 1232, 1240, 1248, 1273, 1312, 1316, 1336, 1361, 1375, 1390, 1394, 1402, 1417, 1426, 1434, 1447, 1452, 1462, 1466, 917, 1379, 937] : List Nat).filterMap (fun i => lw_tbl[i]?) := rfl
set_option maxRecDepth 100000 in
theorem mw_cw4 : mw_mT4.map (fun q => Cond.code q.1 q.2.1 q.2.2.1 q.2.2.2.1) = ([1147, 1143, 944, 1113, 1339, 1121, 1197, 1277, 1071, 1019, 1642, 1477, 1635, 1650, 1653, 1663, 1657, 1646, 1676, 1668, 1684, 1672, 1817, 1680, 1688, 1712, 1708, 1724, 1720, 1716, 1704, 1700, 1696, 1692, 1639, 1731, 1739, 1743, 1746, 1750] : List Nat).filterMap (fun i => lw_tbl[i]?) := rfl
set_option maxRecDepth 100000 in
theorem mw_cw5 : mw_mT5.map (fun q => Cond.code q.1 q.2.1 q.2.2.1 q.2.2.2.1) = ([1770, 1735, 1754, 1758, 1766, 1793, 1762, 1808, 1805, 1801, 1789, 1797, 1814, 1786, 1778, 1821, 1837, 1833, 1782, 1829, 1774, 1825, 1841, 1855, 1851, 1846, 1859, 1868, 1863, 1873, 1877, 1901, 1913, 1909, 1905, 1897, 1893, 1887, 1881, 1922] : List Nat).filterMap (fun i => lw_tbl[i]?) := rfl
set_option maxRecDepth 100000 in
theorem mw_cw6 : mw_mT6.map (fun q => Cond.code q.1 q.2.1 q.2.2.1 q.2.2.2.1) = ([1917, 1926, 1934, 1948, 1951, 1944, 1940, 1930, 1959, 1956, 1963, 1971, 1967, 1984, 1979, 1975, 1988, 1992, 2014, 2010, 2006, 2002, 1999, 2018, 2027, 2022, 2032, 2040, 2036, 2048, 2044, 2052, 2065, 2056, 2061, 2069, 2073, 2077, 2081, 1225] : List Nat).filterMap (fun i => lw_tbl[i]?) := rfl
set_option maxRecDepth 100000 in
theorem mw_cw7 : mw_mT7.map (fun q => Cond.code q.1 q.2.1 q.2.2.1 q.2.2.2.1) = ([1368, 1053, 671, 614, 658, 734, 644, 648, 662, 652, 740, 737, 668, 665, 675, 743] : List Nat).filterMap (fun i => lw_tbl[i]?) := rfl
theorem mw_gw {q : mw_Me} : goodWord (Cond.code q.1 q.2.1 q.2.2.1 q.2.2.2.1) = true := rfl
theorem mw_cwl {T : List mw_Me} {ps : List Nat} (h : T.map (fun q => Cond.code q.1 q.2.1 q.2.2.1 q.2.2.2.1) = ps.filterMap (fun i => lw_tbl[i]?)) : ∀ q ∈ T, Cond.code q.1 q.2.1 q.2.2.1 q.2.2.2.1 ∈ mw_wd := by
  intro q hq
  have h1 : Cond.code q.1 q.2.1 q.2.2.1 q.2.2.2.1 ∈ T.map (fun q => Cond.code q.1 q.2.1 q.2.2.1 q.2.2.2.1) := List.mem_map.mpr ⟨q, hq, rfl⟩
  rw [h] at h1
  obtain ⟨i, -, hi⟩ := List.mem_filterMap.mp h1
  exact mw_wd_of (List.mem_of_getElem? hi) mw_gw
theorem mw_code_in : ∀ q ∈ mw_mT, Cond.code q.1 q.2.1 q.2.2.1 q.2.2.2.1 ∈ mw_wd := by
  intro q hq
  unfold mw_mT at hq
  simp only [List.mem_append] at hq
  rcases hq with h | h | h | h | h | h | h | h
  · exact mw_cwl mw_cw0 q h
  · exact mw_cwl mw_cw1 q h
  · exact mw_cwl mw_cw2 q h
  · exact mw_cwl mw_cw3 q h
  · exact mw_cwl mw_cw4 q h
  · exact mw_cwl mw_cw5 q h
  · exact mw_cwl mw_cw6 q h
  · exact mw_cwl mw_cw7 q h
set_option maxRecDepth 100000 in
theorem mw_ini_in : ∀ w ∈ mw_mT.map (fun q => Cond.initialized q.1.cls), w ∈ mw_wd := mw_pl (ps := mw_iniP) (by decide +kernel) (by decide +kernel)
set_option maxRecDepth 100000 in
theorem mw_stat_in : ∀ w ∈ (mw_mT.filter (fun q => q.2.2.2.2.2.2 == 0)).map (fun q => Cond.static q.1), w ∈ mw_wd := mw_pl (ps := mw_statP) (by decide +kernel) (by decide +kernel)
set_option maxRecDepth 100000 in
theorem mw_inst_in : ∀ w ∈ (mw_mT.filter (fun q => !(q.2.2.2.2.2.2 == 0))).map (fun q => Cond.instanceMethod q.1), w ∈ mw_wd := mw_pl (ps := mw_instP) (by decide +kernel) (by decide +kernel)
set_option maxRecDepth 100000 in
theorem mw_sel_in : ∀ w ∈ (mw_mT.filter (fun q => !(q.2.2.2.2.2.2 == 0))).map (fun q => Cond.selects q.1.cls q.1 q.1), w ∈ mw_wd := mw_pl (ps := mw_selP) (by decide +kernel) (by decide +kernel)
set_option maxRecDepth 100000 in
theorem mw_lay_in : ∀ w ∈ vwCl.flatMap (fun q => u_ws q.1 q.2.1 q.2.2), w ∈ mw_wd := mw_pl (ps := mw_layP) (by decide +kernel) (by decide +kernel)
def mw_okM (q : mw_Me) : Bool := decide (mw_ow[q.2.2.2.2.1]? = some q.1.cls) && (plainFor q.1 && (decide (q.1.cls ≠ "java/lang/invoke/MethodHandle") && (decide (q.1.cls ≠ "java/lang/invoke/VarHandle") && (decide ((parseMethodDescriptor q.1.desc).map (fun d => d.parameters.length) = some q.2.2.2.2.2.1) && (decide (q.2.2.1 ≤ 60) && (decide (q.2.2.2.2.2.2 = 0 ∨ (q.2.2.2.2.2.2 = 50 ∧ q.1.cls = "java/lang/String") ∨ (vwCl[q.2.2.2.2.2.2 - 1]?).map (fun w => w.1) = some q.1.cls)))))))
set_option maxRecDepth 100000 in
theorem mw_okM_all : mw_mT.all mw_okM = true := by decide +kernel
theorem mw_cl_ok : ∀ (ci : Nat) (q : vw_C), vwCl[ci]? = some q → ∃ ty0 : Nat → FieldType, (∀ k, k < q.2.2 → parseFieldDescriptor (q.2.1 k).2.2.1 = some (ty0 k)) ∧ ∀ a, a < q.2.2 → ∀ b, b < q.2.2 → a ≠ b → (q.2.1 a).2.1 ≠ (q.2.1 b).2.1
  | 0, _, h => by cases h; exact ⟨tyX0, tyX0_ok, nmX0⟩
  | 1, _, h => by cases h; exact ⟨tyX2, tyX2_ok, nmX2⟩
  | 2, _, h => by cases h; exact ⟨tyX3, tyX3_ok, nmX3⟩
  | 3, _, h => by cases h; exact ⟨tyX4, tyX4_ok, nmX4⟩
  | 4, _, h => by cases h; exact ⟨tyX5, tyX5_ok, nmX5⟩
  | 5, _, h => by cases h; exact ⟨tyX6, tyX6_ok, nmX6⟩
  | 6, _, h => by cases h; exact ⟨tyX7, tyX7_ok, nmX7⟩
  | 7, _, h => by cases h; exact ⟨tyX8, tyX8_ok, nmX8⟩
  | 8, _, h => by cases h; exact ⟨tyX9, tyX9_ok, nmX9⟩
  | 9, _, h => by cases h; exact ⟨tyX10, tyX10_ok, nmX10⟩
  | 10, _, h => by cases h; exact ⟨tyX11, tyX11_ok, nmX11⟩
  | 11, _, h => by cases h; exact ⟨tyX12, tyX12_ok, nmX12⟩
  | k + 12, _, h => by simp [vwCl] at h
def mw_okF (c : Nat × List Nat) : Bool := match vwCl[c.1]? with
  | some q => decide (c.2.length = q.2.2) && (List.range c.2.length).all (fun k => match c.2[k]? with
    | some 0 => decide ((q.2.1 k).2.2.1 = "I") && !(q.2.1 k).2.2.2
    | some 1 => decide ((q.2.1 k).2.2.1 = "Z") && !(q.2.1 k).2.2.2
    | some (n + 2) => decide (n < mw_sh.length)
    | none => false)
  | none => false
def mw_okC (c : mw_Sh) : Bool := match c with
  | .inl x => mw_okF x
  | .inr (.inl (t, n)) => decide (t < 3) && decide (n < 1000000)
  | .inr (.inr (t, ids)) => (decide (t = 3) || decide (t = 4)) && (decide (ids.length < 1000000) && ids.all (fun n => decide (n < mw_sh.length)))
set_option maxRecDepth 100000 in
theorem mw_okC_all : mw_sh.all mw_okC = true := by decide +kernel
def mw_nM : List (String × Nat × Nat × String) := [("LateMirror$Past", 23, 169, "LateMirror"), ("LateMirror$Seeker", 41, 169, "LateMirror"), ("LateMirror$Guess", 56, 169, "LateMirror"), ("LateMirror$Image", 26, 169, "LateMirror")]
def mw_nF : List (String × Nat) := [("LateMirror$Stage", 22), ("LateMirror$Seeker", 53), ("LateMirror$Guess", 70)]
def mw_sR : List (String × Nat × String × Nat) := [("LateMirror$Reader", 278, ";:+-*()[]=<>", 0), ("LateMirror$Reader", 56, "deep", 1), ("LateMirror$Reader", 66, "person", 2), ("LateMirror$Reader", 115, "late", 3), ("LateMirror$Reader", 71, "thing", 4), ("LateMirror$Reader", 121, "there", 5), ("LateMirror$Reader", 76, "rule", 6), ("LateMirror$Reader", 165, "do", 7), ("LateMirror$Reader", 197, "not", 8), ("LateMirror$Reader", 225, "at", 9), ("LateMirror$Reader", 226, "mine", 10), ("LateMirror$Reader", 228, "left", 11), ("LateMirror$Reader", 230, "right", 12), ("LateMirror$Reader", 232, "bored", 13), ("LateMirror$Reader", 214, "and", 14), ("LateMirror$Reader", 216, "or", 15), ("LateMirror$Reader", 234, "stay", 16), ("LateMirror$Reader", 236, "to", 17), ("LateMirror$Reader", 238, "fro", 18), ("LateMirror$Reader", 240, "takel", 19), ("LateMirror$Reader", 242, "taker", 20), ("LateMirror$Reader", 244, "putl", 21), ("LateMirror$Reader", 246, "putr", 22), ("LateMirror$Reader", 248, "reachl", 23), ("LateMirror$Reader", 250, "reachr", 24), ("LateMirror$Reader", 81, "miss", 25), ("LateMirrorModel", 103, " stay to fro takel taker putl putr reachl reachr deep person late thing there rule do miss or and not at mine left right bored ", 26), ("LateMirrorModel", 141, ";:+-*()[]=<>", 27)]
set_option maxRecDepth 100000 in
theorem mw_nT_ok : mw_nT.map (fun e => (mw_own e.1, e.1 % 10000, e.2, "LateMirror")) = mw_nM := by decide +kernel
set_option maxRecDepth 100000 in
theorem mw_sT_ok : mw_sT.map (fun e => (mw_own e.1, e.1 % 10000, e.2)) = mw_sR.map (fun e => (e.1, e.2.1, e.2.2.2)) := by decide +kernel
set_option maxRecDepth 100000 in
theorem mw_gT_ok : mw_gT.all (fun e => decide (e.2 = 0 → Cond.fieldLink (mw_own e.1) (e.1 % 10000) "LateMirror" "NINES" "[I" ∈ lw_tbl) && (decide (e.2 = 1 → Cond.fieldLink (mw_own e.1) (e.1 % 10000) "java/lang/String" "COMPACT_STRINGS" "Z" ∈ lw_tbl) && (decide (e.2 = 2 → Cond.fieldLink (mw_own e.1) (e.1 % 10000) "jdk/internal/util/Preconditions" "SIOOBE_FORMATTER" "Ljava/util/function/BiFunction;" ∈ lw_tbl) && decide (e.2 = 3 → (mw_own e.1, e.1 % 10000) ∈ mw_nF)))) = true := by decide +kernel
