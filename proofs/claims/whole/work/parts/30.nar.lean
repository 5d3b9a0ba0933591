/-! ===== where the words of the start stand ===== -/
def mi_nar : List Cond := flatC (Jvm.Cond.and given_1 narrow_1)
def mi_pS : List Nat := [432, 451, 471, 786, 795, 764, 760, 800, 809, 781, 772, 751, 818, 828, 837, 843, 852, 857, 866, 874, 881, 889, 897, 905, 911, 919, 928, 936, 945, 951, 961, 968, 977, 497, 504, 512, 521, 529, 482, 539, 547, 554, 562, 570, 578, 586, 595, 603, 611, 619, 626, 633, 640, 647, 655, 664, 672, 680, 688, 704, 712, 721, 731, 740]
def mi_tS (i : Nat) : Term := .string (mi_str.getD i ("", 0, "")).1 (mi_str.getD i ("", 0, "")).2.1
theorem mi_nS1 : ∀ i : Fin 64, mi_nar[mi_pS.getD i 0]? = some (Cond.exactly (mi_tS i) "java/lang/String") := by decide +kernel
theorem mi_nS2 : ∀ i : Fin 64, mi_nar[mi_pS.getD i 0 + 1]? = some (Cond.eq (.field (mi_tS i) "java/lang/String" "coder" "B") (.int 0)) := by decide +kernel
theorem mi_nS3 : ∀ i : Fin 64, mi_nar[mi_pS.getD i 0 + 2]? = some (Cond.arrayOf (.field (mi_tS i) "java/lang/String" "value" "[B") .byte) := by decide +kernel
theorem mi_nS4 : ∀ i : Fin 64, mi_nar[mi_pS.getD i 0 + 3]? = some (Cond.eq (.length (.field (mi_tS i) "java/lang/String" "value" "[B")) (.int (Int32.ofNat (mi_len.getD i 0)))) := by decide +kernel
theorem mi_nS5 : ∀ (i : Fin 64) (j : Fin 16), (j : Nat) < mi_len.getD i 0 → mi_nar[mi_pS.getD i 0 + 4 + j]? = some (Cond.eq (.elem (.field (mi_tS i) "java/lang/String" "value" "[B") (.int (Int32.ofNat j))) (.int ((mi_chr.getD i []).getD j 0))) := by decide +kernel
theorem mi_nS6 : ∀ i : Fin 64, mi_len.getD i 0 ≤ 16 := by decide +kernel
def mi_pR : List Nat := [624, 663, 687, 1890, 1891, 1871, 1870, 1892, 1893, 1873, 1872, 1869, 1894, 1895, 1896, 1897, 1898, 1899, 1900, 1901, 1902, 1903, 1904, 1905, 1906, 1907, 1908, 1909, 1910, 1911, 1912, 1913, 1914, 963, 964, 974, 975, 976, 853, 1438, 1444, 1445, 1446, 1447, 1448, 1449, 1450, 1451, 1452, 1453, 1454, 1455, 1456, 1457, 1458, 1459, 1460, 1461, 1489, 1524, 1529, 1541, 1542, 1543]
theorem mi_nR : ∀ i : Fin 64, lw_tbl[mi_pR.getD i 0]? = some (Cond.stringRef (mi_str.getD i ("", 0, "")).1 (mi_str.getD i ("", 0, "")).2.1 (mi_str.getD i ("", 0, "")).2.2) := by decide +kernel
def mi_tE (i : Nat) : Term := .static RX3 (mi_opN.getD i "") "LMendedProgram$Op;"
def mi_pE : List Nat := [86, 44, 93, 101, 49, 26, 110, 120, 131, 143, 156, 170, 185, 201, 218, 236, 255, 275, 296]
theorem mi_nE1 : ∀ i : Fin 19, mi_nar[mi_pE.getD i 0]? = some (Cond.exactly (mi_tE i) RX3) := by decide +kernel
def mi_pO : List Nat := [87, 45, 94, 102, 50, 27, 111, 121, 132, 144, 157, 171, 186, 202, 219, 237, 256, 276, 297]
theorem mi_nE2 : ∀ i : Fin 19, mi_nar[mi_pO.getD i 0]? = some (Cond.eq (.field (mi_tE i) "java/lang/Enum" "ordinal" "I") (.int (((List.range 19).map Int32.ofNat).getD i 0))) := by decide +kernel
def mi_pWo : List Nat := [88, 46, 95, 103, 51, 28, 112, 122, 133, 145, 158, 172, 187, 203, 220, 238, 257, 277, 298]
theorem mi_pWo_n : ∀ i : Fin 19, mi_nar[mi_pWo.getD i 0]? = some (Cond.eq (.field (mi_tE i) RX3 "word" "Ljava/lang/String;") (mi_tS (mi_wIx.getD i 0))) := by decide +kernel
def mi_pPa : List Nat := [89, 47, 96, 104, 52, 29, 113, 123, 134, 146, 159, 173, 188, 204, 221, 239, 258, 278, 299]
theorem mi_pPa_n : ∀ i : Fin 19, mi_nar[mi_pPa.getD i 0]? = some (Cond.eq (.field (mi_tE i) RX3 "parts" "Ljava/lang/String;") (mi_tS (mi_pIx.getD i 0))) := by decide +kernel
def mi_pN : List Nat := [0, 91, 100, 108, 92, 90, 117, 127, 138, 150, 163, 177, 192, 208, 225, 243, 262, 282, 303, 0, 0, 98, 106, 54, 48, 115, 125, 136, 148, 161, 175, 190, 206, 223, 241, 260, 280, 301, 0, 0, 0, 109, 99, 97, 118, 128, 139, 151, 164, 178, 193, 209, 226, 244, 263, 283, 304, 0, 0, 0, 0, 107, 105, 119, 129, 140, 152, 165, 179, 194, 210, 227, 245, 264, 284, 305, 0, 0, 0, 0, 0, 53, 116, 126, 137, 149, 162, 176, 191, 207, 224, 242, 261, 281, 302, 0, 0, 0, 0, 0, 0, 114, 124, 135, 147, 160, 174, 189, 205, 222, 240, 259, 279, 300, 0, 0, 0, 0, 0, 0, 0, 130, 141, 153, 166, 180, 195, 211, 228, 246, 265, 285, 306, 0, 0, 0, 0, 0, 0, 0, 0, 142, 154, 167, 181, 196, 212, 229, 247, 266, 286, 307, 0, 0, 0, 0, 0, 0, 0, 0, 0, 155, 168, 182, 197, 213, 230, 248, 267, 287, 308, 0, 0, 0, 0, 0, 0, 0, 0, 0, 0, 169, 183, 198, 214, 231, 249, 268, 288, 309, 0, 0, 0, 0, 0, 0, 0, 0, 0, 0, 0, 184, 199, 215, 232, 250, 269, 289, 310, 0, 0, 0, 0, 0, 0, 0, 0, 0, 0, 0, 0, 200, 216, 233, 251, 270, 290, 311, 0, 0, 0, 0, 0, 0, 0, 0, 0, 0, 0, 0, 0, 217, 234, 252, 271, 291, 312, 0, 0, 0, 0, 0, 0, 0, 0, 0, 0, 0, 0, 0, 0, 235, 253, 272, 292, 313, 0, 0, 0, 0, 0, 0, 0, 0, 0, 0, 0, 0, 0, 0, 0, 254, 273, 293, 314, 0, 0, 0, 0, 0, 0, 0, 0, 0, 0, 0, 0, 0, 0, 0, 0, 274, 294, 315, 0, 0, 0, 0, 0, 0, 0, 0, 0, 0, 0, 0, 0, 0, 0, 0, 0, 295, 316, 0, 0, 0, 0, 0, 0, 0, 0, 0, 0, 0, 0, 0, 0, 0, 0, 0, 0, 317, 0, 0, 0, 0, 0, 0, 0, 0, 0, 0, 0, 0, 0, 0, 0, 0, 0, 0, 0]
theorem mi_nE3 : ∀ i j : Fin 19, (i : Nat) < j → mi_nar[mi_pN.getD (19 * i + j) 0]? = some (Cond.not (.eq (mi_tE i) (mi_tE j))) ∨ mi_nar[mi_pN.getD (19 * i + j) 0]? = some (Cond.not (.eq (mi_tE j) (mi_tE i))) := by decide +kernel
def mi_pEl : List Nat := [1874, 553, 1875, 1876, 555, 438, 1877, 1878, 1879, 1880, 1881, 1882, 1883, 1884, 1885, 1886, 1887, 1888, 1889]
theorem mi_nE4 : ∀ i : Fin 19, lw_tbl[mi_pEl.getD i 0]? = some (Cond.laysStatic RX3 (mi_opN.getD i "") "LMendedProgram$Op;") := by decide +kernel
theorem mi_e5 : lw_tbl[117]? = some (Cond.initialized RX3) := by decide +kernel
def mi_aH_t : Term := .static RX10 "HOLDS" "[I"
theorem mi_aH_1 : mi_nar[31]? = some (Cond.arrayOf mi_aH_t .int) := by decide +kernel
theorem mi_aH_2 : mi_nar[32]? = some (Cond.eq (.length mi_aH_t) (.int (Int32.ofNat 11))) := by decide +kernel
def mi_aH_p : List Nat := [33, 34, 35, 36, 37, 38, 39, 40, 41, 42, 43]
theorem mi_aH_3 : ∀ i : Fin 11, mi_nar[mi_aH_p.getD i 0]? = some (Cond.eq (.elem mi_aH_t (.int (Int32.ofNat i))) (.int (mi_hoL.getD i 0))) := by decide +kernel
theorem mi_aH_4 : lw_tbl[476]? = some (Cond.laysStatic RX10 "HOLDS" "[I") := by decide +kernel
theorem mi_aH_5 : lw_tbl[93]? = some (Cond.initialized RX10) := by decide +kernel
def mi_aM_t : Term := .static RX0 "$SwitchMap$MendedProgram$Op" "[I"
theorem mi_aM_1 : mi_nar[5]? = some (Cond.arrayOf mi_aM_t .int) := by decide +kernel
theorem mi_aM_2 : mi_nar[6]? = some (Cond.eq (.length mi_aM_t) (.int (Int32.ofNat 19))) := by decide +kernel
def mi_aM_p : List Nat := [7, 8, 9, 10, 11, 12, 13, 14, 15, 16, 17, 18, 19, 20, 21, 22, 23, 24, 25]
theorem mi_aM_3 : ∀ i : Fin 19, mi_nar[mi_aM_p.getD i 0]? = some (Cond.eq (.elem mi_aM_t (.int (Int32.ofNat i))) (.int (mi_smL.getD i 0))) := by decide +kernel
theorem mi_aM_4 : lw_tbl[423]? = some (Cond.laysStatic RX0 "$SwitchMap$MendedProgram$Op" "[I") := by decide +kernel
theorem mi_aM_5 : lw_tbl[115]? = some (Cond.initialized RX0) := by decide +kernel
def mi_aP_t : Term := .static RX10 "OPS" "[LMendedProgram$Op;"
theorem mi_aP_1 : mi_nar[59]? = some (Cond.arrayOf mi_aP_t (.object RX3)) := by decide +kernel
theorem mi_aP_2 : mi_nar[60]? = some (Cond.eq (.length mi_aP_t) (.int (Int32.ofNat 19))) := by decide +kernel
def mi_aP_p : List Nat := [62, 63, 64, 65, 66, 67, 68, 69, 70, 71, 72, 73, 74, 75, 76, 77, 78, 79, 80]
theorem mi_aP_3 : ∀ i : Fin 19, mi_nar[mi_aP_p.getD i 0]? = some (Cond.eq (.elem mi_aP_t (.int (Int32.ofNat i))) (mi_tE i)) := by decide +kernel
theorem mi_aP_4 : lw_tbl[745]? = some (Cond.laysStatic RX10 "OPS" "[LMendedProgram$Op;") := by decide +kernel
theorem mi_aP_5 : lw_tbl[93]? = some (Cond.initialized RX10) := by decide +kernel
theorem mi_o1 : mi_nar[81]? = some (Cond.eq (.static RJ0 "COMPACT_STRINGS" "Z") (.int 1)) := by decide +kernel
theorem mi_o2 : lw_tbl[763]? = some (Cond.laysStatic RJ0 "COMPACT_STRINGS" "Z") := by decide +kernel
theorem mi_o3 : lw_tbl[107]? = some (Cond.initialized RJ0) := by decide +kernel
theorem mi_o4 : mi_nar[82]? = some (Cond.isRef (.static "jdk/internal/util/Preconditions" "SIOOBE_FORMATTER" "Ljava/util/function/BiFunction;")) := by decide +kernel
theorem mi_o5 : lw_tbl[779]? = some (Cond.laysStatic "jdk/internal/util/Preconditions" "SIOOBE_FORMATTER" "Ljava/util/function/BiFunction;") := by decide +kernel
theorem mi_o6 : lw_tbl[109]? = some (Cond.initialized "jdk/internal/util/Preconditions") := by decide +kernel
theorem mi_o7 : mi_nar[55]? = some (Cond.isRef (.static Bundle.tN "UNASSIGNED_STACK" Bundle.steD)) := by decide +kernel
theorem mi_o8 : lw_tbl[610]? = some (Cond.laysStatic Bundle.tN "UNASSIGNED_STACK" Bundle.steD) := by decide +kernel
theorem mi_o9 : mi_nar[56]? = some (Cond.isRef (.static Bundle.tN "SUPPRESSED_SENTINEL" Bundle.listD)) := by decide +kernel
theorem mi_o10 : lw_tbl[612]? = some (Cond.laysStatic Bundle.tN "SUPPRESSED_SENTINEL" Bundle.listD) := by decide +kernel
theorem mi_o11 : lw_tbl[100]? = some (Cond.initialized Bundle.tN) := by decide +kernel
theorem mi_o12 : mi_nar[325]? = some (Cond.not (.castable "java/lang/IllegalArgumentException" "java/util/NoSuchElementException")) := by decide +kernel
theorem mi_o13 : mi_nar[326]? = some (Cond.not (.castable "java/lang/IllegalStateException" "java/util/NoSuchElementException")) := by decide +kernel
theorem mi_o14 : mi_nar[339]? = some (Cond.not (.castable "java/lang/IllegalStateException" "java/lang/IllegalArgumentException")) := by decide +kernel
theorem mi_o15 : lw_tbl[135]? = some (Cond.arrayOver (.object RX1)) := by decide +kernel
theorem mi_o16 : lw_tbl[169]? = some (Cond.arrayOver (.object RX2)) := by decide +kernel
theorem mi_o17 : lw_tbl[137]? = some (Cond.arrayOver (.object RX4)) := by decide +kernel
theorem mi_o18 : lw_tbl[139]? = some (Cond.arrayOver (.object RX6)) := by decide +kernel
theorem mi_o19 : lw_tbl[141]? = some (Cond.arrayOver (.object RX7)) := by decide +kernel
theorem mi_o20 : lw_tbl[1279]? = some (Cond.arrayOver (.array .int)) := by decide +kernel
theorem mi_o21 : lw_tbl[1278]? = some (Cond.arrayOver (.array (.array .int))) := by decide +kernel
theorem mi_o22 : lw_tbl[1282]? = some (Cond.arrayOver (.array .long)) := by decide +kernel
theorem mi_o23 : lw_tbl[162]? = some (Cond.arrayClass .int) := by decide +kernel
theorem mi_o24 : lw_tbl[204]? = some (Cond.arrayClass .long) := by decide +kernel
theorem mi_o25 : lw_tbl[161]? = some (Cond.arrayClass .byte) := by decide +kernel
