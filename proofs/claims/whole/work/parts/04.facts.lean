/-! what a program decides about each row of the data; written by wip/whole/gen_tables.py -/
def gTB : List Cond := lw_tbl.filter goodWord
def gisN (w : Cond) : Bool := match w with
  | .fieldLinkNest _ _ _ _ _ _ => true
  | .methodLinkNest _ _ _ _ => true
  | _ => false
def gNest : List Cond := tables_1.filter gisN
theorem gTB_in {w : Cond} (h : w ∈ tables_1) (hg : goodWord w = true) : w ∈ gTB := List.mem_filter.mpr ⟨List.mem_append_right _ h, hg⟩
theorem gTB_at {w : Cond} (i : Nat) (h : tables_1[i]? = some w) (hg : goodWord w = true) : w ∈ gTB := gTB_in (List.mem_of_getElem? h) hg
theorem gTB_tbl {w : Cond} (h : w ∈ gTB) : w ∈ lw_tbl := (List.mem_filter.mp h).1
theorem gTB_good {w : Cond} (h : w ∈ gTB) : goodWord w = true := (List.mem_filter.mp h).2
theorem gNest_at {w : Cond} (i : Nat) (h : tables_1[i]? = some w) (hg : gisN w = true) : w ∈ gNest := List.mem_filter.mpr ⟨List.mem_of_getElem? h, hg⟩
def gown (o : Nat) : String := gCN.getD o ""
def gcl (ci : Nat) : vw_C := gCL.getD ci ("", TX0, 0)
/-- the word of a field link -/
def gflw (o idx ci j nest : Nat) : Cond := if nest = 0 then .fieldLink (gown o) idx (gcl ci).1 ((gcl ci).2.1 j).2.1 ((gcl ci).2.1 j).2.2.1 else .fieldLinkNest (gown o) idx (gcl ci).1 ((gcl ci).2.1 j).2.1 ((gcl ci).2.1 j).2.2.1 "GatedDevices"
def gfl_ok (o : Nat) (e : Nat × Nat × Nat × Nat × Nat) : Bool := match e with
  | (idx, ci, j, nest, p) => decide (ci < gCL.length) && decide (j < (gcl ci).2.2) && decide (((gcl ci).2.1 j).1 = (gcl ci).1) && decide (tables_1[p]? = some (gflw o idx ci j nest))
theorem gfl_all : ((List.range gFL.length).all fun o => (gFL.getD o []).all fun e => gfl_ok o e) = true := by decide +kernel
def gmlw (o idx M s : Nat) : Cond := if s = 0 ∨ s = 2 then .methodLink (gown o) idx (mY M) else .methodLinkNest (gown o) idx (mY M) "GatedDevices"
def gml_ok (o : Nat) (e : Nat × Nat × Nat × Nat × Nat × Nat) : Bool := match e with
  | (idx, M, s, p, q, r) => decide (M < gMT.length) && decide (s < 4) && decide (tables_1[p]? = some (gmlw o idx M s)) && decide (tables_1[q]? = some (if s < 2 then .instanceMethod (mY M) else .static (mY M))) &&
    (decide (2 ≤ s) || (if r % 2 = 0 then decide (tables_1[r / 2]? = some (.selects (mY M).cls (mY M) (mY M))) else decide ((lw_privs[r / 2]?).map (fun q => q.1) = some (mY M))))
def gmx_ok (o : Nat) (e : Nat × Nat × Nat) : Bool := decide (tables_1[e.2.2]? = some (.methodLink (gown o) e.1 (if e.2.1 = 0 then Lib.Math.min.name else Lib.Math.max.name)))
theorem gmx_all : ((List.range gMX.length).all fun o => (gMX.getD o []).all fun e => gmx_ok o e) = true := by decide +kernel
theorem gkc_all : ((List.range gKC.length).all fun o => (gKC.getD o []).all fun e => decide (tables_1[e.2.2]? = some (.constant (gown o) e.1 (Int32.ofInt e.2.1))) && goodWord (.constant (gown o) e.1 (Int32.ofInt e.2.1))) = true := by decide +kernel
theorem gkl_all : ((List.range gKL.length).all fun o => (gKL.getD o []).all fun e => decide (tables_1[e.2.2]? = some (.constantLong (gown o) e.1 (Int64.ofInt e.2.1))) && goodWord (.constantLong (gown o) e.1 (Int64.ofInt e.2.1))) = true := by decide +kernel
def gmt_ok (M : Nat) : Bool := plainName (mY M).cls && decide ((mY M).cls = gown (mO M)) && decide ((mY M).cls ≠ "java/lang/invoke/MethodHandle") && decide ((mY M).cls ≠ "java/lang/invoke/VarHandle") &&
  (parseMethodDescriptor (mY M).desc).isSome && decide (tables_1[gCP.getD M 0]? = some (.code (mY M) (mB M) (mL M) (mT M))) && decide (tables_1[gIN.getD (mO M) 0]? = some (.initialized (mY M).cls)) && decide (gret (mT M) < 4)
theorem gml_0_0 : gml_ok 0 (28, 45, 3, 1234, 596, 0) = true := by decide +kernel
theorem gml_0_1 : gml_ok 0 (32, 43, 3, 911, 464, 0) = true := by decide +kernel
theorem gml_0_2 : gml_ok 0 (36, 140, 0, 907, 909, 77) = true := by decide +kernel
theorem gml_0_3 : gml_ok 0 (40, 145, 0, 912, 914, 79) = true := by decide +kernel
theorem gml_0_4 : gml_ok 0 (44, 144, 0, 970, 972, 89) = true := by decide +kernel
theorem gml_0_5 : gml_ok 0 (48, 44, 3, 974, 442, 0) = true := by decide +kernel
theorem gml_0_6 : gml_ok 0 (52, 47, 3, 916, 871, 0) = true := by decide +kernel
theorem gml_0_c0 : ∀ e ∈ ([(28, 45, 3, 1234, 596, 0), (32, 43, 3, 911, 464, 0), (36, 140, 0, 907, 909, 77), (40, 145, 0, 912, 914, 79), (44, 144, 0, 970, 972, 89), (48, 44, 3, 974, 442, 0), (52, 47, 3, 916, 871, 0)] : List (Nat × Nat × Nat × Nat × Nat × Nat)), gml_ok 0 e = true := List.forall_mem_cons.mpr ⟨gml_0_0, List.forall_mem_cons.mpr ⟨gml_0_1, List.forall_mem_cons.mpr ⟨gml_0_2, List.forall_mem_cons.mpr ⟨gml_0_3, List.forall_mem_cons.mpr ⟨gml_0_4, List.forall_mem_cons.mpr ⟨gml_0_5, List.forall_mem_cons.mpr ⟨gml_0_6, List.forall_mem_nil _⟩⟩⟩⟩⟩⟩⟩
theorem gml_r0 : ∀ e ∈ gML.getD 0 [], gml_ok 0 e = true := gml_0_c0
theorem gml_1_0 : gml_ok 1 (25, 46, 3, 623, 457, 0) = true := by decide +kernel
theorem gml_1_1 : gml_ok 1 (29, 45, 3, 1224, 596, 0) = true := by decide +kernel
theorem gml_1_2 : gml_ok 1 (33, 43, 3, 703, 464, 0) = true := by decide +kernel
theorem gml_1_3 : gml_ok 1 (37, 121, 0, 929, 700, 1402) = true := by decide +kernel
theorem gml_1_4 : gml_ok 1 (41, 44, 3, 716, 442, 0) = true := by decide +kernel
theorem gml_1_5 : gml_ok 1 (47, 127, 0, 930, 932, 81) = true := by decide +kernel
theorem gml_1_6 : gml_ok 1 (51, 126, 0, 925, 926, 1854) = true := by decide +kernel
theorem gml_1_c0 : ∀ e ∈ ([(25, 46, 3, 623, 457, 0), (29, 45, 3, 1224, 596, 0), (33, 43, 3, 703, 464, 0), (37, 121, 0, 929, 700, 1402), (41, 44, 3, 716, 442, 0), (47, 127, 0, 930, 932, 81), (51, 126, 0, 925, 926, 1854)] : List (Nat × Nat × Nat × Nat × Nat × Nat)), gml_ok 1 e = true := List.forall_mem_cons.mpr ⟨gml_1_0, List.forall_mem_cons.mpr ⟨gml_1_1, List.forall_mem_cons.mpr ⟨gml_1_2, List.forall_mem_cons.mpr ⟨gml_1_3, List.forall_mem_cons.mpr ⟨gml_1_4, List.forall_mem_cons.mpr ⟨gml_1_5, List.forall_mem_cons.mpr ⟨gml_1_6, List.forall_mem_nil _⟩⟩⟩⟩⟩⟩⟩
theorem gml_r1 : ∀ e ∈ gML.getD 1 [], gml_ok 1 e = true := gml_1_c0
theorem gml_2_0 : gml_ok 2 (46, 45, 3, 1244, 596, 0) = true := by decide +kernel
theorem gml_2_1 : gml_ok 2 (50, 166, 0, 694, 695, 1392) = true := by decide +kernel
theorem gml_2_2 : gml_ok 2 (54, 44, 3, 698, 442, 0) = true := by decide +kernel
theorem gml_2_3 : gml_ok 2 (58, 43, 3, 1055, 464, 0) = true := by decide +kernel
theorem gml_2_4 : gml_ok 2 (62, 170, 2, 987, 988, 0) = true := by decide +kernel
theorem gml_2_c0 : ∀ e ∈ ([(46, 45, 3, 1244, 596, 0), (50, 166, 0, 694, 695, 1392), (54, 44, 3, 698, 442, 0), (58, 43, 3, 1055, 464, 0), (62, 170, 2, 987, 988, 0)] : List (Nat × Nat × Nat × Nat × Nat × Nat)), gml_ok 2 e = true := List.forall_mem_cons.mpr ⟨gml_2_0, List.forall_mem_cons.mpr ⟨gml_2_1, List.forall_mem_cons.mpr ⟨gml_2_2, List.forall_mem_cons.mpr ⟨gml_2_3, List.forall_mem_cons.mpr ⟨gml_2_4, List.forall_mem_nil _⟩⟩⟩⟩⟩
theorem gml_r2 : ∀ e ∈ gML.getD 2 [], gml_ok 2 e = true := gml_2_c0
theorem gml_3_0 : gml_ok 3 (37, 45, 3, 1229, 596, 0) = true := by decide +kernel
theorem gml_3_1 : gml_ok 3 (41, 44, 3, 792, 442, 0) = true := by decide +kernel
theorem gml_3_2 : gml_ok 3 (45, 132, 0, 788, 790, 61) = true := by decide +kernel
theorem gml_3_3 : gml_ok 3 (49, 47, 3, 938, 871, 0) = true := by decide +kernel
theorem gml_3_4 : gml_ok 3 (52, 43, 3, 1177, 464, 0) = true := by decide +kernel
theorem gml_3_c0 : ∀ e ∈ ([(37, 45, 3, 1229, 596, 0), (41, 44, 3, 792, 442, 0), (45, 132, 0, 788, 790, 61), (49, 47, 3, 938, 871, 0), (52, 43, 3, 1177, 464, 0)] : List (Nat × Nat × Nat × Nat × Nat × Nat)), gml_ok 3 e = true := List.forall_mem_cons.mpr ⟨gml_3_0, List.forall_mem_cons.mpr ⟨gml_3_1, List.forall_mem_cons.mpr ⟨gml_3_2, List.forall_mem_cons.mpr ⟨gml_3_3, List.forall_mem_cons.mpr ⟨gml_3_4, List.forall_mem_nil _⟩⟩⟩⟩⟩
theorem gml_r3 : ∀ e ∈ gML.getD 3 [], gml_ok 3 e = true := gml_3_c0
theorem gml_4_0 : gml_ok 4 (29, 44, 3, 441, 442, 0) = true := by decide +kernel
theorem gml_4_1 : gml_ok 4 (33, 48, 0, 452, 453, 908) = true := by decide +kernel
theorem gml_4_2 : gml_ok 4 (55, 86, 0, 459, 461, 1) = true := by decide +kernel
theorem gml_4_3 : gml_ok 4 (61, 70, 0, 484, 486, 7) = true := by decide +kernel
theorem gml_4_4 : gml_ok 4 (65, 84, 0, 488, 490, 9) = true := by decide +kernel
theorem gml_4_5 : gml_ok 4 (72, 71, 0, 492, 494, 11) = true := by decide +kernel
theorem gml_4_6 : gml_ok 4 (75, 72, 0, 546, 548, 29) = true := by decide +kernel
theorem gml_4_7 : gml_ok 4 (78, 73, 0, 554, 556, 31) = true := by decide +kernel
theorem gml_4_8 : gml_ok 4 (81, 74, 0, 566, 568, 35) = true := by decide +kernel
theorem gml_4_9 : gml_ok 4 (84, 75, 0, 574, 576, 37) = true := by decide +kernel
theorem gml_4_10 : gml_ok 4 (87, 76, 0, 578, 580, 39) = true := by decide +kernel
theorem gml_4_11 : gml_ok 4 (90, 77, 0, 582, 584, 41) = true := by decide +kernel
theorem gml_4_12 : gml_ok 4 (96, 78, 0, 496, 498, 13) = true := by decide +kernel
theorem gml_4_13 : gml_ok 4 (99, 79, 0, 516, 518, 17) = true := by decide +kernel
theorem gml_4_14 : gml_ok 4 (103, 82, 0, 529, 531, 23) = true := by decide +kernel
theorem gml_4_15 : gml_ok 4 (107, 50, 0, 533, 534, 1070) = true := by decide +kernel
theorem gml_4_16 : gml_ok 4 (111, 83, 0, 542, 544, 27) = true := by decide +kernel
theorem gml_4_17 : gml_ok 4 (117, 51, 0, 550, 551, 1104) = true := by decide +kernel
theorem gml_4_18 : gml_ok 4 (124, 80, 0, 558, 560, 33) = true := by decide +kernel
theorem gml_4_19 : gml_ok 4 (127, 53, 0, 562, 563, 1128) = true := by decide +kernel
theorem gml_4_20 : gml_ok 4 (133, 54, 0, 570, 571, 1144) = true := by decide +kernel
theorem gml_4_21 : gml_ok 4 (139, 43, 3, 463, 464, 0) = true := by decide +kernel
theorem gml_4_22 : gml_ok 4 (150, 89, 0, 500, 502, 15) = true := by decide +kernel
theorem gml_4_23 : gml_ok 4 (153, 55, 0, 504, 505, 1012) = true := by decide +kernel
theorem gml_4_24 : gml_ok 4 (157, 56, 0, 512, 513, 1028) = true := by decide +kernel
theorem gml_4_25 : gml_ok 4 (161, 81, 0, 521, 523, 19) = true := by decide +kernel
theorem gml_4_26 : gml_ok 4 (164, 85, 0, 525, 527, 21) = true := by decide +kernel
theorem gml_4_27 : gml_ok 4 (170, 90, 2, 466, 467, 0) = true := by decide +kernel
theorem gml_4_28 : gml_ok 4 (173, 87, 0, 469, 471, 3) = true := by decide +kernel
theorem gml_4_29 : gml_ok 4 (176, 91, 2, 473, 474, 0) = true := by decide +kernel
theorem gml_4_30 : gml_ok 4 (179, 88, 0, 476, 478, 5) = true := by decide +kernel
theorem gml_4_c0 : ∀ e ∈ ([(29, 44, 3, 441, 442, 0), (33, 48, 0, 452, 453, 908), (55, 86, 0, 459, 461, 1), (61, 70, 0, 484, 486, 7), (65, 84, 0, 488, 490, 9), (72, 71, 0, 492, 494, 11), (75, 72, 0, 546, 548, 29), (78, 73, 0, 554, 556, 31), (81, 74, 0, 566, 568, 35), (84, 75, 0, 574, 576, 37), (87, 76, 0, 578, 580, 39), (90, 77, 0, 582, 584, 41), (96, 78, 0, 496, 498, 13), (99, 79, 0, 516, 518, 17), (103, 82, 0, 529, 531, 23), (107, 50, 0, 533, 534, 1070), (111, 83, 0, 542, 544, 27), (117, 51, 0, 550, 551, 1104), (124, 80, 0, 558, 560, 33), (127, 53, 0, 562, 563, 1128), (133, 54, 0, 570, 571, 1144), (139, 43, 3, 463, 464, 0), (150, 89, 0, 500, 502, 15), (153, 55, 0, 504, 505, 1012), (157, 56, 0, 512, 513, 1028), (161, 81, 0, 521, 523, 19), (164, 85, 0, 525, 527, 21), (170, 90, 2, 466, 467, 0), (173, 87, 0, 469, 471, 3), (176, 91, 2, 473, 474, 0)] : List (Nat × Nat × Nat × Nat × Nat × Nat)), gml_ok 4 e = true := List.forall_mem_cons.mpr ⟨gml_4_0, List.forall_mem_cons.mpr ⟨gml_4_1, List.forall_mem_cons.mpr ⟨gml_4_2, List.forall_mem_cons.mpr ⟨gml_4_3, List.forall_mem_cons.mpr ⟨gml_4_4, List.forall_mem_cons.mpr ⟨gml_4_5, List.forall_mem_cons.mpr ⟨gml_4_6, List.forall_mem_cons.mpr ⟨gml_4_7, List.forall_mem_cons.mpr ⟨gml_4_8, List.forall_mem_cons.mpr ⟨gml_4_9, List.forall_mem_cons.mpr ⟨gml_4_10, List.forall_mem_cons.mpr ⟨gml_4_11, List.forall_mem_cons.mpr ⟨gml_4_12, List.forall_mem_cons.mpr ⟨gml_4_13, List.forall_mem_cons.mpr ⟨gml_4_14, List.forall_mem_cons.mpr ⟨gml_4_15, List.forall_mem_cons.mpr ⟨gml_4_16, List.forall_mem_cons.mpr ⟨gml_4_17, List.forall_mem_cons.mpr ⟨gml_4_18, List.forall_mem_cons.mpr ⟨gml_4_19, List.forall_mem_cons.mpr ⟨gml_4_20, List.forall_mem_cons.mpr ⟨gml_4_21, List.forall_mem_cons.mpr ⟨gml_4_22, List.forall_mem_cons.mpr ⟨gml_4_23, List.forall_mem_cons.mpr ⟨gml_4_24, List.forall_mem_cons.mpr ⟨gml_4_25, List.forall_mem_cons.mpr ⟨gml_4_26, List.forall_mem_cons.mpr ⟨gml_4_27, List.forall_mem_cons.mpr ⟨gml_4_28, List.forall_mem_cons.mpr ⟨gml_4_29, List.forall_mem_nil _⟩⟩⟩⟩⟩⟩⟩⟩⟩⟩⟩⟩⟩⟩⟩⟩⟩⟩⟩⟩⟩⟩⟩⟩⟩⟩⟩⟩⟩⟩
theorem gml_4_c1 : ∀ e ∈ ([(179, 88, 0, 476, 478, 5)] : List (Nat × Nat × Nat × Nat × Nat × Nat)), gml_ok 4 e = true := List.forall_mem_cons.mpr ⟨gml_4_30, List.forall_mem_nil _⟩
theorem gml_r4 : ∀ e ∈ gML.getD 4 [], gml_ok 4 e = true := List.forall_mem_append.mpr ⟨gml_4_c0, gml_4_c1⟩
theorem gml_5_0 : gml_ok 5 (40, 45, 3, 1239, 596, 0) = true := by decide +kernel
theorem gml_5_1 : gml_ok 5 (44, 44, 3, 1003, 442, 0) = true := by decide +kernel
theorem gml_5_2 : gml_ok 5 (48, 47, 3, 870, 871, 0) = true := by decide +kernel
theorem gml_5_3 : gml_ok 5 (51, 43, 3, 865, 464, 0) = true := by decide +kernel
theorem gml_5_4 : gml_ok 5 (55, 153, 0, 866, 868, 71) = true := by decide +kernel
theorem gml_5_5 : gml_ok 5 (59, 154, 0, 1012, 1013, 2028) = true := by decide +kernel
theorem gml_5_6 : gml_ok 5 (63, 161, 0, 1267, 1268, 2538) = true := by decide +kernel
theorem gml_5_7 : gml_ok 5 (66, 162, 0, 1271, 1273, 97) = true := by decide +kernel
theorem gml_5_c0 : ∀ e ∈ ([(40, 45, 3, 1239, 596, 0), (44, 44, 3, 1003, 442, 0), (48, 47, 3, 870, 871, 0), (51, 43, 3, 865, 464, 0), (55, 153, 0, 866, 868, 71), (59, 154, 0, 1012, 1013, 2028), (63, 161, 0, 1267, 1268, 2538), (66, 162, 0, 1271, 1273, 97)] : List (Nat × Nat × Nat × Nat × Nat × Nat)), gml_ok 5 e = true := List.forall_mem_cons.mpr ⟨gml_5_0, List.forall_mem_cons.mpr ⟨gml_5_1, List.forall_mem_cons.mpr ⟨gml_5_2, List.forall_mem_cons.mpr ⟨gml_5_3, List.forall_mem_cons.mpr ⟨gml_5_4, List.forall_mem_cons.mpr ⟨gml_5_5, List.forall_mem_cons.mpr ⟨gml_5_6, List.forall_mem_cons.mpr ⟨gml_5_7, List.forall_mem_nil _⟩⟩⟩⟩⟩⟩⟩⟩
theorem gml_r5 : ∀ e ∈ gML.getD 5 [], gml_ok 5 e = true := gml_5_c0
theorem gml_6_0 : gml_ok 6 (64, 49, 0, 591, 592, 1186) = true := by decide +kernel
theorem gml_6_1 : gml_ok 6 (71, 58, 0, 599, 600, 1202) = true := by decide +kernel
theorem gml_6_2 : gml_ok 6 (75, 92, 0, 614, 615, 1232) = true := by decide +kernel
theorem gml_6_3 : gml_ok 6 (78, 119, 0, 619, 620, 1242) = true := by decide +kernel
theorem gml_6_4 : gml_ok 6 (79, 129, 0, 624, 625, 1252) = true := by decide +kernel
theorem gml_6_5 : gml_ok 6 (80, 138, 0, 628, 629, 1260) = true := by decide +kernel
theorem gml_6_6 : gml_ok 6 (81, 150, 0, 632, 633, 1268) = true := by decide +kernel
theorem gml_6_7 : gml_ok 6 (82, 163, 0, 636, 637, 1276) = true := by decide +kernel
theorem gml_6_8 : gml_ok 6 (83, 46, 3, 640, 457, 0) = true := by decide +kernel
theorem gml_6_9 : gml_ok 6 (87, 93, 0, 1215, 1216, 2434) = true := by decide +kernel
theorem gml_6_10 : gml_ok 6 (90, 120, 0, 1220, 1221, 2444) = true := by decide +kernel
theorem gml_6_11 : gml_ok 6 (93, 130, 0, 1225, 1226, 2454) = true := by decide +kernel
theorem gml_6_12 : gml_ok 6 (96, 139, 0, 1230, 1231, 2464) = true := by decide +kernel
theorem gml_6_13 : gml_ok 6 (99, 151, 0, 1235, 1236, 2474) = true := by decide +kernel
theorem gml_6_14 : gml_ok 6 (102, 164, 0, 1240, 1241, 2484) = true := by decide +kernel
theorem gml_6_15 : gml_ok 6 (105, 45, 3, 1245, 596, 0) = true := by decide +kernel
theorem gml_6_16 : gml_ok 6 (109, 43, 3, 773, 464, 0) = true := by decide +kernel
theorem gml_6_17 : gml_ok 6 (117, 62, 0, 818, 819, 1640) = true := by decide +kernel
theorem gml_6_18 : gml_ok 6 (121, 44, 3, 778, 442, 0) = true := by decide +kernel
theorem gml_6_19 : gml_ok 6 (125, 102, 0, 708, 709, 1420) = true := by decide +kernel
theorem gml_6_20 : gml_ok 6 (129, 123, 0, 712, 713, 1428) = true := by decide +kernel
theorem gml_6_21 : gml_ok 6 (132, 97, 0, 764, 683, 1368) = true := by decide +kernel
theorem gml_6_22 : gml_ok 6 (136, 124, 0, 765, 766, 1534) = true := by decide +kernel
theorem gml_6_23 : gml_ok 6 (140, 105, 0, 769, 770, 1542) = true := by decide +kernel
theorem gml_6_24 : gml_ok 6 (143, 99, 0, 678, 679, 1360) = true := by decide +kernel
theorem gml_6_25 : gml_ok 6 (146, 165, 0, 690, 691, 1384) = true := by decide +kernel
theorem gml_6_26 : gml_ok 6 (149, 121, 0, 699, 700, 1402) = true := by decide +kernel
theorem gml_6_27 : gml_ok 6 (153, 177, 0, 704, 706, 47) = true := by decide +kernel
theorem gml_6_28 : gml_ok 6 (154, 104, 0, 717, 718, 1438) = true := by decide +kernel
theorem gml_6_29 : gml_ok 6 (157, 109, 0, 724, 725, 1452) = true := by decide +kernel
theorem gml_6_30 : gml_ok 6 (160, 108, 0, 748, 749, 1500) = true := by decide +kernel
theorem gml_6_31 : gml_ok 6 (163, 100, 0, 752, 753, 1508) = true := by decide +kernel
theorem gml_6_32 : gml_ok 6 (166, 131, 0, 756, 757, 1516) = true := by decide +kernel
theorem gml_6_33 : gml_ok 6 (173, 178, 0, 760, 762, 55) = true := by decide +kernel
theorem gml_6_34 : gml_ok 6 (177, 181, 0, 774, 776, 57) = true := by decide +kernel
theorem gml_6_35 : gml_ok 6 (180, 133, 0, 802, 803, 1608) = true := by decide +kernel
theorem gml_6_36 : gml_ok 6 (183, 125, 0, 793, 794, 1590) = true := by decide +kernel
theorem gml_6_37 : gml_ok 6 (190, 182, 0, 779, 781, 59) = true := by decide +kernel
theorem gml_6_38 : gml_ok 6 (195, 134, 0, 784, 785, 1572) = true := by decide +kernel
theorem gml_6_39 : gml_ok 6 (198, 135, 0, 798, 799, 1600) = true := by decide +kernel
theorem gml_6_40 : gml_ok 6 (202, 185, 0, 822, 824, 65) = true := by decide +kernel
theorem gml_6_41 : gml_ok 6 (206, 67, 0, 839, 840, 1682) = true := by decide +kernel
theorem gml_6_42 : gml_ok 6 (209, 103, 0, 845, 846, 1694) = true := by decide +kernel
theorem gml_6_43 : gml_ok 6 (212, 176, 0, 849, 851, 69) = true := by decide +kernel
theorem gml_6_44 : gml_ok 6 (221, 66, 0, 826, 827, 1656) = true := by decide +kernel
theorem gml_6_45 : gml_ok 6 (224, 186, 0, 830, 832, 67) = true := by decide +kernel
theorem gml_6_46 : gml_ok 6 (227, 166, 0, 838, 695, 1392) = true := by decide +kernel
theorem gml_6_47 : gml_ok 6 (230, 98, 0, 834, 835, 1672) = true := by decide +kernel
theorem gml_6_48 : gml_ok 6 (233, 156, 0, 861, 862, 1726) = true := by decide +kernel
theorem gml_6_49 : gml_ok 6 (236, 188, 0, 873, 875, 73) = true := by decide +kernel
theorem gml_6_50 : gml_ok 6 (244, 190, 0, 899, 901, 75) = true := by decide +kernel
theorem gml_6_51 : gml_ok 6 (256, 146, 0, 903, 904, 1810) = true := by decide +kernel
theorem gml_6_52 : gml_ok 6 (259, 147, 0, 917, 918, 1838) = true := by decide +kernel
theorem gml_6_53 : gml_ok 6 (265, 128, 0, 921, 922, 1846) = true := by decide +kernel
theorem gml_6_54 : gml_ok 6 (271, 136, 0, 934, 935, 1872) = true := by decide +kernel
theorem gml_6_55 : gml_ok 6 (274, 126, 0, 1206, 926, 1854) = true := by decide +kernel
theorem gml_6_56 : gml_ok 6 (277, 141, 0, 954, 955, 1912) = true := by decide +kernel
theorem gml_6_57 : gml_ok 6 (281, 193, 0, 958, 960, 85) = true := by decide +kernel
theorem gml_6_58 : gml_ok 6 (290, 143, 0, 975, 976, 1954) = true := by decide +kernel
theorem gml_6_59 : gml_ok 6 (296, 194, 0, 962, 964, 87) = true := by decide +kernel
theorem gml_6_60 : gml_ok 6 (305, 142, 0, 966, 967, 1936) = true := by decide +kernel
theorem gml_6_61 : gml_ok 6 (316, 195, 0, 1137, 1139, 95) = true := by decide +kernel
theorem gml_6_62 : gml_ok 6 (320, 192, 0, 950, 952, 83) = true := by decide +kernel
theorem gml_6_63 : gml_ok 6 (323, 64, 0, 979, 980, 1962) = true := by decide +kernel
theorem gml_6_64 : gml_ok 6 (326, 169, 0, 983, 984, 1970) = true := by decide +kernel
theorem gml_6_65 : gml_ok 6 (329, 200, 0, 991, 993, 91) = true := by decide +kernel
theorem gml_6_66 : gml_ok 6 (336, 155, 0, 995, 996, 1994) = true := by decide +kernel
theorem gml_6_67 : gml_ok 6 (339, 152, 0, 999, 1000, 2002) = true := by decide +kernel
theorem gml_6_68 : gml_ok 6 (342, 158, 0, 1024, 1025, 2052) = true := by decide +kernel
theorem gml_6_69 : gml_ok 6 (355, 159, 0, 1028, 1029, 2060) = true := by decide +kernel
theorem gml_6_70 : gml_ok 6 (367, 189, 0, 1250, 895, 1792) = true := by decide +kernel
theorem gml_6_71 : gml_ok 6 (370, 122, 0, 1251, 1252, 2506) = true := by decide +kernel
theorem gml_6_72 : gml_ok 6 (373, 160, 0, 1263, 1264, 2530) = true := by decide +kernel
theorem gml_6_73 : gml_ok 6 (376, 201, 0, 1275, 1021, 2044) = true := by decide +kernel
theorem gml_6_74 : gml_ok 6 (383, 117, 0, 1281, 1037, 2076) = true := by decide +kernel
theorem gml_6_75 : gml_ok 6 (386, 110, 0, 1282, 1283, 2568) = true := by decide +kernel
theorem gml_6_76 : gml_ok 6 (389, 207, 2, 1295, 1296, 0) = true := by decide +kernel
theorem gml_6_c0 : ∀ e ∈ ([(64, 49, 0, 591, 592, 1186), (71, 58, 0, 599, 600, 1202), (75, 92, 0, 614, 615, 1232), (78, 119, 0, 619, 620, 1242), (79, 129, 0, 624, 625, 1252), (80, 138, 0, 628, 629, 1260), (81, 150, 0, 632, 633, 1268), (82, 163, 0, 636, 637, 1276), (83, 46, 3, 640, 457, 0), (87, 93, 0, 1215, 1216, 2434), (90, 120, 0, 1220, 1221, 2444), (93, 130, 0, 1225, 1226, 2454), (96, 139, 0, 1230, 1231, 2464), (99, 151, 0, 1235, 1236, 2474), (102, 164, 0, 1240, 1241, 2484), (105, 45, 3, 1245, 596, 0), (109, 43, 3, 773, 464, 0), (117, 62, 0, 818, 819, 1640), (121, 44, 3, 778, 442, 0), (125, 102, 0, 708, 709, 1420), (129, 123, 0, 712, 713, 1428), (132, 97, 0, 764, 683, 1368), (136, 124, 0, 765, 766, 1534), (140, 105, 0, 769, 770, 1542), (143, 99, 0, 678, 679, 1360), (146, 165, 0, 690, 691, 1384), (149, 121, 0, 699, 700, 1402), (153, 177, 0, 704, 706, 47), (154, 104, 0, 717, 718, 1438), (157, 109, 0, 724, 725, 1452)] : List (Nat × Nat × Nat × Nat × Nat × Nat)), gml_ok 6 e = true := List.forall_mem_cons.mpr ⟨gml_6_0, List.forall_mem_cons.mpr ⟨gml_6_1, List.forall_mem_cons.mpr ⟨gml_6_2, List.forall_mem_cons.mpr ⟨gml_6_3, List.forall_mem_cons.mpr ⟨gml_6_4, List.forall_mem_cons.mpr ⟨gml_6_5, List.forall_mem_cons.mpr ⟨gml_6_6, List.forall_mem_cons.mpr ⟨gml_6_7, List.forall_mem_cons.mpr ⟨gml_6_8, List.forall_mem_cons.mpr ⟨gml_6_9, List.forall_mem_cons.mpr ⟨gml_6_10, List.forall_mem_cons.mpr ⟨gml_6_11, List.forall_mem_cons.mpr ⟨gml_6_12, List.forall_mem_cons.mpr ⟨gml_6_13, List.forall_mem_cons.mpr ⟨gml_6_14, List.forall_mem_cons.mpr ⟨gml_6_15, List.forall_mem_cons.mpr ⟨gml_6_16, List.forall_mem_cons.mpr ⟨gml_6_17, List.forall_mem_cons.mpr ⟨gml_6_18, List.forall_mem_cons.mpr ⟨gml_6_19, List.forall_mem_cons.mpr ⟨gml_6_20, List.forall_mem_cons.mpr ⟨gml_6_21, List.forall_mem_cons.mpr ⟨gml_6_22, List.forall_mem_cons.mpr ⟨gml_6_23, List.forall_mem_cons.mpr ⟨gml_6_24, List.forall_mem_cons.mpr ⟨gml_6_25, List.forall_mem_cons.mpr ⟨gml_6_26, List.forall_mem_cons.mpr ⟨gml_6_27, List.forall_mem_cons.mpr ⟨gml_6_28, List.forall_mem_cons.mpr ⟨gml_6_29, List.forall_mem_nil _⟩⟩⟩⟩⟩⟩⟩⟩⟩⟩⟩⟩⟩⟩⟩⟩⟩⟩⟩⟩⟩⟩⟩⟩⟩⟩⟩⟩⟩⟩
theorem gml_6_c1 : ∀ e ∈ ([(160, 108, 0, 748, 749, 1500), (163, 100, 0, 752, 753, 1508), (166, 131, 0, 756, 757, 1516), (173, 178, 0, 760, 762, 55), (177, 181, 0, 774, 776, 57), (180, 133, 0, 802, 803, 1608), (183, 125, 0, 793, 794, 1590), (190, 182, 0, 779, 781, 59), (195, 134, 0, 784, 785, 1572), (198, 135, 0, 798, 799, 1600), (202, 185, 0, 822, 824, 65), (206, 67, 0, 839, 840, 1682), (209, 103, 0, 845, 846, 1694), (212, 176, 0, 849, 851, 69), (221, 66, 0, 826, 827, 1656), (224, 186, 0, 830, 832, 67), (227, 166, 0, 838, 695, 1392), (230, 98, 0, 834, 835, 1672), (233, 156, 0, 861, 862, 1726), (236, 188, 0, 873, 875, 73), (244, 190, 0, 899, 901, 75), (256, 146, 0, 903, 904, 1810), (259, 147, 0, 917, 918, 1838), (265, 128, 0, 921, 922, 1846), (271, 136, 0, 934, 935, 1872), (274, 126, 0, 1206, 926, 1854), (277, 141, 0, 954, 955, 1912), (281, 193, 0, 958, 960, 85), (290, 143, 0, 975, 976, 1954), (296, 194, 0, 962, 964, 87)] : List (Nat × Nat × Nat × Nat × Nat × Nat)), gml_ok 6 e = true := List.forall_mem_cons.mpr ⟨gml_6_30, List.forall_mem_cons.mpr ⟨gml_6_31, List.forall_mem_cons.mpr ⟨gml_6_32, List.forall_mem_cons.mpr ⟨gml_6_33, List.forall_mem_cons.mpr ⟨gml_6_34, List.forall_mem_cons.mpr ⟨gml_6_35, List.forall_mem_cons.mpr ⟨gml_6_36, List.forall_mem_cons.mpr ⟨gml_6_37, List.forall_mem_cons.mpr ⟨gml_6_38, List.forall_mem_cons.mpr ⟨gml_6_39, List.forall_mem_cons.mpr ⟨gml_6_40, List.forall_mem_cons.mpr ⟨gml_6_41, List.forall_mem_cons.mpr ⟨gml_6_42, List.forall_mem_cons.mpr ⟨gml_6_43, List.forall_mem_cons.mpr ⟨gml_6_44, List.forall_mem_cons.mpr ⟨gml_6_45, List.forall_mem_cons.mpr ⟨gml_6_46, List.forall_mem_cons.mpr ⟨gml_6_47, List.forall_mem_cons.mpr ⟨gml_6_48, List.forall_mem_cons.mpr ⟨gml_6_49, List.forall_mem_cons.mpr ⟨gml_6_50, List.forall_mem_cons.mpr ⟨gml_6_51, List.forall_mem_cons.mpr ⟨gml_6_52, List.forall_mem_cons.mpr ⟨gml_6_53, List.forall_mem_cons.mpr ⟨gml_6_54, List.forall_mem_cons.mpr ⟨gml_6_55, List.forall_mem_cons.mpr ⟨gml_6_56, List.forall_mem_cons.mpr ⟨gml_6_57, List.forall_mem_cons.mpr ⟨gml_6_58, List.forall_mem_cons.mpr ⟨gml_6_59, List.forall_mem_nil _⟩⟩⟩⟩⟩⟩⟩⟩⟩⟩⟩⟩⟩⟩⟩⟩⟩⟩⟩⟩⟩⟩⟩⟩⟩⟩⟩⟩⟩⟩
theorem gml_6_c2 : ∀ e ∈ ([(305, 142, 0, 966, 967, 1936), (316, 195, 0, 1137, 1139, 95), (320, 192, 0, 950, 952, 83), (323, 64, 0, 979, 980, 1962), (326, 169, 0, 983, 984, 1970), (329, 200, 0, 991, 993, 91), (336, 155, 0, 995, 996, 1994), (339, 152, 0, 999, 1000, 2002), (342, 158, 0, 1024, 1025, 2052), (355, 159, 0, 1028, 1029, 2060), (367, 189, 0, 1250, 895, 1792), (370, 122, 0, 1251, 1252, 2506), (373, 160, 0, 1263, 1264, 2530), (376, 201, 0, 1275, 1021, 2044), (383, 117, 0, 1281, 1037, 2076), (386, 110, 0, 1282, 1283, 2568), (389, 207, 2, 1295, 1296, 0)] : List (Nat × Nat × Nat × Nat × Nat × Nat)), gml_ok 6 e = true := List.forall_mem_cons.mpr ⟨gml_6_60, List.forall_mem_cons.mpr ⟨gml_6_61, List.forall_mem_cons.mpr ⟨gml_6_62, List.forall_mem_cons.mpr ⟨gml_6_63, List.forall_mem_cons.mpr ⟨gml_6_64, List.forall_mem_cons.mpr ⟨gml_6_65, List.forall_mem_cons.mpr ⟨gml_6_66, List.forall_mem_cons.mpr ⟨gml_6_67, List.forall_mem_cons.mpr ⟨gml_6_68, List.forall_mem_cons.mpr ⟨gml_6_69, List.forall_mem_cons.mpr ⟨gml_6_70, List.forall_mem_cons.mpr ⟨gml_6_71, List.forall_mem_cons.mpr ⟨gml_6_72, List.forall_mem_cons.mpr ⟨gml_6_73, List.forall_mem_cons.mpr ⟨gml_6_74, List.forall_mem_cons.mpr ⟨gml_6_75, List.forall_mem_cons.mpr ⟨gml_6_76, List.forall_mem_nil _⟩⟩⟩⟩⟩⟩⟩⟩⟩⟩⟩⟩⟩⟩⟩⟩⟩
theorem gml_r6 : ∀ e ∈ gML.getD 6 [], gml_ok 6 e = true := List.forall_mem_append.mpr ⟨gml_6_c0, List.forall_mem_append.mpr ⟨gml_6_c1, gml_6_c2⟩⟩
theorem gml_7_0 : gml_ok 7 (34, 46, 3, 618, 457, 0) = true := by decide +kernel
theorem gml_7_1 : gml_ok 7 (38, 45, 3, 1219, 596, 0) = true := by decide +kernel
theorem gml_7_2 : gml_ok 7 (42, 44, 3, 659, 442, 0) = true := by decide +kernel
theorem gml_7_3 : gml_ok 7 (46, 95, 2, 686, 687, 0) = true := by decide +kernel
theorem gml_7_4 : gml_ok 7 (50, 43, 3, 689, 464, 0) = true := by decide +kernel
theorem gml_7_5 : gml_ok 7 (54, 97, 0, 682, 683, 1368) = true := by decide +kernel
theorem gml_7_6 : gml_ok 7 (57, 96, 2, 721, 722, 0) = true := by decide +kernel
theorem gml_7_7 : gml_ok 7 (60, 101, 0, 736, 738, 53) = true := by decide +kernel
theorem gml_7_8 : gml_ok 7 (64, 106, 0, 728, 730, 49) = true := by decide +kernel
theorem gml_7_9 : gml_ok 7 (68, 107, 0, 732, 734, 51) = true := by decide +kernel
theorem gml_7_10 : gml_ok 7 (71, 109, 0, 1286, 725, 1452) = true := by decide +kernel
theorem gml_7_11 : gml_ok 7 (75, 100, 0, 1044, 753, 1508) = true := by decide +kernel
theorem gml_7_12 : gml_ok 7 (78, 108, 0, 1101, 749, 1500) = true := by decide +kernel
theorem gml_7_13 : gml_ok 7 (81, 99, 0, 1102, 679, 1360) = true := by decide +kernel
theorem gml_7_14 : gml_ok 7 (84, 98, 0, 1045, 835, 1672) = true := by decide +kernel
theorem gml_7_15 : gml_ok 7 (87, 118, 0, 1040, 1042, 93) = true := by decide +kernel
theorem gml_7_16 : gml_ok 7 (90, 104, 0, 1046, 718, 1438) = true := by decide +kernel
theorem gml_7_c0 : ∀ e ∈ ([(34, 46, 3, 618, 457, 0), (38, 45, 3, 1219, 596, 0), (42, 44, 3, 659, 442, 0), (46, 95, 2, 686, 687, 0), (50, 43, 3, 689, 464, 0), (54, 97, 0, 682, 683, 1368), (57, 96, 2, 721, 722, 0), (60, 101, 0, 736, 738, 53), (64, 106, 0, 728, 730, 49), (68, 107, 0, 732, 734, 51), (71, 109, 0, 1286, 725, 1452), (75, 100, 0, 1044, 753, 1508), (78, 108, 0, 1101, 749, 1500), (81, 99, 0, 1102, 679, 1360), (84, 98, 0, 1045, 835, 1672), (87, 118, 0, 1040, 1042, 93), (90, 104, 0, 1046, 718, 1438)] : List (Nat × Nat × Nat × Nat × Nat × Nat)), gml_ok 7 e = true := List.forall_mem_cons.mpr ⟨gml_7_0, List.forall_mem_cons.mpr ⟨gml_7_1, List.forall_mem_cons.mpr ⟨gml_7_2, List.forall_mem_cons.mpr ⟨gml_7_3, List.forall_mem_cons.mpr ⟨gml_7_4, List.forall_mem_cons.mpr ⟨gml_7_5, List.forall_mem_cons.mpr ⟨gml_7_6, List.forall_mem_cons.mpr ⟨gml_7_7, List.forall_mem_cons.mpr ⟨gml_7_8, List.forall_mem_cons.mpr ⟨gml_7_9, List.forall_mem_cons.mpr ⟨gml_7_10, List.forall_mem_cons.mpr ⟨gml_7_11, List.forall_mem_cons.mpr ⟨gml_7_12, List.forall_mem_cons.mpr ⟨gml_7_13, List.forall_mem_cons.mpr ⟨gml_7_14, List.forall_mem_cons.mpr ⟨gml_7_15, List.forall_mem_cons.mpr ⟨gml_7_16, List.forall_mem_nil _⟩⟩⟩⟩⟩⟩⟩⟩⟩⟩⟩⟩⟩⟩⟩⟩⟩
theorem gml_r7 : ∀ e ∈ gML.getD 7 [], gml_ok 7 e = true := gml_7_c0
theorem gml_8_0 : gml_ok 8 (70, 46, 3, 456, 457, 0) = true := by decide +kernel
theorem gml_8_1 : gml_ok 8 (74, 45, 3, 595, 596, 0) = true := by decide +kernel
theorem gml_8_2 : gml_ok 8 (78, 44, 3, 537, 442, 0) = true := by decide +kernel
theorem gml_8_3 : gml_ok 8 (82, 52, 0, 538, 540, 25) = true := by decide +kernel
theorem gml_8_4 : gml_ok 8 (86, 43, 3, 511, 464, 0) = true := by decide +kernel
theorem gml_8_5 : gml_ok 8 (90, 57, 2, 508, 509, 0) = true := by decide +kernel
theorem gml_8_6 : gml_ok 8 (94, 59, 0, 603, 605, 43) = true := by decide +kernel
theorem gml_8_7 : gml_ok 8 (98, 60, 2, 607, 608, 0) = true := by decide +kernel
theorem gml_8_8 : gml_ok 8 (110, 62, 0, 843, 819, 1640) = true := by decide +kernel
theorem gml_8_9 : gml_ok 8 (114, 0, 2, 1084, 1085, 0) = true := by decide +kernel
theorem gml_8_10 : gml_ok 8 (119, 58, 0, 1090, 600, 1202) = true := by decide +kernel
theorem gml_8_11 : gml_ok 8 (122, 66, 0, 844, 827, 1656) = true := by decide +kernel
theorem gml_8_c0 : ∀ e ∈ ([(70, 46, 3, 456, 457, 0), (74, 45, 3, 595, 596, 0), (78, 44, 3, 537, 442, 0), (82, 52, 0, 538, 540, 25), (86, 43, 3, 511, 464, 0), (90, 57, 2, 508, 509, 0), (94, 59, 0, 603, 605, 43), (98, 60, 2, 607, 608, 0), (110, 62, 0, 843, 819, 1640), (114, 0, 2, 1084, 1085, 0), (119, 58, 0, 1090, 600, 1202), (122, 66, 0, 844, 827, 1656)] : List (Nat × Nat × Nat × Nat × Nat × Nat)), gml_ok 8 e = true := List.forall_mem_cons.mpr ⟨gml_8_0, List.forall_mem_cons.mpr ⟨gml_8_1, List.forall_mem_cons.mpr ⟨gml_8_2, List.forall_mem_cons.mpr ⟨gml_8_3, List.forall_mem_cons.mpr ⟨gml_8_4, List.forall_mem_cons.mpr ⟨gml_8_5, List.forall_mem_cons.mpr ⟨gml_8_6, List.forall_mem_cons.mpr ⟨gml_8_7, List.forall_mem_cons.mpr ⟨gml_8_8, List.forall_mem_cons.mpr ⟨gml_8_9, List.forall_mem_cons.mpr ⟨gml_8_10, List.forall_mem_cons.mpr ⟨gml_8_11, List.forall_mem_nil _⟩⟩⟩⟩⟩⟩⟩⟩⟩⟩⟩⟩
theorem gml_r8 : ∀ e ∈ gML.getD 8 [], gml_ok 8 e = true := gml_8_c0
theorem gml_9_0 : gml_ok 9 (33, 68, 0, 437, 438, 878) = true := by decide +kernel
theorem gml_9_1 : gml_ok 9 (37, 69, 0, 448, 449, 900) = true := by decide +kernel
theorem gml_9_2 : gml_ok 9 (45, 172, 0, 587, 588, 1178) = true := by decide +kernel
theorem gml_9_3 : gml_ok 9 (63, 56, 0, 649, 513, 1028) = true := by decide +kernel
theorem gml_9_4 : gml_ok 9 (69, 55, 0, 650, 505, 1012) = true := by decide +kernel
theorem gml_9_5 : gml_ok 9 (76, 94, 0, 655, 656, 1314) = true := by decide +kernel
theorem gml_9_6 : gml_ok 9 (82, 39, 0, 664, 666, 45) = true := by decide +kernel
theorem gml_9_7 : gml_ok 9 (85, 40, 2, 668, 669, 0) = true := by decide +kernel
theorem gml_9_8 : gml_ok 9 (88, 41, 2, 671, 672, 0) = true := by decide +kernel
theorem gml_9_9 : gml_ok 9 (91, 179, 0, 674, 675, 1352) = true := by decide +kernel
theorem gml_9_10 : gml_ok 9 (95, 180, 0, 744, 745, 1492) = true := by decide +kernel
theorem gml_9_11 : gml_ok 9 (99, 38, 0, 810, 812, 63) = true := by decide +kernel
theorem gml_9_12 : gml_ok 9 (102, 184, 0, 814, 815, 1632) = true := by decide +kernel
theorem gml_9_13 : gml_ok 9 (105, 187, 0, 857, 858, 1718) = true := by decide +kernel
theorem gml_9_14 : gml_ok 9 (108, 183, 0, 881, 882, 1766) = true := by decide +kernel
theorem gml_9_15 : gml_ok 9 (120, 135, 0, 889, 799, 1600) = true := by decide +kernel
theorem gml_9_16 : gml_ok 9 (124, 189, 0, 894, 895, 1792) = true := by decide +kernel
theorem gml_9_17 : gml_ok 9 (127, 42, 2, 943, 944, 0) = true := by decide +kernel
theorem gml_9_18 : gml_ok 9 (130, 199, 0, 946, 947, 1896) = true := by decide +kernel
theorem gml_9_19 : gml_ok 9 (138, 157, 0, 1008, 1009, 2020) = true := by decide +kernel
theorem gml_9_20 : gml_ok 9 (143, 201, 0, 1020, 1021, 2044) = true := by decide +kernel
theorem gml_9_21 : gml_ok 9 (146, 117, 0, 1036, 1037, 2076) = true := by decide +kernel
theorem gml_9_22 : gml_ok 9 (153, 167, 0, 1051, 1052, 2106) = true := by decide +kernel
theorem gml_9_23 : gml_ok 9 (158, 168, 0, 1060, 1061, 2124) = true := by decide +kernel
theorem gml_9_24 : gml_ok 9 (172, 43, 2, 598, 464, 0) = true := by decide +kernel
theorem gml_9_25 : gml_ok 9 (176, 61, 0, 1068, 1069, 2140) = true := by decide +kernel
theorem gml_9_26 : gml_ok 9 (179, 0, 2, 1091, 1085, 0) = true := by decide +kernel
theorem gml_9_27 : gml_ok 9 (184, 174, 0, 1145, 1146, 2294) = true := by decide +kernel
theorem gml_9_28 : gml_ok 9 (187, 64, 0, 1395, 980, 1962) = true := by decide +kernel
theorem gml_9_29 : gml_ok 9 (193, 154, 0, 1396, 1013, 2028) = true := by decide +kernel
theorem gml_9_30 : gml_ok 9 (196, 161, 0, 1397, 1268, 2538) = true := by decide +kernel
theorem gml_9_31 : gml_ok 9 (207, 22, 0, 1076, 1077, 2156) = true := by decide +kernel
theorem gml_9_32 : gml_ok 9 (210, 65, 0, 1080, 1081, 2164) = true := by decide +kernel
theorem gml_9_33 : gml_ok 9 (213, 114, 0, 1097, 1098, 2198) = true := by decide +kernel
theorem gml_9_34 : gml_ok 9 (216, 109, 0, 1107, 725, 1452) = true := by decide +kernel
theorem gml_9_35 : gml_ok 9 (219, 111, 0, 1108, 1109, 2220) = true := by decide +kernel
theorem gml_9_36 : gml_ok 9 (222, 112, 0, 1112, 1113, 2228) = true := by decide +kernel
theorem gml_9_37 : gml_ok 9 (228, 113, 0, 1116, 1117, 2236) = true := by decide +kernel
theorem gml_9_38 : gml_ok 9 (234, 175, 0, 1120, 1121, 2244) = true := by decide +kernel
theorem gml_9_39 : gml_ok 9 (241, 121, 0, 1128, 700, 1402) = true := by decide +kernel
theorem gml_9_40 : gml_ok 9 (253, 148, 0, 1129, 1130, 2262) = true := by decide +kernel
theorem gml_9_41 : gml_ok 9 (258, 197, 0, 1133, 1134, 2270) = true := by decide +kernel
theorem gml_9_42 : gml_ok 9 (261, 115, 0, 1149, 1150, 2302) = true := by decide +kernel
theorem gml_9_43 : gml_ok 9 (265, 198, 0, 1153, 1154, 2310) = true := by decide +kernel
theorem gml_9_44 : gml_ok 9 (269, 116, 0, 1165, 1166, 2334) = true := by decide +kernel
theorem gml_9_45 : gml_ok 9 (272, 137, 0, 1173, 1174, 2350) = true := by decide +kernel
theorem gml_9_46 : gml_ok 9 (275, 196, 0, 1182, 1183, 2368) = true := by decide +kernel
theorem gml_9_47 : gml_ok 9 (278, 149, 0, 1186, 1187, 2376) = true := by decide +kernel
theorem gml_9_48 : gml_ok 9 (279, 171, 0, 1194, 1195, 2392) = true := by decide +kernel
theorem gml_9_49 : gml_ok 9 (282, 191, 0, 1202, 1203, 2408) = true := by decide +kernel
theorem gml_9_50 : gml_ok 9 (285, 173, 0, 1211, 1212, 2426) = true := by decide +kernel
theorem gml_9_51 : gml_ok 9 (289, 202, 0, 1246, 1247, 2496) = true := by decide +kernel
theorem gml_9_52 : gml_ok 9 (292, 203, 0, 1255, 1256, 2514) = true := by decide +kernel
theorem gml_9_53 : gml_ok 9 (295, 204, 0, 1259, 1260, 2522) = true := by decide +kernel
theorem gml_9_54 : gml_ok 9 (298, 205, 0, 1277, 1278, 2558) = true := by decide +kernel
theorem gml_9_55 : gml_ok 9 (307, 206, 0, 1291, 1292, 2586) = true := by decide +kernel
theorem gml_9_56 : gml_ok 9 (316, 63, 0, 1312, 1313, 2628) = true := by decide +kernel
theorem gml_9_57 : gml_ok 9 (345, 160, 0, 1316, 1264, 2530) = true := by decide +kernel
theorem gml_9_58 : gml_ok 9 (348, 122, 0, 1317, 1252, 2506) = true := by decide +kernel
theorem gml_9_59 : gml_ok 9 (351, 110, 0, 1318, 1283, 2568) = true := by decide +kernel
theorem gml_9_c0 : ∀ e ∈ ([(33, 68, 0, 437, 438, 878), (37, 69, 0, 448, 449, 900), (45, 172, 0, 587, 588, 1178), (63, 56, 0, 649, 513, 1028), (69, 55, 0, 650, 505, 1012), (76, 94, 0, 655, 656, 1314), (82, 39, 0, 664, 666, 45), (85, 40, 2, 668, 669, 0), (88, 41, 2, 671, 672, 0), (91, 179, 0, 674, 675, 1352), (95, 180, 0, 744, 745, 1492), (99, 38, 0, 810, 812, 63), (102, 184, 0, 814, 815, 1632), (105, 187, 0, 857, 858, 1718), (108, 183, 0, 881, 882, 1766), (120, 135, 0, 889, 799, 1600), (124, 189, 0, 894, 895, 1792), (127, 42, 2, 943, 944, 0), (130, 199, 0, 946, 947, 1896), (138, 157, 0, 1008, 1009, 2020), (143, 201, 0, 1020, 1021, 2044), (146, 117, 0, 1036, 1037, 2076), (153, 167, 0, 1051, 1052, 2106), (158, 168, 0, 1060, 1061, 2124), (172, 43, 2, 598, 464, 0), (176, 61, 0, 1068, 1069, 2140), (179, 0, 2, 1091, 1085, 0), (184, 174, 0, 1145, 1146, 2294), (187, 64, 0, 1395, 980, 1962), (193, 154, 0, 1396, 1013, 2028)] : List (Nat × Nat × Nat × Nat × Nat × Nat)), gml_ok 9 e = true := List.forall_mem_cons.mpr ⟨gml_9_0, List.forall_mem_cons.mpr ⟨gml_9_1, List.forall_mem_cons.mpr ⟨gml_9_2, List.forall_mem_cons.mpr ⟨gml_9_3, List.forall_mem_cons.mpr ⟨gml_9_4, List.forall_mem_cons.mpr ⟨gml_9_5, List.forall_mem_cons.mpr ⟨gml_9_6, List.forall_mem_cons.mpr ⟨gml_9_7, List.forall_mem_cons.mpr ⟨gml_9_8, List.forall_mem_cons.mpr ⟨gml_9_9, List.forall_mem_cons.mpr ⟨gml_9_10, List.forall_mem_cons.mpr ⟨gml_9_11, List.forall_mem_cons.mpr ⟨gml_9_12, List.forall_mem_cons.mpr ⟨gml_9_13, List.forall_mem_cons.mpr ⟨gml_9_14, List.forall_mem_cons.mpr ⟨gml_9_15, List.forall_mem_cons.mpr ⟨gml_9_16, List.forall_mem_cons.mpr ⟨gml_9_17, List.forall_mem_cons.mpr ⟨gml_9_18, List.forall_mem_cons.mpr ⟨gml_9_19, List.forall_mem_cons.mpr ⟨gml_9_20, List.forall_mem_cons.mpr ⟨gml_9_21, List.forall_mem_cons.mpr ⟨gml_9_22, List.forall_mem_cons.mpr ⟨gml_9_23, List.forall_mem_cons.mpr ⟨gml_9_24, List.forall_mem_cons.mpr ⟨gml_9_25, List.forall_mem_cons.mpr ⟨gml_9_26, List.forall_mem_cons.mpr ⟨gml_9_27, List.forall_mem_cons.mpr ⟨gml_9_28, List.forall_mem_cons.mpr ⟨gml_9_29, List.forall_mem_nil _⟩⟩⟩⟩⟩⟩⟩⟩⟩⟩⟩⟩⟩⟩⟩⟩⟩⟩⟩⟩⟩⟩⟩⟩⟩⟩⟩⟩⟩⟩
theorem gml_9_c1 : ∀ e ∈ ([(196, 161, 0, 1397, 1268, 2538), (207, 22, 0, 1076, 1077, 2156), (210, 65, 0, 1080, 1081, 2164), (213, 114, 0, 1097, 1098, 2198), (216, 109, 0, 1107, 725, 1452), (219, 111, 0, 1108, 1109, 2220), (222, 112, 0, 1112, 1113, 2228), (228, 113, 0, 1116, 1117, 2236), (234, 175, 0, 1120, 1121, 2244), (241, 121, 0, 1128, 700, 1402), (253, 148, 0, 1129, 1130, 2262), (258, 197, 0, 1133, 1134, 2270), (261, 115, 0, 1149, 1150, 2302), (265, 198, 0, 1153, 1154, 2310), (269, 116, 0, 1165, 1166, 2334), (272, 137, 0, 1173, 1174, 2350), (275, 196, 0, 1182, 1183, 2368), (278, 149, 0, 1186, 1187, 2376), (279, 171, 0, 1194, 1195, 2392), (282, 191, 0, 1202, 1203, 2408), (285, 173, 0, 1211, 1212, 2426), (289, 202, 0, 1246, 1247, 2496), (292, 203, 0, 1255, 1256, 2514), (295, 204, 0, 1259, 1260, 2522), (298, 205, 0, 1277, 1278, 2558), (307, 206, 0, 1291, 1292, 2586), (316, 63, 0, 1312, 1313, 2628), (345, 160, 0, 1316, 1264, 2530), (348, 122, 0, 1317, 1252, 2506), (351, 110, 0, 1318, 1283, 2568)] : List (Nat × Nat × Nat × Nat × Nat × Nat)), gml_ok 9 e = true := List.forall_mem_cons.mpr ⟨gml_9_30, List.forall_mem_cons.mpr ⟨gml_9_31, List.forall_mem_cons.mpr ⟨gml_9_32, List.forall_mem_cons.mpr ⟨gml_9_33, List.forall_mem_cons.mpr ⟨gml_9_34, List.forall_mem_cons.mpr ⟨gml_9_35, List.forall_mem_cons.mpr ⟨gml_9_36, List.forall_mem_cons.mpr ⟨gml_9_37, List.forall_mem_cons.mpr ⟨gml_9_38, List.forall_mem_cons.mpr ⟨gml_9_39, List.forall_mem_cons.mpr ⟨gml_9_40, List.forall_mem_cons.mpr ⟨gml_9_41, List.forall_mem_cons.mpr ⟨gml_9_42, List.forall_mem_cons.mpr ⟨gml_9_43, List.forall_mem_cons.mpr ⟨gml_9_44, List.forall_mem_cons.mpr ⟨gml_9_45, List.forall_mem_cons.mpr ⟨gml_9_46, List.forall_mem_cons.mpr ⟨gml_9_47, List.forall_mem_cons.mpr ⟨gml_9_48, List.forall_mem_cons.mpr ⟨gml_9_49, List.forall_mem_cons.mpr ⟨gml_9_50, List.forall_mem_cons.mpr ⟨gml_9_51, List.forall_mem_cons.mpr ⟨gml_9_52, List.forall_mem_cons.mpr ⟨gml_9_53, List.forall_mem_cons.mpr ⟨gml_9_54, List.forall_mem_cons.mpr ⟨gml_9_55, List.forall_mem_cons.mpr ⟨gml_9_56, List.forall_mem_cons.mpr ⟨gml_9_57, List.forall_mem_cons.mpr ⟨gml_9_58, List.forall_mem_cons.mpr ⟨gml_9_59, List.forall_mem_nil _⟩⟩⟩⟩⟩⟩⟩⟩⟩⟩⟩⟩⟩⟩⟩⟩⟩⟩⟩⟩⟩⟩⟩⟩⟩⟩⟩⟩⟩⟩
theorem gml_r9 : ∀ e ∈ gML.getD 9 [], gml_ok 9 e = true := List.forall_mem_append.mpr ⟨gml_9_c0, gml_9_c1⟩
theorem gml_10_0 : gml_ok 10 (83, 213, 0, 1581, 1583, 115) = true := by decide +kernel
theorem gml_10_1 : gml_ok 10 (87, 212, 0, 1585, 1587, 117) = true := by decide +kernel
theorem gml_10_2 : gml_ok 10 (94, 216, 0, 1589, 1591, 119) = true := by decide +kernel
theorem gml_10_3 : gml_ok 10 (97, 214, 0, 1593, 1595, 121) = true := by decide +kernel
theorem gml_10_4 : gml_ok 10 (132, 218, 2, 1428, 1429, 0) = true := by decide +kernel
theorem gml_10_5 : gml_ok 10 (136, 241, 0, 1431, 1433, 105) = true := by decide +kernel
theorem gml_10_6 : gml_ok 10 (143, 249, 0, 1443, 1445, 111) = true := by decide +kernel
theorem gml_10_7 : gml_ok 10 (150, 220, 2, 1618, 1619, 0) = true := by decide +kernel
theorem gml_10_8 : gml_ok 10 (154, 211, 0, 1602, 1604, 125) = true := by decide +kernel
theorem gml_10_9 : gml_ok 10 (157, 210, 2, 1633, 1634, 0) = true := by decide +kernel
theorem gml_10_10 : gml_ok 10 (164, 215, 0, 1577, 1579, 113) = true := by decide +kernel
theorem gml_10_11 : gml_ok 10 (167, 221, 0, 1614, 1616, 131) = true := by decide +kernel
theorem gml_10_12 : gml_ok 10 (171, 222, 0, 1621, 1623, 133) = true := by decide +kernel
theorem gml_10_13 : gml_ok 10 (174, 224, 0, 1610, 1612, 129) = true := by decide +kernel
theorem gml_10_14 : gml_ok 10 (178, 225, 0, 1625, 1627, 135) = true := by decide +kernel
theorem gml_10_15 : gml_ok 10 (181, 223, 0, 1629, 1631, 137) = true := by decide +kernel
theorem gml_10_16 : gml_ok 10 (185, 226, 0, 1644, 1646, 143) = true := by decide +kernel
theorem gml_10_17 : gml_ok 10 (188, 227, 0, 1606, 1608, 127) = true := by decide +kernel
theorem gml_10_18 : gml_ok 10 (191, 228, 0, 1636, 1638, 139) = true := by decide +kernel
theorem gml_10_19 : gml_ok 10 (194, 229, 0, 1640, 1642, 141) = true := by decide +kernel
theorem gml_10_20 : gml_ok 10 (197, 230, 0, 1648, 1650, 145) = true := by decide +kernel
theorem gml_10_21 : gml_ok 10 (200, 231, 0, 1652, 1654, 147) = true := by decide +kernel
theorem gml_10_22 : gml_ok 10 (203, 232, 0, 1656, 1658, 149) = true := by decide +kernel
theorem gml_10_23 : gml_ok 10 (206, 233, 0, 1660, 1662, 151) = true := by decide +kernel
theorem gml_10_24 : gml_ok 10 (56, 217, 0, 1420, 1422, 101) = true := by decide +kernel
theorem gml_10_25 : gml_ok 10 (209, 234, 0, 1598, 1600, 123) = true := by decide +kernel
theorem gml_10_26 : gml_ok 10 (59, 219, 0, 1424, 1426, 103) = true := by decide +kernel
theorem gml_10_27 : gml_ok 10 (212, 239, 0, 1435, 1437, 107) = true := by decide +kernel
theorem gml_10_28 : gml_ok 10 (215, 240, 0, 1439, 1441, 109) = true := by decide +kernel
theorem gml_10_29 : gml_ok 10 (218, 238, 0, 1676, 1678, 153) = true := by decide +kernel
theorem gml_10_30 : gml_ok 10 (221, 243, 2, 1688, 1689, 0) = true := by decide +kernel
theorem gml_10_31 : gml_ok 10 (224, 245, 0, 1684, 1686, 155) = true := by decide +kernel
theorem gml_10_32 : gml_ok 10 (227, 248, 0, 1703, 1705, 159) = true := by decide +kernel
theorem gml_10_33 : gml_ok 10 (230, 251, 0, 1699, 1701, 157) = true := by decide +kernel
theorem gml_10_34 : gml_ok 10 (233, 250, 0, 1715, 1717, 161) = true := by decide +kernel
theorem gml_10_35 : gml_ok 10 (236, 258, 0, 1742, 1744, 167) = true := by decide +kernel
theorem gml_10_36 : gml_ok 10 (239, 259, 0, 1738, 1740, 165) = true := by decide +kernel
theorem gml_10_37 : gml_ok 10 (242, 260, 0, 1774, 1776, 183) = true := by decide +kernel
theorem gml_10_38 : gml_ok 10 (245, 263, 0, 1762, 1764, 177) = true := by decide +kernel
theorem gml_10_39 : gml_ok 10 (248, 264, 0, 1758, 1760, 175) = true := by decide +kernel
theorem gml_10_40 : gml_ok 10 (251, 266, 0, 1750, 1752, 171) = true := by decide +kernel
theorem gml_10_41 : gml_ok 10 (254, 267, 0, 1754, 1756, 173) = true := by decide +kernel
theorem gml_10_42 : gml_ok 10 (257, 255, 0, 1731, 1733, 163) = true := by decide +kernel
theorem gml_10_43 : gml_ok 10 (260, 256, 2, 1735, 1736, 0) = true := by decide +kernel
theorem gml_10_44 : gml_ok 10 (263, 268, 0, 1746, 1748, 169) = true := by decide +kernel
theorem gml_10_45 : gml_ok 10 (266, 271, 0, 1766, 1768, 179) = true := by decide +kernel
theorem gml_10_46 : gml_ok 10 (270, 262, 0, 1770, 1772, 181) = true := by decide +kernel
theorem gml_10_47 : gml_ok 10 (273, 274, 0, 1794, 1796, 191) = true := by decide +kernel
theorem gml_10_48 : gml_ok 10 (277, 275, 0, 1798, 1800, 193) = true := by decide +kernel
theorem gml_10_49 : gml_ok 10 (280, 276, 0, 1806, 1808, 197) = true := by decide +kernel
theorem gml_10_50 : gml_ok 10 (284, 261, 0, 1782, 1784, 185) = true := by decide +kernel
theorem gml_10_51 : gml_ok 10 (287, 278, 0, 1786, 1788, 187) = true := by decide +kernel
theorem gml_10_52 : gml_ok 10 (290, 273, 0, 1790, 1792, 189) = true := by decide +kernel
theorem gml_10_53 : gml_ok 10 (293, 277, 0, 1802, 1804, 195) = true := by decide +kernel
theorem gml_10_54 : gml_ok 10 (296, 282, 0, 1838, 1840, 207) = true := by decide +kernel
theorem gml_10_55 : gml_ok 10 (299, 284, 0, 1830, 1832, 203) = true := by decide +kernel
theorem gml_10_56 : gml_ok 10 (302, 285, 0, 1826, 1828, 201) = true := by decide +kernel
theorem gml_10_57 : gml_ok 10 (305, 283, 0, 1834, 1836, 205) = true := by decide +kernel
theorem gml_10_58 : gml_ok 10 (308, 286, 0, 1822, 1824, 199) = true := by decide +kernel
theorem gml_10_59 : gml_ok 10 (311, 288, 0, 1862, 1864, 217) = true := by decide +kernel
theorem gml_10_60 : gml_ok 10 (314, 289, 0, 1866, 1868, 219) = true := by decide +kernel
theorem gml_10_61 : gml_ok 10 (318, 290, 0, 1870, 1872, 221) = true := by decide +kernel
theorem gml_10_62 : gml_ok 10 (328, 242, 0, 1854, 1856, 213) = true := by decide +kernel
theorem gml_10_63 : gml_ok 10 (331, 295, 0, 1886, 1888, 229) = true := by decide +kernel
theorem gml_10_64 : gml_ok 10 (334, 293, 0, 1850, 1852, 211) = true := by decide +kernel
theorem gml_10_65 : gml_ok 10 (337, 297, 0, 1878, 1880, 225) = true := by decide +kernel
theorem gml_10_66 : gml_ok 10 (340, 296, 0, 1882, 1884, 227) = true := by decide +kernel
theorem gml_10_67 : gml_ok 10 (343, 292, 0, 1846, 1848, 209) = true := by decide +kernel
theorem gml_10_68 : gml_ok 10 (346, 291, 0, 1858, 1860, 215) = true := by decide +kernel
theorem gml_10_69 : gml_ok 10 (350, 298, 0, 1874, 1876, 223) = true := by decide +kernel
theorem gml_10_70 : gml_ok 10 (353, 294, 0, 1894, 1896, 231) = true := by decide +kernel
theorem gml_10_71 : gml_ok 10 (356, 301, 0, 1906, 1908, 235) = true := by decide +kernel
theorem gml_10_72 : gml_ok 10 (359, 302, 0, 1902, 1904, 233) = true := by decide +kernel
theorem gml_10_73 : gml_ok 10 (363, 305, 0, 1914, 1916, 237) = true := by decide +kernel
theorem gml_10_74 : gml_ok 10 (366, 307, 0, 1922, 1924, 239) = true := by decide +kernel
theorem gml_10_75 : gml_ok 10 (369, 309, 0, 1934, 1936, 243) = true := by decide +kernel
theorem gml_10_76 : gml_ok 10 (372, 310, 0, 1930, 1932, 241) = true := by decide +kernel
theorem gml_10_77 : gml_ok 10 (375, 312, 0, 1942, 1944, 245) = true := by decide +kernel
theorem gml_10_78 : gml_ok 10 (378, 313, 0, 1946, 1948, 247) = true := by decide +kernel
theorem gml_10_79 : gml_ok 10 (381, 304, 0, 1950, 1952, 249) = true := by decide +kernel
theorem gml_10_80 : gml_ok 10 (384, 316, 0, 1962, 1964, 251) = true := by decide +kernel
theorem gml_10_81 : gml_ok 10 (387, 318, 0, 1970, 1972, 253) = true := by decide +kernel
theorem gml_10_82 : gml_ok 10 (390, 321, 0, 1982, 1984, 255) = true := by decide +kernel
theorem gml_10_83 : gml_ok 10 (394, 252, 0, 2006, 2008, 257) = true := by decide +kernel
theorem gml_10_84 : gml_ok 10 (397, 329, 0, 2018, 2020, 261) = true := by decide +kernel
theorem gml_10_85 : gml_ok 10 (400, 330, 0, 2014, 2016, 259) = true := by decide +kernel
theorem gml_10_86 : gml_ok 10 (403, 265, 0, 2022, 2024, 263) = true := by decide +kernel
theorem gml_10_87 : gml_ok 10 (406, 331, 0, 2026, 2028, 265) = true := by decide +kernel
theorem gml_10_88 : gml_ok 10 (409, 328, 0, 2030, 2032, 267) = true := by decide +kernel
theorem gml_10_89 : gml_ok 10 (424, 333, 0, 2038, 2040, 269) = true := by decide +kernel
theorem gml_10_90 : gml_ok 10 (427, 335, 0, 2050, 2052, 271) = true := by decide +kernel
theorem gml_10_c0 : ∀ e ∈ ([(83, 213, 0, 1581, 1583, 115), (87, 212, 0, 1585, 1587, 117), (94, 216, 0, 1589, 1591, 119), (97, 214, 0, 1593, 1595, 121), (132, 218, 2, 1428, 1429, 0), (136, 241, 0, 1431, 1433, 105), (143, 249, 0, 1443, 1445, 111), (150, 220, 2, 1618, 1619, 0), (154, 211, 0, 1602, 1604, 125), (157, 210, 2, 1633, 1634, 0), (164, 215, 0, 1577, 1579, 113), (167, 221, 0, 1614, 1616, 131), (171, 222, 0, 1621, 1623, 133), (174, 224, 0, 1610, 1612, 129), (178, 225, 0, 1625, 1627, 135), (181, 223, 0, 1629, 1631, 137), (185, 226, 0, 1644, 1646, 143), (188, 227, 0, 1606, 1608, 127), (191, 228, 0, 1636, 1638, 139), (194, 229, 0, 1640, 1642, 141), (197, 230, 0, 1648, 1650, 145), (200, 231, 0, 1652, 1654, 147), (203, 232, 0, 1656, 1658, 149), (206, 233, 0, 1660, 1662, 151), (56, 217, 0, 1420, 1422, 101), (209, 234, 0, 1598, 1600, 123), (59, 219, 0, 1424, 1426, 103), (212, 239, 0, 1435, 1437, 107), (215, 240, 0, 1439, 1441, 109), (218, 238, 0, 1676, 1678, 153)] : List (Nat × Nat × Nat × Nat × Nat × Nat)), gml_ok 10 e = true := List.forall_mem_cons.mpr ⟨gml_10_0, List.forall_mem_cons.mpr ⟨gml_10_1, List.forall_mem_cons.mpr ⟨gml_10_2, List.forall_mem_cons.mpr ⟨gml_10_3, List.forall_mem_cons.mpr ⟨gml_10_4, List.forall_mem_cons.mpr ⟨gml_10_5, List.forall_mem_cons.mpr ⟨gml_10_6, List.forall_mem_cons.mpr ⟨gml_10_7, List.forall_mem_cons.mpr ⟨gml_10_8, List.forall_mem_cons.mpr ⟨gml_10_9, List.forall_mem_cons.mpr ⟨gml_10_10, List.forall_mem_cons.mpr ⟨gml_10_11, List.forall_mem_cons.mpr ⟨gml_10_12, List.forall_mem_cons.mpr ⟨gml_10_13, List.forall_mem_cons.mpr ⟨gml_10_14, List.forall_mem_cons.mpr ⟨gml_10_15, List.forall_mem_cons.mpr ⟨gml_10_16, List.forall_mem_cons.mpr ⟨gml_10_17, List.forall_mem_cons.mpr ⟨gml_10_18, List.forall_mem_cons.mpr ⟨gml_10_19, List.forall_mem_cons.mpr ⟨gml_10_20, List.forall_mem_cons.mpr ⟨gml_10_21, List.forall_mem_cons.mpr ⟨gml_10_22, List.forall_mem_cons.mpr ⟨gml_10_23, List.forall_mem_cons.mpr ⟨gml_10_24, List.forall_mem_cons.mpr ⟨gml_10_25, List.forall_mem_cons.mpr ⟨gml_10_26, List.forall_mem_cons.mpr ⟨gml_10_27, List.forall_mem_cons.mpr ⟨gml_10_28, List.forall_mem_cons.mpr ⟨gml_10_29, List.forall_mem_nil _⟩⟩⟩⟩⟩⟩⟩⟩⟩⟩⟩⟩⟩⟩⟩⟩⟩⟩⟩⟩⟩⟩⟩⟩⟩⟩⟩⟩⟩⟩
theorem gml_10_c1 : ∀ e ∈ ([(221, 243, 2, 1688, 1689, 0), (224, 245, 0, 1684, 1686, 155), (227, 248, 0, 1703, 1705, 159), (230, 251, 0, 1699, 1701, 157), (233, 250, 0, 1715, 1717, 161), (236, 258, 0, 1742, 1744, 167), (239, 259, 0, 1738, 1740, 165), (242, 260, 0, 1774, 1776, 183), (245, 263, 0, 1762, 1764, 177), (248, 264, 0, 1758, 1760, 175), (251, 266, 0, 1750, 1752, 171), (254, 267, 0, 1754, 1756, 173), (257, 255, 0, 1731, 1733, 163), (260, 256, 2, 1735, 1736, 0), (263, 268, 0, 1746, 1748, 169), (266, 271, 0, 1766, 1768, 179), (270, 262, 0, 1770, 1772, 181), (273, 274, 0, 1794, 1796, 191), (277, 275, 0, 1798, 1800, 193), (280, 276, 0, 1806, 1808, 197), (284, 261, 0, 1782, 1784, 185), (287, 278, 0, 1786, 1788, 187), (290, 273, 0, 1790, 1792, 189), (293, 277, 0, 1802, 1804, 195), (296, 282, 0, 1838, 1840, 207), (299, 284, 0, 1830, 1832, 203), (302, 285, 0, 1826, 1828, 201), (305, 283, 0, 1834, 1836, 205), (308, 286, 0, 1822, 1824, 199), (311, 288, 0, 1862, 1864, 217)] : List (Nat × Nat × Nat × Nat × Nat × Nat)), gml_ok 10 e = true := List.forall_mem_cons.mpr ⟨gml_10_30, List.forall_mem_cons.mpr ⟨gml_10_31, List.forall_mem_cons.mpr ⟨gml_10_32, List.forall_mem_cons.mpr ⟨gml_10_33, List.forall_mem_cons.mpr ⟨gml_10_34, List.forall_mem_cons.mpr ⟨gml_10_35, List.forall_mem_cons.mpr ⟨gml_10_36, List.forall_mem_cons.mpr ⟨gml_10_37, List.forall_mem_cons.mpr ⟨gml_10_38, List.forall_mem_cons.mpr ⟨gml_10_39, List.forall_mem_cons.mpr ⟨gml_10_40, List.forall_mem_cons.mpr ⟨gml_10_41, List.forall_mem_cons.mpr ⟨gml_10_42, List.forall_mem_cons.mpr ⟨gml_10_43, List.forall_mem_cons.mpr ⟨gml_10_44, List.forall_mem_cons.mpr ⟨gml_10_45, List.forall_mem_cons.mpr ⟨gml_10_46, List.forall_mem_cons.mpr ⟨gml_10_47, List.forall_mem_cons.mpr ⟨gml_10_48, List.forall_mem_cons.mpr ⟨gml_10_49, List.forall_mem_cons.mpr ⟨gml_10_50, List.forall_mem_cons.mpr ⟨gml_10_51, List.forall_mem_cons.mpr ⟨gml_10_52, List.forall_mem_cons.mpr ⟨gml_10_53, List.forall_mem_cons.mpr ⟨gml_10_54, List.forall_mem_cons.mpr ⟨gml_10_55, List.forall_mem_cons.mpr ⟨gml_10_56, List.forall_mem_cons.mpr ⟨gml_10_57, List.forall_mem_cons.mpr ⟨gml_10_58, List.forall_mem_cons.mpr ⟨gml_10_59, List.forall_mem_nil _⟩⟩⟩⟩⟩⟩⟩⟩⟩⟩⟩⟩⟩⟩⟩⟩⟩⟩⟩⟩⟩⟩⟩⟩⟩⟩⟩⟩⟩⟩
theorem gml_10_c2 : ∀ e ∈ ([(314, 289, 0, 1866, 1868, 219), (318, 290, 0, 1870, 1872, 221), (328, 242, 0, 1854, 1856, 213), (331, 295, 0, 1886, 1888, 229), (334, 293, 0, 1850, 1852, 211), (337, 297, 0, 1878, 1880, 225), (340, 296, 0, 1882, 1884, 227), (343, 292, 0, 1846, 1848, 209), (346, 291, 0, 1858, 1860, 215), (350, 298, 0, 1874, 1876, 223), (353, 294, 0, 1894, 1896, 231), (356, 301, 0, 1906, 1908, 235), (359, 302, 0, 1902, 1904, 233), (363, 305, 0, 1914, 1916, 237), (366, 307, 0, 1922, 1924, 239), (369, 309, 0, 1934, 1936, 243), (372, 310, 0, 1930, 1932, 241), (375, 312, 0, 1942, 1944, 245), (378, 313, 0, 1946, 1948, 247), (381, 304, 0, 1950, 1952, 249), (384, 316, 0, 1962, 1964, 251), (387, 318, 0, 1970, 1972, 253), (390, 321, 0, 1982, 1984, 255), (394, 252, 0, 2006, 2008, 257), (397, 329, 0, 2018, 2020, 261), (400, 330, 0, 2014, 2016, 259), (403, 265, 0, 2022, 2024, 263), (406, 331, 0, 2026, 2028, 265), (409, 328, 0, 2030, 2032, 267), (424, 333, 0, 2038, 2040, 269)] : List (Nat × Nat × Nat × Nat × Nat × Nat)), gml_ok 10 e = true := List.forall_mem_cons.mpr ⟨gml_10_60, List.forall_mem_cons.mpr ⟨gml_10_61, List.forall_mem_cons.mpr ⟨gml_10_62, List.forall_mem_cons.mpr ⟨gml_10_63, List.forall_mem_cons.mpr ⟨gml_10_64, List.forall_mem_cons.mpr ⟨gml_10_65, List.forall_mem_cons.mpr ⟨gml_10_66, List.forall_mem_cons.mpr ⟨gml_10_67, List.forall_mem_cons.mpr ⟨gml_10_68, List.forall_mem_cons.mpr ⟨gml_10_69, List.forall_mem_cons.mpr ⟨gml_10_70, List.forall_mem_cons.mpr ⟨gml_10_71, List.forall_mem_cons.mpr ⟨gml_10_72, List.forall_mem_cons.mpr ⟨gml_10_73, List.forall_mem_cons.mpr ⟨gml_10_74, List.forall_mem_cons.mpr ⟨gml_10_75, List.forall_mem_cons.mpr ⟨gml_10_76, List.forall_mem_cons.mpr ⟨gml_10_77, List.forall_mem_cons.mpr ⟨gml_10_78, List.forall_mem_cons.mpr ⟨gml_10_79, List.forall_mem_cons.mpr ⟨gml_10_80, List.forall_mem_cons.mpr ⟨gml_10_81, List.forall_mem_cons.mpr ⟨gml_10_82, List.forall_mem_cons.mpr ⟨gml_10_83, List.forall_mem_cons.mpr ⟨gml_10_84, List.forall_mem_cons.mpr ⟨gml_10_85, List.forall_mem_cons.mpr ⟨gml_10_86, List.forall_mem_cons.mpr ⟨gml_10_87, List.forall_mem_cons.mpr ⟨gml_10_88, List.forall_mem_cons.mpr ⟨gml_10_89, List.forall_mem_nil _⟩⟩⟩⟩⟩⟩⟩⟩⟩⟩⟩⟩⟩⟩⟩⟩⟩⟩⟩⟩⟩⟩⟩⟩⟩⟩⟩⟩⟩⟩
theorem gml_10_c3 : ∀ e ∈ ([(427, 335, 0, 2050, 2052, 271)] : List (Nat × Nat × Nat × Nat × Nat × Nat)), gml_ok 10 e = true := List.forall_mem_cons.mpr ⟨gml_10_90, List.forall_mem_nil _⟩
theorem gml_r10 : ∀ e ∈ gML.getD 10 [], gml_ok 10 e = true := List.forall_mem_append.mpr ⟨gml_10_c0, List.forall_mem_append.mpr ⟨gml_10_c1, List.forall_mem_append.mpr ⟨gml_10_c2, gml_10_c3⟩⟩⟩
theorem gml_r11 : ∀ e ∈ gML.getD 11 [], gml_ok 11 e = true := fun _ h => absurd h List.not_mem_nil
theorem gml_r12 : ∀ e ∈ gML.getD 12 [], gml_ok 12 e = true := fun _ h => absurd h List.not_mem_nil
theorem gml_r13 : ∀ e ∈ gML.getD 13 [], gml_ok 13 e = true := fun _ h => absurd h List.not_mem_nil
theorem gmt_0 : gmt_ok 0 = true := by decide +kernel
theorem gmt_1 : gmt_ok 1 = true := by decide +kernel
theorem gmt_2 : gmt_ok 2 = true := by decide +kernel
theorem gmt_3 : gmt_ok 3 = true := by decide +kernel
theorem gmt_4 : gmt_ok 4 = true := by decide +kernel
theorem gmt_5 : gmt_ok 5 = true := by decide +kernel
theorem gmt_6 : gmt_ok 6 = true := by decide +kernel
theorem gmt_7 : gmt_ok 7 = true := by decide +kernel
theorem gmt_8 : gmt_ok 8 = true := by decide +kernel
theorem gmt_9 : gmt_ok 9 = true := by decide +kernel
theorem gmt_10 : gmt_ok 10 = true := by decide +kernel
theorem gmt_11 : gmt_ok 11 = true := by decide +kernel
theorem gmt_12 : gmt_ok 12 = true := by decide +kernel
theorem gmt_13 : gmt_ok 13 = true := by decide +kernel
theorem gmt_14 : gmt_ok 14 = true := by decide +kernel
theorem gmt_15 : gmt_ok 15 = true := by decide +kernel
theorem gmt_16 : gmt_ok 16 = true := by decide +kernel
theorem gmt_17 : gmt_ok 17 = true := by decide +kernel
theorem gmt_18 : gmt_ok 18 = true := by decide +kernel
theorem gmt_19 : gmt_ok 19 = true := by decide +kernel
theorem gmt_20 : gmt_ok 20 = true := by decide +kernel
theorem gmt_21 : gmt_ok 21 = true := by decide +kernel
theorem gmt_22 : gmt_ok 22 = true := by decide +kernel
theorem gmt_23 : gmt_ok 23 = true := by decide +kernel
theorem gmt_24 : gmt_ok 24 = true := by decide +kernel
theorem gmt_25 : gmt_ok 25 = true := by decide +kernel
theorem gmt_26 : gmt_ok 26 = true := by decide +kernel
theorem gmt_27 : gmt_ok 27 = true := by decide +kernel
theorem gmt_28 : gmt_ok 28 = true := by decide +kernel
theorem gmt_29 : gmt_ok 29 = true := by decide +kernel
theorem gmt_30 : gmt_ok 30 = true := by decide +kernel
theorem gmt_31 : gmt_ok 31 = true := by decide +kernel
theorem gmt_32 : gmt_ok 32 = true := by decide +kernel
theorem gmt_33 : gmt_ok 33 = true := by decide +kernel
theorem gmt_34 : gmt_ok 34 = true := by decide +kernel
theorem gmt_35 : gmt_ok 35 = true := by decide +kernel
theorem gmt_36 : gmt_ok 36 = true := by decide +kernel
theorem gmt_37 : gmt_ok 37 = true := by decide +kernel
theorem gmt_38 : gmt_ok 38 = true := by decide +kernel
theorem gmt_39 : gmt_ok 39 = true := by decide +kernel
theorem gmt_40 : gmt_ok 40 = true := by decide +kernel
theorem gmt_41 : gmt_ok 41 = true := by decide +kernel
theorem gmt_42 : gmt_ok 42 = true := by decide +kernel
theorem gmt_43 : gmt_ok 43 = true := by decide +kernel
theorem gmt_44 : gmt_ok 44 = true := by decide +kernel
theorem gmt_45 : gmt_ok 45 = true := by decide +kernel
theorem gmt_46 : gmt_ok 46 = true := by decide +kernel
theorem gmt_47 : gmt_ok 47 = true := by decide +kernel
theorem gmt_48 : gmt_ok 48 = true := by decide +kernel
theorem gmt_49 : gmt_ok 49 = true := by decide +kernel
theorem gmt_50 : gmt_ok 50 = true := by decide +kernel
theorem gmt_51 : gmt_ok 51 = true := by decide +kernel
theorem gmt_52 : gmt_ok 52 = true := by decide +kernel
theorem gmt_53 : gmt_ok 53 = true := by decide +kernel
theorem gmt_54 : gmt_ok 54 = true := by decide +kernel
theorem gmt_55 : gmt_ok 55 = true := by decide +kernel
theorem gmt_56 : gmt_ok 56 = true := by decide +kernel
theorem gmt_57 : gmt_ok 57 = true := by decide +kernel
theorem gmt_58 : gmt_ok 58 = true := by decide +kernel
theorem gmt_59 : gmt_ok 59 = true := by decide +kernel
theorem gmt_60 : gmt_ok 60 = true := by decide +kernel
theorem gmt_61 : gmt_ok 61 = true := by decide +kernel
theorem gmt_62 : gmt_ok 62 = true := by decide +kernel
theorem gmt_63 : gmt_ok 63 = true := by decide +kernel
theorem gmt_64 : gmt_ok 64 = true := by decide +kernel
theorem gmt_65 : gmt_ok 65 = true := by decide +kernel
theorem gmt_66 : gmt_ok 66 = true := by decide +kernel
theorem gmt_67 : gmt_ok 67 = true := by decide +kernel
theorem gmt_68 : gmt_ok 68 = true := by decide +kernel
theorem gmt_69 : gmt_ok 69 = true := by decide +kernel
theorem gmt_70 : gmt_ok 70 = true := by decide +kernel
theorem gmt_71 : gmt_ok 71 = true := by decide +kernel
theorem gmt_72 : gmt_ok 72 = true := by decide +kernel
theorem gmt_73 : gmt_ok 73 = true := by decide +kernel
theorem gmt_74 : gmt_ok 74 = true := by decide +kernel
theorem gmt_75 : gmt_ok 75 = true := by decide +kernel
theorem gmt_76 : gmt_ok 76 = true := by decide +kernel
theorem gmt_77 : gmt_ok 77 = true := by decide +kernel
theorem gmt_78 : gmt_ok 78 = true := by decide +kernel
theorem gmt_79 : gmt_ok 79 = true := by decide +kernel
theorem gmt_80 : gmt_ok 80 = true := by decide +kernel
theorem gmt_81 : gmt_ok 81 = true := by decide +kernel
theorem gmt_82 : gmt_ok 82 = true := by decide +kernel
theorem gmt_83 : gmt_ok 83 = true := by decide +kernel
theorem gmt_84 : gmt_ok 84 = true := by decide +kernel
theorem gmt_85 : gmt_ok 85 = true := by decide +kernel
theorem gmt_86 : gmt_ok 86 = true := by decide +kernel
theorem gmt_87 : gmt_ok 87 = true := by decide +kernel
theorem gmt_88 : gmt_ok 88 = true := by decide +kernel
theorem gmt_89 : gmt_ok 89 = true := by decide +kernel
theorem gmt_90 : gmt_ok 90 = true := by decide +kernel
theorem gmt_91 : gmt_ok 91 = true := by decide +kernel
theorem gmt_92 : gmt_ok 92 = true := by decide +kernel
theorem gmt_93 : gmt_ok 93 = true := by decide +kernel
theorem gmt_94 : gmt_ok 94 = true := by decide +kernel
theorem gmt_95 : gmt_ok 95 = true := by decide +kernel
theorem gmt_96 : gmt_ok 96 = true := by decide +kernel
theorem gmt_97 : gmt_ok 97 = true := by decide +kernel
theorem gmt_98 : gmt_ok 98 = true := by decide +kernel
theorem gmt_99 : gmt_ok 99 = true := by decide +kernel
theorem gmt_100 : gmt_ok 100 = true := by decide +kernel
theorem gmt_101 : gmt_ok 101 = true := by decide +kernel
theorem gmt_102 : gmt_ok 102 = true := by decide +kernel
theorem gmt_103 : gmt_ok 103 = true := by decide +kernel
theorem gmt_104 : gmt_ok 104 = true := by decide +kernel
theorem gmt_105 : gmt_ok 105 = true := by decide +kernel
theorem gmt_106 : gmt_ok 106 = true := by decide +kernel
theorem gmt_107 : gmt_ok 107 = true := by decide +kernel
theorem gmt_108 : gmt_ok 108 = true := by decide +kernel
theorem gmt_109 : gmt_ok 109 = true := by decide +kernel
theorem gmt_110 : gmt_ok 110 = true := by decide +kernel
theorem gmt_111 : gmt_ok 111 = true := by decide +kernel
theorem gmt_112 : gmt_ok 112 = true := by decide +kernel
theorem gmt_113 : gmt_ok 113 = true := by decide +kernel
theorem gmt_114 : gmt_ok 114 = true := by decide +kernel
theorem gmt_115 : gmt_ok 115 = true := by decide +kernel
theorem gmt_116 : gmt_ok 116 = true := by decide +kernel
theorem gmt_117 : gmt_ok 117 = true := by decide +kernel
theorem gmt_118 : gmt_ok 118 = true := by decide +kernel
theorem gmt_119 : gmt_ok 119 = true := by decide +kernel
theorem gmt_120 : gmt_ok 120 = true := by decide +kernel
theorem gmt_121 : gmt_ok 121 = true := by decide +kernel
theorem gmt_122 : gmt_ok 122 = true := by decide +kernel
theorem gmt_123 : gmt_ok 123 = true := by decide +kernel
theorem gmt_124 : gmt_ok 124 = true := by decide +kernel
theorem gmt_125 : gmt_ok 125 = true := by decide +kernel
theorem gmt_126 : gmt_ok 126 = true := by decide +kernel
theorem gmt_127 : gmt_ok 127 = true := by decide +kernel
theorem gmt_128 : gmt_ok 128 = true := by decide +kernel
theorem gmt_129 : gmt_ok 129 = true := by decide +kernel
theorem gmt_130 : gmt_ok 130 = true := by decide +kernel
theorem gmt_131 : gmt_ok 131 = true := by decide +kernel
theorem gmt_132 : gmt_ok 132 = true := by decide +kernel
theorem gmt_133 : gmt_ok 133 = true := by decide +kernel
theorem gmt_134 : gmt_ok 134 = true := by decide +kernel
theorem gmt_135 : gmt_ok 135 = true := by decide +kernel
theorem gmt_136 : gmt_ok 136 = true := by decide +kernel
theorem gmt_137 : gmt_ok 137 = true := by decide +kernel
theorem gmt_138 : gmt_ok 138 = true := by decide +kernel
theorem gmt_139 : gmt_ok 139 = true := by decide +kernel
theorem gmt_140 : gmt_ok 140 = true := by decide +kernel
theorem gmt_141 : gmt_ok 141 = true := by decide +kernel
theorem gmt_142 : gmt_ok 142 = true := by decide +kernel
theorem gmt_143 : gmt_ok 143 = true := by decide +kernel
theorem gmt_144 : gmt_ok 144 = true := by decide +kernel
theorem gmt_145 : gmt_ok 145 = true := by decide +kernel
theorem gmt_146 : gmt_ok 146 = true := by decide +kernel
theorem gmt_147 : gmt_ok 147 = true := by decide +kernel
theorem gmt_148 : gmt_ok 148 = true := by decide +kernel
theorem gmt_149 : gmt_ok 149 = true := by decide +kernel
theorem gmt_150 : gmt_ok 150 = true := by decide +kernel
theorem gmt_151 : gmt_ok 151 = true := by decide +kernel
theorem gmt_152 : gmt_ok 152 = true := by decide +kernel
theorem gmt_153 : gmt_ok 153 = true := by decide +kernel
theorem gmt_154 : gmt_ok 154 = true := by decide +kernel
theorem gmt_155 : gmt_ok 155 = true := by decide +kernel
theorem gmt_156 : gmt_ok 156 = true := by decide +kernel
theorem gmt_157 : gmt_ok 157 = true := by decide +kernel
theorem gmt_158 : gmt_ok 158 = true := by decide +kernel
theorem gmt_159 : gmt_ok 159 = true := by decide +kernel
theorem gmt_160 : gmt_ok 160 = true := by decide +kernel
theorem gmt_161 : gmt_ok 161 = true := by decide +kernel
theorem gmt_162 : gmt_ok 162 = true := by decide +kernel
theorem gmt_163 : gmt_ok 163 = true := by decide +kernel
theorem gmt_164 : gmt_ok 164 = true := by decide +kernel
theorem gmt_165 : gmt_ok 165 = true := by decide +kernel
theorem gmt_166 : gmt_ok 166 = true := by decide +kernel
theorem gmt_167 : gmt_ok 167 = true := by decide +kernel
theorem gmt_168 : gmt_ok 168 = true := by decide +kernel
theorem gmt_169 : gmt_ok 169 = true := by decide +kernel
theorem gmt_170 : gmt_ok 170 = true := by decide +kernel
theorem gmt_171 : gmt_ok 171 = true := by decide +kernel
theorem gmt_172 : gmt_ok 172 = true := by decide +kernel
theorem gmt_173 : gmt_ok 173 = true := by decide +kernel
theorem gmt_174 : gmt_ok 174 = true := by decide +kernel
theorem gmt_175 : gmt_ok 175 = true := by decide +kernel
theorem gmt_176 : gmt_ok 176 = true := by decide +kernel
theorem gmt_177 : gmt_ok 177 = true := by decide +kernel
theorem gmt_178 : gmt_ok 178 = true := by decide +kernel
theorem gmt_179 : gmt_ok 179 = true := by decide +kernel
theorem gmt_180 : gmt_ok 180 = true := by decide +kernel
theorem gmt_181 : gmt_ok 181 = true := by decide +kernel
theorem gmt_182 : gmt_ok 182 = true := by decide +kernel
theorem gmt_183 : gmt_ok 183 = true := by decide +kernel
theorem gmt_184 : gmt_ok 184 = true := by decide +kernel
theorem gmt_185 : gmt_ok 185 = true := by decide +kernel
theorem gmt_186 : gmt_ok 186 = true := by decide +kernel
theorem gmt_187 : gmt_ok 187 = true := by decide +kernel
theorem gmt_188 : gmt_ok 188 = true := by decide +kernel
theorem gmt_189 : gmt_ok 189 = true := by decide +kernel
theorem gmt_190 : gmt_ok 190 = true := by decide +kernel
theorem gmt_191 : gmt_ok 191 = true := by decide +kernel
theorem gmt_192 : gmt_ok 192 = true := by decide +kernel
theorem gmt_193 : gmt_ok 193 = true := by decide +kernel
theorem gmt_194 : gmt_ok 194 = true := by decide +kernel
theorem gmt_195 : gmt_ok 195 = true := by decide +kernel
theorem gmt_196 : gmt_ok 196 = true := by decide +kernel
theorem gmt_197 : gmt_ok 197 = true := by decide +kernel
theorem gmt_198 : gmt_ok 198 = true := by decide +kernel
theorem gmt_199 : gmt_ok 199 = true := by decide +kernel
theorem gmt_200 : gmt_ok 200 = true := by decide +kernel
theorem gmt_201 : gmt_ok 201 = true := by decide +kernel
theorem gmt_202 : gmt_ok 202 = true := by decide +kernel
theorem gmt_203 : gmt_ok 203 = true := by decide +kernel
theorem gmt_204 : gmt_ok 204 = true := by decide +kernel
theorem gmt_205 : gmt_ok 205 = true := by decide +kernel
theorem gmt_206 : gmt_ok 206 = true := by decide +kernel
theorem gmt_207 : gmt_ok 207 = true := by decide +kernel
theorem gmt_208 : gmt_ok 208 = true := by decide +kernel
theorem gmt_209 : gmt_ok 209 = true := by decide +kernel
theorem gmt_210 : gmt_ok 210 = true := by decide +kernel
theorem gmt_211 : gmt_ok 211 = true := by decide +kernel
theorem gmt_212 : gmt_ok 212 = true := by decide +kernel
theorem gmt_213 : gmt_ok 213 = true := by decide +kernel
theorem gmt_214 : gmt_ok 214 = true := by decide +kernel
theorem gmt_215 : gmt_ok 215 = true := by decide +kernel
theorem gmt_216 : gmt_ok 216 = true := by decide +kernel
theorem gmt_217 : gmt_ok 217 = true := by decide +kernel
theorem gmt_218 : gmt_ok 218 = true := by decide +kernel
theorem gmt_219 : gmt_ok 219 = true := by decide +kernel
theorem gmt_220 : gmt_ok 220 = true := by decide +kernel
theorem gmt_221 : gmt_ok 221 = true := by decide +kernel
theorem gmt_222 : gmt_ok 222 = true := by decide +kernel
theorem gmt_223 : gmt_ok 223 = true := by decide +kernel
theorem gmt_224 : gmt_ok 224 = true := by decide +kernel
theorem gmt_225 : gmt_ok 225 = true := by decide +kernel
theorem gmt_226 : gmt_ok 226 = true := by decide +kernel
theorem gmt_227 : gmt_ok 227 = true := by decide +kernel
theorem gmt_228 : gmt_ok 228 = true := by decide +kernel
theorem gmt_229 : gmt_ok 229 = true := by decide +kernel
theorem gmt_230 : gmt_ok 230 = true := by decide +kernel
theorem gmt_231 : gmt_ok 231 = true := by decide +kernel
theorem gmt_232 : gmt_ok 232 = true := by decide +kernel
theorem gmt_233 : gmt_ok 233 = true := by decide +kernel
theorem gmt_234 : gmt_ok 234 = true := by decide +kernel
theorem gmt_235 : gmt_ok 235 = true := by decide +kernel
theorem gmt_236 : gmt_ok 236 = true := by decide +kernel
theorem gmt_237 : gmt_ok 237 = true := by decide +kernel
theorem gmt_238 : gmt_ok 238 = true := by decide +kernel
theorem gmt_239 : gmt_ok 239 = true := by decide +kernel
theorem gmt_240 : gmt_ok 240 = true := by decide +kernel
theorem gmt_241 : gmt_ok 241 = true := by decide +kernel
theorem gmt_242 : gmt_ok 242 = true := by decide +kernel
theorem gmt_243 : gmt_ok 243 = true := by decide +kernel
theorem gmt_244 : gmt_ok 244 = true := by decide +kernel
theorem gmt_245 : gmt_ok 245 = true := by decide +kernel
theorem gmt_246 : gmt_ok 246 = true := by decide +kernel
theorem gmt_247 : gmt_ok 247 = true := by decide +kernel
theorem gmt_248 : gmt_ok 248 = true := by decide +kernel
theorem gmt_249 : gmt_ok 249 = true := by decide +kernel
theorem gmt_250 : gmt_ok 250 = true := by decide +kernel
theorem gmt_251 : gmt_ok 251 = true := by decide +kernel
theorem gmt_252 : gmt_ok 252 = true := by decide +kernel
theorem gmt_253 : gmt_ok 253 = true := by decide +kernel
theorem gmt_254 : gmt_ok 254 = true := by decide +kernel
theorem gmt_255 : gmt_ok 255 = true := by decide +kernel
theorem gmt_256 : gmt_ok 256 = true := by decide +kernel
theorem gmt_257 : gmt_ok 257 = true := by decide +kernel
theorem gmt_258 : gmt_ok 258 = true := by decide +kernel
theorem gmt_259 : gmt_ok 259 = true := by decide +kernel
theorem gmt_260 : gmt_ok 260 = true := by decide +kernel
theorem gmt_261 : gmt_ok 261 = true := by decide +kernel
theorem gmt_262 : gmt_ok 262 = true := by decide +kernel
theorem gmt_263 : gmt_ok 263 = true := by decide +kernel
theorem gmt_264 : gmt_ok 264 = true := by decide +kernel
theorem gmt_265 : gmt_ok 265 = true := by decide +kernel
theorem gmt_266 : gmt_ok 266 = true := by decide +kernel
theorem gmt_267 : gmt_ok 267 = true := by decide +kernel
theorem gmt_268 : gmt_ok 268 = true := by decide +kernel
theorem gmt_269 : gmt_ok 269 = true := by decide +kernel
theorem gmt_270 : gmt_ok 270 = true := by decide +kernel
theorem gmt_271 : gmt_ok 271 = true := by decide +kernel
theorem gmt_272 : gmt_ok 272 = true := by decide +kernel
theorem gmt_273 : gmt_ok 273 = true := by decide +kernel
theorem gmt_274 : gmt_ok 274 = true := by decide +kernel
theorem gmt_275 : gmt_ok 275 = true := by decide +kernel
theorem gmt_276 : gmt_ok 276 = true := by decide +kernel
theorem gmt_277 : gmt_ok 277 = true := by decide +kernel
theorem gmt_278 : gmt_ok 278 = true := by decide +kernel
theorem gmt_279 : gmt_ok 279 = true := by decide +kernel
theorem gmt_280 : gmt_ok 280 = true := by decide +kernel
theorem gmt_281 : gmt_ok 281 = true := by decide +kernel
theorem gmt_282 : gmt_ok 282 = true := by decide +kernel
theorem gmt_283 : gmt_ok 283 = true := by decide +kernel
theorem gmt_284 : gmt_ok 284 = true := by decide +kernel
theorem gmt_285 : gmt_ok 285 = true := by decide +kernel
theorem gmt_286 : gmt_ok 286 = true := by decide +kernel
theorem gmt_287 : gmt_ok 287 = true := by decide +kernel
theorem gmt_288 : gmt_ok 288 = true := by decide +kernel
theorem gmt_289 : gmt_ok 289 = true := by decide +kernel
theorem gmt_290 : gmt_ok 290 = true := by decide +kernel
theorem gmt_291 : gmt_ok 291 = true := by decide +kernel
theorem gmt_292 : gmt_ok 292 = true := by decide +kernel
theorem gmt_293 : gmt_ok 293 = true := by decide +kernel
theorem gmt_294 : gmt_ok 294 = true := by decide +kernel
theorem gmt_295 : gmt_ok 295 = true := by decide +kernel
theorem gmt_296 : gmt_ok 296 = true := by decide +kernel
theorem gmt_297 : gmt_ok 297 = true := by decide +kernel
theorem gmt_298 : gmt_ok 298 = true := by decide +kernel
theorem gmt_299 : gmt_ok 299 = true := by decide +kernel
theorem gmt_300 : gmt_ok 300 = true := by decide +kernel
theorem gmt_301 : gmt_ok 301 = true := by decide +kernel
theorem gmt_302 : gmt_ok 302 = true := by decide +kernel
theorem gmt_303 : gmt_ok 303 = true := by decide +kernel
theorem gmt_304 : gmt_ok 304 = true := by decide +kernel
theorem gmt_305 : gmt_ok 305 = true := by decide +kernel
theorem gmt_306 : gmt_ok 306 = true := by decide +kernel
theorem gmt_307 : gmt_ok 307 = true := by decide +kernel
theorem gmt_308 : gmt_ok 308 = true := by decide +kernel
theorem gmt_309 : gmt_ok 309 = true := by decide +kernel
theorem gmt_310 : gmt_ok 310 = true := by decide +kernel
theorem gmt_311 : gmt_ok 311 = true := by decide +kernel
theorem gmt_312 : gmt_ok 312 = true := by decide +kernel
theorem gmt_313 : gmt_ok 313 = true := by decide +kernel
theorem gmt_314 : gmt_ok 314 = true := by decide +kernel
theorem gmt_315 : gmt_ok 315 = true := by decide +kernel
theorem gmt_316 : gmt_ok 316 = true := by decide +kernel
theorem gmt_317 : gmt_ok 317 = true := by decide +kernel
theorem gmt_318 : gmt_ok 318 = true := by decide +kernel
theorem gmt_319 : gmt_ok 319 = true := by decide +kernel
theorem gmt_320 : gmt_ok 320 = true := by decide +kernel
theorem gmt_321 : gmt_ok 321 = true := by decide +kernel
theorem gmt_322 : gmt_ok 322 = true := by decide +kernel
theorem gmt_323 : gmt_ok 323 = true := by decide +kernel
theorem gmt_324 : gmt_ok 324 = true := by decide +kernel
theorem gmt_325 : gmt_ok 325 = true := by decide +kernel
theorem gmt_326 : gmt_ok 326 = true := by decide +kernel
theorem gmt_327 : gmt_ok 327 = true := by decide +kernel
theorem gmt_328 : gmt_ok 328 = true := by decide +kernel
theorem gmt_329 : gmt_ok 329 = true := by decide +kernel
theorem gmt_330 : gmt_ok 330 = true := by decide +kernel
theorem gmt_331 : gmt_ok 331 = true := by decide +kernel
theorem gmt_332 : gmt_ok 332 = true := by decide +kernel
theorem gmt_333 : gmt_ok 333 = true := by decide +kernel
theorem gmt_334 : gmt_ok 334 = true := by decide +kernel
theorem gmt_335 : gmt_ok 335 = true := by decide +kernel
theorem gmt_336 : gmt_ok 336 = true := by decide +kernel
theorem gmt_c0 : ∀ e ∈ ([0, 1, 2, 3, 4, 5, 6, 7, 8, 9, 10, 11, 12, 13, 14, 15, 16, 17, 18, 19, 20, 21, 22, 23, 24, 25, 26, 27, 28, 29, 30, 31, 32, 33, 34, 35, 36, 37, 38, 39] : List Nat), gmt_ok e = true := List.forall_mem_cons.mpr ⟨gmt_0, List.forall_mem_cons.mpr ⟨gmt_1, List.forall_mem_cons.mpr ⟨gmt_2, List.forall_mem_cons.mpr ⟨gmt_3, List.forall_mem_cons.mpr ⟨gmt_4, List.forall_mem_cons.mpr ⟨gmt_5, List.forall_mem_cons.mpr ⟨gmt_6, List.forall_mem_cons.mpr ⟨gmt_7, List.forall_mem_cons.mpr ⟨gmt_8, List.forall_mem_cons.mpr ⟨gmt_9, List.forall_mem_cons.mpr ⟨gmt_10, List.forall_mem_cons.mpr ⟨gmt_11, List.forall_mem_cons.mpr ⟨gmt_12, List.forall_mem_cons.mpr ⟨gmt_13, List.forall_mem_cons.mpr ⟨gmt_14, List.forall_mem_cons.mpr ⟨gmt_15, List.forall_mem_cons.mpr ⟨gmt_16, List.forall_mem_cons.mpr ⟨gmt_17, List.forall_mem_cons.mpr ⟨gmt_18, List.forall_mem_cons.mpr ⟨gmt_19, List.forall_mem_cons.mpr ⟨gmt_20, List.forall_mem_cons.mpr ⟨gmt_21, List.forall_mem_cons.mpr ⟨gmt_22, List.forall_mem_cons.mpr ⟨gmt_23, List.forall_mem_cons.mpr ⟨gmt_24, List.forall_mem_cons.mpr ⟨gmt_25, List.forall_mem_cons.mpr ⟨gmt_26, List.forall_mem_cons.mpr ⟨gmt_27, List.forall_mem_cons.mpr ⟨gmt_28, List.forall_mem_cons.mpr ⟨gmt_29, List.forall_mem_cons.mpr ⟨gmt_30, List.forall_mem_cons.mpr ⟨gmt_31, List.forall_mem_cons.mpr ⟨gmt_32, List.forall_mem_cons.mpr ⟨gmt_33, List.forall_mem_cons.mpr ⟨gmt_34, List.forall_mem_cons.mpr ⟨gmt_35, List.forall_mem_cons.mpr ⟨gmt_36, List.forall_mem_cons.mpr ⟨gmt_37, List.forall_mem_cons.mpr ⟨gmt_38, List.forall_mem_cons.mpr ⟨gmt_39, List.forall_mem_nil _⟩⟩⟩⟩⟩⟩⟩⟩⟩⟩⟩⟩⟩⟩⟩⟩⟩⟩⟩⟩⟩⟩⟩⟩⟩⟩⟩⟩⟩⟩⟩⟩⟩⟩⟩⟩⟩⟩⟩⟩
theorem gmt_c1 : ∀ e ∈ ([40, 41, 42, 43, 44, 45, 46, 47, 48, 49, 50, 51, 52, 53, 54, 55, 56, 57, 58, 59, 60, 61, 62, 63, 64, 65, 66, 67, 68, 69, 70, 71, 72, 73, 74, 75, 76, 77, 78, 79] : List Nat), gmt_ok e = true := List.forall_mem_cons.mpr ⟨gmt_40, List.forall_mem_cons.mpr ⟨gmt_41, List.forall_mem_cons.mpr ⟨gmt_42, List.forall_mem_cons.mpr ⟨gmt_43, List.forall_mem_cons.mpr ⟨gmt_44, List.forall_mem_cons.mpr ⟨gmt_45, List.forall_mem_cons.mpr ⟨gmt_46, List.forall_mem_cons.mpr ⟨gmt_47, List.forall_mem_cons.mpr ⟨gmt_48, List.forall_mem_cons.mpr ⟨gmt_49, List.forall_mem_cons.mpr ⟨gmt_50, List.forall_mem_cons.mpr ⟨gmt_51, List.forall_mem_cons.mpr ⟨gmt_52, List.forall_mem_cons.mpr ⟨gmt_53, List.forall_mem_cons.mpr ⟨gmt_54, List.forall_mem_cons.mpr ⟨gmt_55, List.forall_mem_cons.mpr ⟨gmt_56, List.forall_mem_cons.mpr ⟨gmt_57, List.forall_mem_cons.mpr ⟨gmt_58, List.forall_mem_cons.mpr ⟨gmt_59, List.forall_mem_cons.mpr ⟨gmt_60, List.forall_mem_cons.mpr ⟨gmt_61, List.forall_mem_cons.mpr ⟨gmt_62, List.forall_mem_cons.mpr ⟨gmt_63, List.forall_mem_cons.mpr ⟨gmt_64, List.forall_mem_cons.mpr ⟨gmt_65, List.forall_mem_cons.mpr ⟨gmt_66, List.forall_mem_cons.mpr ⟨gmt_67, List.forall_mem_cons.mpr ⟨gmt_68, List.forall_mem_cons.mpr ⟨gmt_69, List.forall_mem_cons.mpr ⟨gmt_70, List.forall_mem_cons.mpr ⟨gmt_71, List.forall_mem_cons.mpr ⟨gmt_72, List.forall_mem_cons.mpr ⟨gmt_73, List.forall_mem_cons.mpr ⟨gmt_74, List.forall_mem_cons.mpr ⟨gmt_75, List.forall_mem_cons.mpr ⟨gmt_76, List.forall_mem_cons.mpr ⟨gmt_77, List.forall_mem_cons.mpr ⟨gmt_78, List.forall_mem_cons.mpr ⟨gmt_79, List.forall_mem_nil _⟩⟩⟩⟩⟩⟩⟩⟩⟩⟩⟩⟩⟩⟩⟩⟩⟩⟩⟩⟩⟩⟩⟩⟩⟩⟩⟩⟩⟩⟩⟩⟩⟩⟩⟩⟩⟩⟩⟩⟩
theorem gmt_c2 : ∀ e ∈ ([80, 81, 82, 83, 84, 85, 86, 87, 88, 89, 90, 91, 92, 93, 94, 95, 96, 97, 98, 99, 100, 101, 102, 103, 104, 105, 106, 107, 108, 109, 110, 111, 112, 113, 114, 115, 116, 117, 118, 119] : List Nat), gmt_ok e = true := List.forall_mem_cons.mpr ⟨gmt_80, List.forall_mem_cons.mpr ⟨gmt_81, List.forall_mem_cons.mpr ⟨gmt_82, List.forall_mem_cons.mpr ⟨gmt_83, List.forall_mem_cons.mpr ⟨gmt_84, List.forall_mem_cons.mpr ⟨gmt_85, List.forall_mem_cons.mpr ⟨gmt_86, List.forall_mem_cons.mpr ⟨gmt_87, List.forall_mem_cons.mpr ⟨gmt_88, List.forall_mem_cons.mpr ⟨gmt_89, List.forall_mem_cons.mpr ⟨gmt_90, List.forall_mem_cons.mpr ⟨gmt_91, List.forall_mem_cons.mpr ⟨gmt_92, List.forall_mem_cons.mpr ⟨gmt_93, List.forall_mem_cons.mpr ⟨gmt_94, List.forall_mem_cons.mpr ⟨gmt_95, List.forall_mem_cons.mpr ⟨gmt_96, List.forall_mem_cons.mpr ⟨gmt_97, List.forall_mem_cons.mpr ⟨gmt_98, List.forall_mem_cons.mpr ⟨gmt_99, List.forall_mem_cons.mpr ⟨gmt_100, List.forall_mem_cons.mpr ⟨gmt_101, List.forall_mem_cons.mpr ⟨gmt_102, List.forall_mem_cons.mpr ⟨gmt_103, List.forall_mem_cons.mpr ⟨gmt_104, List.forall_mem_cons.mpr ⟨gmt_105, List.forall_mem_cons.mpr ⟨gmt_106, List.forall_mem_cons.mpr ⟨gmt_107, List.forall_mem_cons.mpr ⟨gmt_108, List.forall_mem_cons.mpr ⟨gmt_109, List.forall_mem_cons.mpr ⟨gmt_110, List.forall_mem_cons.mpr ⟨gmt_111, List.forall_mem_cons.mpr ⟨gmt_112, List.forall_mem_cons.mpr ⟨gmt_113, List.forall_mem_cons.mpr ⟨gmt_114, List.forall_mem_cons.mpr ⟨gmt_115, List.forall_mem_cons.mpr ⟨gmt_116, List.forall_mem_cons.mpr ⟨gmt_117, List.forall_mem_cons.mpr ⟨gmt_118, List.forall_mem_cons.mpr ⟨gmt_119, List.forall_mem_nil _⟩⟩⟩⟩⟩⟩⟩⟩⟩⟩⟩⟩⟩⟩⟩⟩⟩⟩⟩⟩⟩⟩⟩⟩⟩⟩⟩⟩⟩⟩⟩⟩⟩⟩⟩⟩⟩⟩⟩⟩
theorem gmt_c3 : ∀ e ∈ ([120, 121, 122, 123, 124, 125, 126, 127, 128, 129, 130, 131, 132, 133, 134, 135, 136, 137, 138, 139, 140, 141, 142, 143, 144, 145, 146, 147, 148, 149, 150, 151, 152, 153, 154, 155, 156, 157, 158, 159] : List Nat), gmt_ok e = true := List.forall_mem_cons.mpr ⟨gmt_120, List.forall_mem_cons.mpr ⟨gmt_121, List.forall_mem_cons.mpr ⟨gmt_122, List.forall_mem_cons.mpr ⟨gmt_123, List.forall_mem_cons.mpr ⟨gmt_124, List.forall_mem_cons.mpr ⟨gmt_125, List.forall_mem_cons.mpr ⟨gmt_126, List.forall_mem_cons.mpr ⟨gmt_127, List.forall_mem_cons.mpr ⟨gmt_128, List.forall_mem_cons.mpr ⟨gmt_129, List.forall_mem_cons.mpr ⟨gmt_130, List.forall_mem_cons.mpr ⟨gmt_131, List.forall_mem_cons.mpr ⟨gmt_132, List.forall_mem_cons.mpr ⟨gmt_133, List.forall_mem_cons.mpr ⟨gmt_134, List.forall_mem_cons.mpr ⟨gmt_135, List.forall_mem_cons.mpr ⟨gmt_136, List.forall_mem_cons.mpr ⟨gmt_137, List.forall_mem_cons.mpr ⟨gmt_138, List.forall_mem_cons.mpr ⟨gmt_139, List.forall_mem_cons.mpr ⟨gmt_140, List.forall_mem_cons.mpr ⟨gmt_141, List.forall_mem_cons.mpr ⟨gmt_142, List.forall_mem_cons.mpr ⟨gmt_143, List.forall_mem_cons.mpr ⟨gmt_144, List.forall_mem_cons.mpr ⟨gmt_145, List.forall_mem_cons.mpr ⟨gmt_146, List.forall_mem_cons.mpr ⟨gmt_147, List.forall_mem_cons.mpr ⟨gmt_148, List.forall_mem_cons.mpr ⟨gmt_149, List.forall_mem_cons.mpr ⟨gmt_150, List.forall_mem_cons.mpr ⟨gmt_151, List.forall_mem_cons.mpr ⟨gmt_152, List.forall_mem_cons.mpr ⟨gmt_153, List.forall_mem_cons.mpr ⟨gmt_154, List.forall_mem_cons.mpr ⟨gmt_155, List.forall_mem_cons.mpr ⟨gmt_156, List.forall_mem_cons.mpr ⟨gmt_157, List.forall_mem_cons.mpr ⟨gmt_158, List.forall_mem_cons.mpr ⟨gmt_159, List.forall_mem_nil _⟩⟩⟩⟩⟩⟩⟩⟩⟩⟩⟩⟩⟩⟩⟩⟩⟩⟩⟩⟩⟩⟩⟩⟩⟩⟩⟩⟩⟩⟩⟩⟩⟩⟩⟩⟩⟩⟩⟩⟩
theorem gmt_c4 : ∀ e ∈ ([160, 161, 162, 163, 164, 165, 166, 167, 168, 169, 170, 171, 172, 173, 174, 175, 176, 177, 178, 179, 180, 181, 182, 183, 184, 185, 186, 187, 188, 189, 190, 191, 192, 193, 194, 195, 196, 197, 198, 199] : List Nat), gmt_ok e = true := List.forall_mem_cons.mpr ⟨gmt_160, List.forall_mem_cons.mpr ⟨gmt_161, List.forall_mem_cons.mpr ⟨gmt_162, List.forall_mem_cons.mpr ⟨gmt_163, List.forall_mem_cons.mpr ⟨gmt_164, List.forall_mem_cons.mpr ⟨gmt_165, List.forall_mem_cons.mpr ⟨gmt_166, List.forall_mem_cons.mpr ⟨gmt_167, List.forall_mem_cons.mpr ⟨gmt_168, List.forall_mem_cons.mpr ⟨gmt_169, List.forall_mem_cons.mpr ⟨gmt_170, List.forall_mem_cons.mpr ⟨gmt_171, List.forall_mem_cons.mpr ⟨gmt_172, List.forall_mem_cons.mpr ⟨gmt_173, List.forall_mem_cons.mpr ⟨gmt_174, List.forall_mem_cons.mpr ⟨gmt_175, List.forall_mem_cons.mpr ⟨gmt_176, List.forall_mem_cons.mpr ⟨gmt_177, List.forall_mem_cons.mpr ⟨gmt_178, List.forall_mem_cons.mpr ⟨gmt_179, List.forall_mem_cons.mpr ⟨gmt_180, List.forall_mem_cons.mpr ⟨gmt_181, List.forall_mem_cons.mpr ⟨gmt_182, List.forall_mem_cons.mpr ⟨gmt_183, List.forall_mem_cons.mpr ⟨gmt_184, List.forall_mem_cons.mpr ⟨gmt_185, List.forall_mem_cons.mpr ⟨gmt_186, List.forall_mem_cons.mpr ⟨gmt_187, List.forall_mem_cons.mpr ⟨gmt_188, List.forall_mem_cons.mpr ⟨gmt_189, List.forall_mem_cons.mpr ⟨gmt_190, List.forall_mem_cons.mpr ⟨gmt_191, List.forall_mem_cons.mpr ⟨gmt_192, List.forall_mem_cons.mpr ⟨gmt_193, List.forall_mem_cons.mpr ⟨gmt_194, List.forall_mem_cons.mpr ⟨gmt_195, List.forall_mem_cons.mpr ⟨gmt_196, List.forall_mem_cons.mpr ⟨gmt_197, List.forall_mem_cons.mpr ⟨gmt_198, List.forall_mem_cons.mpr ⟨gmt_199, List.forall_mem_nil _⟩⟩⟩⟩⟩⟩⟩⟩⟩⟩⟩⟩⟩⟩⟩⟩⟩⟩⟩⟩⟩⟩⟩⟩⟩⟩⟩⟩⟩⟩⟩⟩⟩⟩⟩⟩⟩⟩⟩⟩
theorem gmt_c5 : ∀ e ∈ ([200, 201, 202, 203, 204, 205, 206, 207, 208, 209, 210, 211, 212, 213, 214, 215, 216, 217, 218, 219, 220, 221, 222, 223, 224, 225, 226, 227, 228, 229, 230, 231, 232, 233, 234, 235, 236, 237, 238, 239] : List Nat), gmt_ok e = true := List.forall_mem_cons.mpr ⟨gmt_200, List.forall_mem_cons.mpr ⟨gmt_201, List.forall_mem_cons.mpr ⟨gmt_202, List.forall_mem_cons.mpr ⟨gmt_203, List.forall_mem_cons.mpr ⟨gmt_204, List.forall_mem_cons.mpr ⟨gmt_205, List.forall_mem_cons.mpr ⟨gmt_206, List.forall_mem_cons.mpr ⟨gmt_207, List.forall_mem_cons.mpr ⟨gmt_208, List.forall_mem_cons.mpr ⟨gmt_209, List.forall_mem_cons.mpr ⟨gmt_210, List.forall_mem_cons.mpr ⟨gmt_211, List.forall_mem_cons.mpr ⟨gmt_212, List.forall_mem_cons.mpr ⟨gmt_213, List.forall_mem_cons.mpr ⟨gmt_214, List.forall_mem_cons.mpr ⟨gmt_215, List.forall_mem_cons.mpr ⟨gmt_216, List.forall_mem_cons.mpr ⟨gmt_217, List.forall_mem_cons.mpr ⟨gmt_218, List.forall_mem_cons.mpr ⟨gmt_219, List.forall_mem_cons.mpr ⟨gmt_220, List.forall_mem_cons.mpr ⟨gmt_221, List.forall_mem_cons.mpr ⟨gmt_222, List.forall_mem_cons.mpr ⟨gmt_223, List.forall_mem_cons.mpr ⟨gmt_224, List.forall_mem_cons.mpr ⟨gmt_225, List.forall_mem_cons.mpr ⟨gmt_226, List.forall_mem_cons.mpr ⟨gmt_227, List.forall_mem_cons.mpr ⟨gmt_228, List.forall_mem_cons.mpr ⟨gmt_229, List.forall_mem_cons.mpr ⟨gmt_230, List.forall_mem_cons.mpr ⟨gmt_231, List.forall_mem_cons.mpr ⟨gmt_232, List.forall_mem_cons.mpr ⟨gmt_233, List.forall_mem_cons.mpr ⟨gmt_234, List.forall_mem_cons.mpr ⟨gmt_235, List.forall_mem_cons.mpr ⟨gmt_236, List.forall_mem_cons.mpr ⟨gmt_237, List.forall_mem_cons.mpr ⟨gmt_238, List.forall_mem_cons.mpr ⟨gmt_239, List.forall_mem_nil _⟩⟩⟩⟩⟩⟩⟩⟩⟩⟩⟩⟩⟩⟩⟩⟩⟩⟩⟩⟩⟩⟩⟩⟩⟩⟩⟩⟩⟩⟩⟩⟩⟩⟩⟩⟩⟩⟩⟩⟩
theorem gmt_c6 : ∀ e ∈ ([240, 241, 242, 243, 244, 245, 246, 247, 248, 249, 250, 251, 252, 253, 254, 255, 256, 257, 258, 259, 260, 261, 262, 263, 264, 265, 266, 267, 268, 269, 270, 271, 272, 273, 274, 275, 276, 277, 278, 279] : List Nat), gmt_ok e = true := List.forall_mem_cons.mpr ⟨gmt_240, List.forall_mem_cons.mpr ⟨gmt_241, List.forall_mem_cons.mpr ⟨gmt_242, List.forall_mem_cons.mpr ⟨gmt_243, List.forall_mem_cons.mpr ⟨gmt_244, List.forall_mem_cons.mpr ⟨gmt_245, List.forall_mem_cons.mpr ⟨gmt_246, List.forall_mem_cons.mpr ⟨gmt_247, List.forall_mem_cons.mpr ⟨gmt_248, List.forall_mem_cons.mpr ⟨gmt_249, List.forall_mem_cons.mpr ⟨gmt_250, List.forall_mem_cons.mpr ⟨gmt_251, List.forall_mem_cons.mpr ⟨gmt_252, List.forall_mem_cons.mpr ⟨gmt_253, List.forall_mem_cons.mpr ⟨gmt_254, List.forall_mem_cons.mpr ⟨gmt_255, List.forall_mem_cons.mpr ⟨gmt_256, List.forall_mem_cons.mpr ⟨gmt_257, List.forall_mem_cons.mpr ⟨gmt_258, List.forall_mem_cons.mpr ⟨gmt_259, List.forall_mem_cons.mpr ⟨gmt_260, List.forall_mem_cons.mpr ⟨gmt_261, List.forall_mem_cons.mpr ⟨gmt_262, List.forall_mem_cons.mpr ⟨gmt_263, List.forall_mem_cons.mpr ⟨gmt_264, List.forall_mem_cons.mpr ⟨gmt_265, List.forall_mem_cons.mpr ⟨gmt_266, List.forall_mem_cons.mpr ⟨gmt_267, List.forall_mem_cons.mpr ⟨gmt_268, List.forall_mem_cons.mpr ⟨gmt_269, List.forall_mem_cons.mpr ⟨gmt_270, List.forall_mem_cons.mpr ⟨gmt_271, List.forall_mem_cons.mpr ⟨gmt_272, List.forall_mem_cons.mpr ⟨gmt_273, List.forall_mem_cons.mpr ⟨gmt_274, List.forall_mem_cons.mpr ⟨gmt_275, List.forall_mem_cons.mpr ⟨gmt_276, List.forall_mem_cons.mpr ⟨gmt_277, List.forall_mem_cons.mpr ⟨gmt_278, List.forall_mem_cons.mpr ⟨gmt_279, List.forall_mem_nil _⟩⟩⟩⟩⟩⟩⟩⟩⟩⟩⟩⟩⟩⟩⟩⟩⟩⟩⟩⟩⟩⟩⟩⟩⟩⟩⟩⟩⟩⟩⟩⟩⟩⟩⟩⟩⟩⟩⟩⟩
theorem gmt_c7 : ∀ e ∈ ([280, 281, 282, 283, 284, 285, 286, 287, 288, 289, 290, 291, 292, 293, 294, 295, 296, 297, 298, 299, 300, 301, 302, 303, 304, 305, 306, 307, 308, 309, 310, 311, 312, 313, 314, 315, 316, 317, 318, 319] : List Nat), gmt_ok e = true := List.forall_mem_cons.mpr ⟨gmt_280, List.forall_mem_cons.mpr ⟨gmt_281, List.forall_mem_cons.mpr ⟨gmt_282, List.forall_mem_cons.mpr ⟨gmt_283, List.forall_mem_cons.mpr ⟨gmt_284, List.forall_mem_cons.mpr ⟨gmt_285, List.forall_mem_cons.mpr ⟨gmt_286, List.forall_mem_cons.mpr ⟨gmt_287, List.forall_mem_cons.mpr ⟨gmt_288, List.forall_mem_cons.mpr ⟨gmt_289, List.forall_mem_cons.mpr ⟨gmt_290, List.forall_mem_cons.mpr ⟨gmt_291, List.forall_mem_cons.mpr ⟨gmt_292, List.forall_mem_cons.mpr ⟨gmt_293, List.forall_mem_cons.mpr ⟨gmt_294, List.forall_mem_cons.mpr ⟨gmt_295, List.forall_mem_cons.mpr ⟨gmt_296, List.forall_mem_cons.mpr ⟨gmt_297, List.forall_mem_cons.mpr ⟨gmt_298, List.forall_mem_cons.mpr ⟨gmt_299, List.forall_mem_cons.mpr ⟨gmt_300, List.forall_mem_cons.mpr ⟨gmt_301, List.forall_mem_cons.mpr ⟨gmt_302, List.forall_mem_cons.mpr ⟨gmt_303, List.forall_mem_cons.mpr ⟨gmt_304, List.forall_mem_cons.mpr ⟨gmt_305, List.forall_mem_cons.mpr ⟨gmt_306, List.forall_mem_cons.mpr ⟨gmt_307, List.forall_mem_cons.mpr ⟨gmt_308, List.forall_mem_cons.mpr ⟨gmt_309, List.forall_mem_cons.mpr ⟨gmt_310, List.forall_mem_cons.mpr ⟨gmt_311, List.forall_mem_cons.mpr ⟨gmt_312, List.forall_mem_cons.mpr ⟨gmt_313, List.forall_mem_cons.mpr ⟨gmt_314, List.forall_mem_cons.mpr ⟨gmt_315, List.forall_mem_cons.mpr ⟨gmt_316, List.forall_mem_cons.mpr ⟨gmt_317, List.forall_mem_cons.mpr ⟨gmt_318, List.forall_mem_cons.mpr ⟨gmt_319, List.forall_mem_nil _⟩⟩⟩⟩⟩⟩⟩⟩⟩⟩⟩⟩⟩⟩⟩⟩⟩⟩⟩⟩⟩⟩⟩⟩⟩⟩⟩⟩⟩⟩⟩⟩⟩⟩⟩⟩⟩⟩⟩⟩
theorem gmt_c8 : ∀ e ∈ ([320, 321, 322, 323, 324, 325, 326, 327, 328, 329, 330, 331, 332, 333, 334, 335, 336] : List Nat), gmt_ok e = true := List.forall_mem_cons.mpr ⟨gmt_320, List.forall_mem_cons.mpr ⟨gmt_321, List.forall_mem_cons.mpr ⟨gmt_322, List.forall_mem_cons.mpr ⟨gmt_323, List.forall_mem_cons.mpr ⟨gmt_324, List.forall_mem_cons.mpr ⟨gmt_325, List.forall_mem_cons.mpr ⟨gmt_326, List.forall_mem_cons.mpr ⟨gmt_327, List.forall_mem_cons.mpr ⟨gmt_328, List.forall_mem_cons.mpr ⟨gmt_329, List.forall_mem_cons.mpr ⟨gmt_330, List.forall_mem_cons.mpr ⟨gmt_331, List.forall_mem_cons.mpr ⟨gmt_332, List.forall_mem_cons.mpr ⟨gmt_333, List.forall_mem_cons.mpr ⟨gmt_334, List.forall_mem_cons.mpr ⟨gmt_335, List.forall_mem_cons.mpr ⟨gmt_336, List.forall_mem_nil _⟩⟩⟩⟩⟩⟩⟩⟩⟩⟩⟩⟩⟩⟩⟩⟩⟩
theorem gmt_rng : List.range 337 = ([0, 1, 2, 3, 4, 5, 6, 7, 8, 9, 10, 11, 12, 13, 14, 15, 16, 17, 18, 19, 20, 21, 22, 23, 24, 25, 26, 27, 28, 29, 30, 31, 32, 33, 34, 35, 36, 37, 38, 39] : List Nat) ++ (([40, 41, 42, 43, 44, 45, 46, 47, 48, 49, 50, 51, 52, 53, 54, 55, 56, 57, 58, 59, 60, 61, 62, 63, 64, 65, 66, 67, 68, 69, 70, 71, 72, 73, 74, 75, 76, 77, 78, 79] : List Nat) ++ (([80, 81, 82, 83, 84, 85, 86, 87, 88, 89, 90, 91, 92, 93, 94, 95, 96, 97, 98, 99, 100, 101, 102, 103, 104, 105, 106, 107, 108, 109, 110, 111, 112, 113, 114, 115, 116, 117, 118, 119] : List Nat) ++ (([120, 121, 122, 123, 124, 125, 126, 127, 128, 129, 130, 131, 132, 133, 134, 135, 136, 137, 138, 139, 140, 141, 142, 143, 144, 145, 146, 147, 148, 149, 150, 151, 152, 153, 154, 155, 156, 157, 158, 159] : List Nat) ++ (([160, 161, 162, 163, 164, 165, 166, 167, 168, 169, 170, 171, 172, 173, 174, 175, 176, 177, 178, 179, 180, 181, 182, 183, 184, 185, 186, 187, 188, 189, 190, 191, 192, 193, 194, 195, 196, 197, 198, 199] : List Nat) ++ (([200, 201, 202, 203, 204, 205, 206, 207, 208, 209, 210, 211, 212, 213, 214, 215, 216, 217, 218, 219, 220, 221, 222, 223, 224, 225, 226, 227, 228, 229, 230, 231, 232, 233, 234, 235, 236, 237, 238, 239] : List Nat) ++ (([240, 241, 242, 243, 244, 245, 246, 247, 248, 249, 250, 251, 252, 253, 254, 255, 256, 257, 258, 259, 260, 261, 262, 263, 264, 265, 266, 267, 268, 269, 270, 271, 272, 273, 274, 275, 276, 277, 278, 279] : List Nat) ++ (([280, 281, 282, 283, 284, 285, 286, 287, 288, 289, 290, 291, 292, 293, 294, 295, 296, 297, 298, 299, 300, 301, 302, 303, 304, 305, 306, 307, 308, 309, 310, 311, 312, 313, 314, 315, 316, 317, 318, 319] : List Nat) ++ (([320, 321, 322, 323, 324, 325, 326, 327, 328, 329, 330, 331, 332, 333, 334, 335, 336] : List Nat))))))))) := by decide +kernel
theorem gmt_all : ∀ M ∈ List.range 337, gmt_ok M = true := by
  rw [gmt_rng]
  exact List.forall_mem_append.mpr ⟨gmt_c0, List.forall_mem_append.mpr ⟨gmt_c1, List.forall_mem_append.mpr ⟨gmt_c2, List.forall_mem_append.mpr ⟨gmt_c3, List.forall_mem_append.mpr ⟨gmt_c4, List.forall_mem_append.mpr ⟨gmt_c5, List.forall_mem_append.mpr ⟨gmt_c6, List.forall_mem_append.mpr ⟨gmt_c7, gmt_c8⟩⟩⟩⟩⟩⟩⟩⟩
theorem gMT_len : gMT.length = 337 := by decide +kernel
theorem gml_all : ∀ o, o < 14 → ∀ e ∈ gML.getD o [], gml_ok o e = true := by
  intro o ho
  rcases (show o = 0 ∨ o = 1 ∨ o = 2 ∨ o = 3 ∨ o = 4 ∨ o = 5 ∨ o = 6 ∨ o = 7 ∨ o = 8 ∨ o = 9 ∨ o = 10 ∨ o = 11 ∨ o = 12 ∨ o = 13 by omega) with rfl | rfl | rfl | rfl | rfl | rfl | rfl | rfl | rfl | rfl | rfl | rfl | rfl | rfl
  · exact gml_r0
  · exact gml_r1
  · exact gml_r2
  · exact gml_r3
  · exact gml_r4
  · exact gml_r5
  · exact gml_r6
  · exact gml_r7
  · exact gml_r8
  · exact gml_r9
  · exact gml_r10
  · exact gml_r11
  · exact gml_r12
  · exact gml_r13
