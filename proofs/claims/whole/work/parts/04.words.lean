def zCN (o : Nat) : String := (["CircuitReels$Circuit", "CircuitReels$History", "CircuitReels$Pad", "CircuitReels$Programme", "CircuitReels$Reels", "CircuitReels", "CircuitReelsModel", "java/lang/String", "java/lang/StringLatin1", "jdk/internal/util/Preconditions", "java/lang/Integer", "java/util/Arrays", "java/lang/Math", "CircuitReelsLaw"] : List String).getD o ""
def zT (ci : Nat) : u_T := ([TX0, TX1, TX2, TX3, TX4, TX5, TX6] : List u_T).getD ci TX0
def zTy (ci : Nat) : Nat → FieldType := ([tyX0, tyX1, tyX2, tyX3, tyX4, tyX5, tyX6] : List (Nat → FieldType)).getD ci tyX0
def mName (y : Nat) : MethodName := mNameT.getD y ⟨"", "", ""⟩
def zRet (r : Nat) : Option FieldType := if r = 0 then some .int else if r = 1 then some .char else if r = 2 then some .boolean else if r = 3 then some (.object "java/lang/String") else if r = 5 then some .byte else none
def zTbl : List Cond := lw_tbl.filter goodWord
theorem zTbl_of {w : Cond} {i : Nat} (h : lw_tbl[i]? = some w) (hg : goodWord w = true) : w ∈ zTbl := List.mem_filter.mpr ⟨List.mem_of_getElem? h, hg⟩
theorem zTbl_good : ∀ w ∈ zTbl, goodWord w = true := fun w h => (List.mem_filter.mp h).2
theorem zTbl_in : ∀ w ∈ zTbl, w ∈ lw_tbl := fun w h => (List.mem_filter.mp h).1
theorem zGood : GoodIn zTbl zTbl := fun w h => ⟨h, good_of_word (zTbl_good w h)⟩
def zULs : List (Nat × Nat × Nat) := [(0, 0, 126), (0, 1, 128), (0, 2, 130), (0, 3, 132), (0, 4, 134), (0, 5, 136), (0, 6, 138), (0, 7, 140), (0, 8, 142), (0, 9, 144), (0, 10, 146), (0, 11, 148), (1, 0, 259), (1, 1, 261), (1, 2, 263), (2, 0, 282), (2, 1, 284), (2, 2, 286), (2, 3, 288), (2, 4, 290), (2, 5, 292), (3, 0, 223), (3, 1, 225), (3, 2, 227), (3, 3, 229), (3, 4, 231), (3, 5, 233), (3, 6, 235), (3, 7, 237), (3, 8, 239), (3, 9, 241), (3, 10, 243), (4, 0, 183), (4, 1, 185), (4, 2, 187), (4, 3, 189), (4, 4, 191), (4, 5, 193), (4, 6, 195), (4, 7, 197), (4, 8, 199), (5, 0, 307), (5, 1, 309), (5, 2, 311), (5, 3, 313), (5, 4, 315), (5, 5, 317), (5, 6, 319), (5, 7, 321), (5, 8, 323), (6, 0, 725), (6, 1, 727), (6, 2, 729), (6, 3, 731), (6, 4, 733), (6, 5, 735), (6, 6, 737), (6, 7, 739), (6, 8, 741), (6, 9, 743), (6, 10, 745), (6, 11, 747), (6, 12, 749), (6, 13, 751), (6, 14, 753), (6, 15, 755), (6, 16, 757), (6, 17, 759), (6, 18, 761), (6, 19, 763), (6, 20, 765), (6, 21, 767), (6, 22, 769), (6, 23, 771), (6, 24, 773)]
theorem zUL_ok : zULs.all (fun e => decide (lw_tbl[e.2.2]? = some (u_lay (zCN e.1) (zT e.1) e.2.1)) && goodWord (u_lay (zCN e.1) (zT e.1) e.2.1)) = true := by decide +kernel
theorem zUL_all : (List.range 7).all (fun ci => (List.range (mNfs ci)).all (fun k => zULs.any (fun e => e.1 == ci && e.2.1 == k))) = true := by decide +kernel
theorem zU_in {ci : Nat} (hc : ci < 7) : ∀ w ∈ u_ws (zCN ci) (zT ci) (mNfs ci), w ∈ zTbl := by
  intro w hw
  obtain ⟨k, hk, rfl⟩ := List.mem_map.mp hw
  have h1 := List.all_eq_true.mp (List.all_eq_true.mp zUL_all ci (List.mem_range.mpr hc)) k hk
  obtain ⟨e, he, h2⟩ := List.any_eq_true.mp h1
  have h3 := List.all_eq_true.mp zUL_ok e he
  simp only [Bool.and_eq_true, beq_iff_eq, decide_eq_true_eq] at h2 h3
  rw [h2.1, h2.2] at h3
  exact zTbl_of h3.1 h3.2
theorem zCl_ok : ∀ ci, ci < 7 → vwCl[ci]? = some (zCN ci, zT ci, mNfs ci) := fun ci h => by match ci, h with | 0, _ => rfl | 1, _ => rfl | 2, _ => rfl | 3, _ => rfl | 4, _ => rfl | 5, _ => rfl | 6, _ => rfl
theorem zTy_ok {ci : Nat} (h : ci < 7) : ∀ k, k < mNfs ci → parseFieldDescriptor (zT ci k).2.2.1 = some (zTy ci k) := by match ci, h with | 0, _ => exact tyX0_ok | 1, _ => exact tyX1_ok | 2, _ => exact tyX2_ok | 3, _ => exact tyX3_ok | 4, _ => exact tyX4_ok | 5, _ => exact tyX5_ok | 6, _ => exact tyX6_ok
theorem zNm_ok {ci : Nat} (h : ci < 7) : ∀ a, a < mNfs ci → ∀ b, b < mNfs ci → a ≠ b → (zT ci a).2.1 ≠ (zT ci b).2.1 := by match ci, h with | 0, _ => exact nmX0 | 1, _ => exact nmX1 | 2, _ => exact nmX2 | 3, _ => exact nmX3 | 4, _ => exact nmX4 | 5, _ => exact nmX5 | 6, _ => exact nmX6
theorem zFty_ok : (List.range 7).all (fun ci => (List.range (mNfs ci)).all (fun k => decide ((mFty ci k = 0 ∧ zTy ci k = .int) ∨ (mFty ci k = 1 ∧ zTy ci k = .char) ∨ (mFty ci k = 2 ∧ zTy ci k = .boolean) ∨ (mFty ci k = 3 ∧ ((match zTy ci k with | .array _ => true | .object _ => true | _ => false) = true))) && decide ((zT ci k).2.2.2 = decide (mFty ci k = 3)) && decide ((zT ci k).1 = zCN ci))) = true := by decide +kernel
def zInst : List (Nat × Nat) := [(78, 55), (247, 60), (267, 61), (153, 58), (160, 59), (70, 54), (695, 62)]
theorem zInst_ok : (List.range 7).all (fun ci => decide (lw_tbl[(zInst.getD ci (0, 0)).1]? = some (.instantiable (zCN ci) (mNfs ci))) && goodWord (.instantiable (zCN ci) (mNfs ci)) && decide (lw_tbl[(zInst.getD ci (0, 0)).2]? = some (.initialized (zCN ci))) && goodWord (.initialized (zCN ci))) = true := by decide +kernel
def zFW (e : Nat × Nat × Nat × Nat × Nat) : Cond := if e.2.2.1 = 7 then .fieldLink (zCN e.1) e.2.1 "java/lang/String" (if e.2.2.2.1 = 0 then "value" else "coder") (if e.2.2.2.1 = 0 then "[B" else "B") else .fieldLink (zCN e.1) e.2.1 (zT e.2.2.1 e.2.2.2.1).1 (zT e.2.2.1 e.2.2.2.1).2.1 (zT e.2.2.1 e.2.2.2.1).2.2.1
theorem zFW_ok : mFldL.all (fun e => decide (lw_tbl[e.2.2.2.2]? = some (zFW e)) && goodWord (zFW e) && (decide (e.2.2.1 < 7 ∧ e.2.2.2.1 < mNfs e.2.2.1) || decide (e.2.2.1 = 7 ∧ e.2.2.2.1 < 2))) = true := by decide +kernel
theorem zCW_ok : mClsL.all (fun e => decide (lw_tbl[e.2.2.2]? = some (.classLink (zCN e.1) e.2.1 (zCN e.2.2.1))) && goodWord (.classLink (zCN e.1) e.2.1 (zCN e.2.2.1)) && decide (e.2.2.1 < 7)) = true := by decide +kernel
def zLW (e : Nat × Nat × MV × Nat) : Cond := match e.2.2.1 with | .inl v => .constant (zCN e.1) e.2.1 (Int32.ofInt v) | .inr (.inl v) => .constantLong (zCN e.1) e.2.1 (Int64.ofInt v) | _ => .initialized (zCN e.1)
theorem zLW_ok : mLdcL.all (fun e => match e.2.2.1 with | .inl v => decide (lw_tbl[e.2.2.2]? = some (zLW e)) && goodWord (zLW e) && decide (-2147483648 ≤ v ∧ v < 2147483648) | .inr (.inl v) => decide (lw_tbl[e.2.2.2]? = some (zLW e)) && goodWord (zLW e) && decide (-9223372036854775808 ≤ v ∧ v < 9223372036854775808) | .inr (.inr (.inr c)) => e.1 == 2 && decide (10 ≤ c ∧ c < 16 ∧ e.2.1 = 66 + 2 * (c - 10)) | _ => false) = true := by decide +kernel
def zMX : List (Nat × Nat × Nat × Nat × Nat × Nat) := [(81, 55, 80, 9999, 0, 0), (338, 55, 336, 337, 0, 1), (396, 55, 394, 395, 0, 1), (420, 55, 418, 419, 0, 2), (408, 55, 406, 407, 0, 1), (384, 55, 382, 383, 0, 2), (342, 55, 340, 341, 0, 2), (368, 55, 366, 367, 0, 3), (380, 55, 378, 379, 0, 3), (558, 55, 556, 557, 0, 1), (392, 55, 390, 391, 0, 4), (404, 55, 402, 403, 0, 1), (416, 55, 414, 415, 0, 3), (428, 55, 426, 427, 0, 2), (250, 60, 249, 9999, 0, 0), (334, 60, 332, 333, 0, 1), (360, 60, 358, 359, 0, 0), (685, 60, 683, 684, 0, 1), (270, 61, 269, 9999, 0, 0), (566, 61, 564, 565, 0, 1), (581, 61, 579, 580, 0, 0), (585, 61, 583, 584, 0, 0), (588, 61, 587, 9999, 1, 1), (650, 61, 649, 11, 0, 1), (654, 61, 653, 12, 0, 1), (662, 61, 660, 661, 0, 1), (658, 61, 657, 13, 0, 0), (156, 58, 155, 9999, 0, 0), (437, 58, 435, 436, 0, 1), (447, 58, 446, 1, 0, 1), (451, 58, 450, 2, 0, 2), (468, 58, 467, 4, 0, 2), (519, 58, 517, 518, 0, 1), (523, 58, 521, 522, 0, 1), (163, 59, 162, 9999, 0, 0), (441, 59, 439, 440, 0, 2), (544, 59, 542, 543, 0, 1), (455, 59, 453, 454, 0, 3), (463, 59, 462, 3, 0, 3), (73, 54, 72, 9999, 0, 0), (330, 54, 328, 329, 0, 2), (364, 54, 362, 363, 0, 3), (376, 54, 374, 375, 0, 3), (388, 54, 386, 387, 0, 4), (400, 54, 398, 399, 0, 1), (412, 54, 410, 411, 0, 3), (424, 54, 422, 423, 0, 2), (353, 54, 352, 0, 0, 1), (432, 54, 430, 431, 0, 2), (487, 54, 485, 486, 0, 2), (496, 54, 494, 495, 0, 2), (501, 54, 499, 500, 0, 3), (512, 54, 510, 511, 0, 1), (527, 54, 525, 526, 0, 2), (532, 54, 530, 531, 0, 1), (492, 54, 491, 7, 0, 1), (505, 54, 504, 8, 0, 3), (479, 54, 478, 5, 0, 2), (483, 54, 482, 6, 0, 3), (515, 54, 514, 9999, 1, 2), (536, 54, 534, 535, 0, 3), (553, 54, 551, 552, 0, 1), (540, 54, 539, 9, 0, 3), (548, 54, 547, 10, 0, 2), (562, 54, 560, 561, 0, 1), (573, 54, 571, 572, 0, 0), (577, 54, 575, 576, 0, 0), (667, 54, 665, 666, 0, 0), (671, 54, 670, 14, 0, 0), (676, 54, 675, 15, 0, 0), (681, 54, 679, 680, 0, 0), (689, 54, 687, 688, 0, 1), (693, 54, 691, 692, 0, 1), (356, 54, 355, 9999, 1, 1), (345, 54, 344, 9999, 1, 3), (371, 54, 370, 9999, 1, 1), (698, 62, 697, 9999, 0, 0), (785, 62, 784, 9999, 1, 3), (859, 62, 858, 27, 0, 2), (883, 62, 882, 31, 0, 2), (827, 62, 826, 21, 0, 1), (839, 62, 838, 23, 0, 1), (800, 62, 799, 9999, 1, 1), (855, 62, 854, 26, 0, 2), (789, 62, 788, 16, 0, 0), (895, 62, 894, 34, 0, 2), (879, 62, 878, 30, 0, 1), (891, 62, 890, 33, 0, 3), (887, 62, 886, 32, 0, 1), (875, 62, 874, 29, 0, 1), (914, 62, 913, 9999, 1, 1), (907, 62, 906, 37, 0, 1), (911, 62, 910, 38, 0, 1), (903, 62, 902, 36, 0, 1), (918, 62, 917, 39, 0, 1), (782, 62, 781, 9999, 1, 2), (779, 62, 777, 778, 0, 2), (797, 62, 796, 17, 0, 3), (804, 62, 803, 18, 0, 3), (793, 62, 791, 792, 0, 3), (811, 62, 810, 9999, 1, 3), (815, 62, 814, 19, 0, 3), (808, 62, 806, 807, 0, 3), (823, 62, 822, 20, 0, 4), (831, 62, 830, 22, 0, 4), (819, 62, 817, 818, 0, 4), (843, 62, 842, 24, 0, 1), (835, 62, 833, 834, 0, 1), (851, 62, 850, 25, 0, 3), (863, 62, 862, 28, 0, 2), (847, 62, 845, 846, 0, 3), (867, 62, 865, 866, 0, 2), (899, 62, 898, 35, 0, 3), (871, 62, 869, 870, 0, 2), (926, 62, 925, 40, 0, 1), (922, 62, 920, 921, 0, 2), (930, 62, 928, 929, 0, 2), (938, 62, 937, 41, 0, 3), (934, 62, 932, 933, 0, 3), (946, 62, 945, 42, 0, 0), (950, 62, 949, 43, 0, 0), (942, 62, 940, 941, 0, 1), (954, 62, 952, 953, 0, 2), (958, 62, 956, 957, 0, 1), (966, 62, 965, 44, 0, 0), (962, 62, 960, 961, 0, 3), (970, 62, 968, 969, 0, 1), (974, 62, 972, 973, 0, 1), (979, 62, 977, 978, 0, 0), (995, 62, 994, 47, 0, 0), (1007, 62, 1006, 50, 0, 1), (1003, 62, 1002, 49, 0, 0), (999, 62, 998, 48, 0, 0), (991, 62, 990, 46, 0, 0), (987, 62, 986, 45, 0, 0), (983, 62, 981, 982, 0, 0), (1015, 62, 1014, 51, 0, 1), (1019, 62, 1018, 52, 0, 1), (1011, 62, 1009, 1010, 0, 0), (1023, 62, 1021, 1022, 0, 0), (1027, 62, 1025, 1026, 0, 1), (1031, 62, 1029, 1030, 0, 1), (472, 64, 471, 9999, 1, 1), (459, 63, 458, 9999, 1, 2), (602, 65, 600, 601, 0, 0), (598, 65, 596, 597, 0, 0), (612, 65, 610, 611, 0, 1), (606, 65, 604, 605, 0, 0), (616, 65, 614, 615, 0, 0), (622, 65, 621, 9999, 1, 2), (619, 66, 618, 9999, 1, 2), (90, 57, 89, 9999, 1, 2), (627, 67, 626, 9999, 1, 3)]
def zMx (y : Nat) : Nat × Nat × Nat × Nat × Nat × Nat := zMX.getD y (0, 0, 0, 0, 0, 0)
def zCode (y : Nat) : Cond := .code (mName y) (mBytes y) (mMax y) (zRet (mRet y))
theorem zc_0 : lw_tbl[81]? = some (zCode 0) := by decide +kernel
theorem zc_1 : lw_tbl[338]? = some (zCode 1) := by decide +kernel
theorem zc_2 : lw_tbl[396]? = some (zCode 2) := by decide +kernel
theorem zc_3 : lw_tbl[420]? = some (zCode 3) := by decide +kernel
theorem zc_4 : lw_tbl[408]? = some (zCode 4) := by decide +kernel
theorem zc_5 : lw_tbl[384]? = some (zCode 5) := by decide +kernel
theorem zc_6 : lw_tbl[342]? = some (zCode 6) := by decide +kernel
theorem zc_7 : lw_tbl[368]? = some (zCode 7) := by decide +kernel
theorem zc_8 : lw_tbl[380]? = some (zCode 8) := by decide +kernel
theorem zc_9 : lw_tbl[558]? = some (zCode 9) := by decide +kernel
theorem zc_10 : lw_tbl[392]? = some (zCode 10) := by decide +kernel
theorem zc_11 : lw_tbl[404]? = some (zCode 11) := by decide +kernel
theorem zc_12 : lw_tbl[416]? = some (zCode 12) := by decide +kernel
theorem zc_13 : lw_tbl[428]? = some (zCode 13) := by decide +kernel
theorem zc_14 : lw_tbl[250]? = some (zCode 14) := by decide +kernel
theorem zc_15 : lw_tbl[334]? = some (zCode 15) := by decide +kernel
theorem zc_16 : lw_tbl[360]? = some (zCode 16) := by decide +kernel
theorem zc_17 : lw_tbl[685]? = some (zCode 17) := by decide +kernel
theorem zc_18 : lw_tbl[270]? = some (zCode 18) := by decide +kernel
theorem zc_19 : lw_tbl[566]? = some (zCode 19) := by decide +kernel
theorem zc_20 : lw_tbl[581]? = some (zCode 20) := by decide +kernel
theorem zc_21 : lw_tbl[585]? = some (zCode 21) := by decide +kernel
theorem zc_22 : lw_tbl[588]? = some (zCode 22) := by decide +kernel
theorem zc_23 : lw_tbl[650]? = some (zCode 23) := by decide +kernel
theorem zc_24 : lw_tbl[654]? = some (zCode 24) := by decide +kernel
theorem zc_25 : lw_tbl[662]? = some (zCode 25) := by decide +kernel
theorem zc_26 : lw_tbl[658]? = some (zCode 26) := by decide +kernel
theorem zc_27 : lw_tbl[156]? = some (zCode 27) := by decide +kernel
theorem zc_28 : lw_tbl[437]? = some (zCode 28) := by decide +kernel
theorem zc_29 : lw_tbl[447]? = some (zCode 29) := by decide +kernel
theorem zc_30 : lw_tbl[451]? = some (zCode 30) := by decide +kernel
theorem zc_31 : lw_tbl[468]? = some (zCode 31) := by decide +kernel
theorem zc_32 : lw_tbl[519]? = some (zCode 32) := by decide +kernel
theorem zc_33 : lw_tbl[523]? = some (zCode 33) := by decide +kernel
theorem zc_34 : lw_tbl[163]? = some (zCode 34) := by decide +kernel
theorem zc_35 : lw_tbl[441]? = some (zCode 35) := by decide +kernel
theorem zc_36 : lw_tbl[544]? = some (zCode 36) := by decide +kernel
theorem zc_37 : lw_tbl[455]? = some (zCode 37) := by decide +kernel
theorem zc_38 : lw_tbl[463]? = some (zCode 38) := by decide +kernel
theorem zc_39 : lw_tbl[73]? = some (zCode 39) := by decide +kernel
theorem zc_40 : lw_tbl[330]? = some (zCode 40) := by decide +kernel
theorem zc_41 : lw_tbl[364]? = some (zCode 41) := by decide +kernel
theorem zc_42 : lw_tbl[376]? = some (zCode 42) := by decide +kernel
theorem zc_43 : lw_tbl[388]? = some (zCode 43) := by decide +kernel
theorem zc_44 : lw_tbl[400]? = some (zCode 44) := by decide +kernel
theorem zc_45 : lw_tbl[412]? = some (zCode 45) := by decide +kernel
theorem zc_46 : lw_tbl[424]? = some (zCode 46) := by decide +kernel
theorem zc_47 : lw_tbl[353]? = some (zCode 47) := by decide +kernel
theorem zc_48 : lw_tbl[432]? = some (zCode 48) := by decide +kernel
theorem zc_49 : lw_tbl[487]? = some (zCode 49) := by decide +kernel
theorem zc_50 : lw_tbl[496]? = some (zCode 50) := by decide +kernel
theorem zc_51 : lw_tbl[501]? = some (zCode 51) := by decide +kernel
theorem zc_52 : lw_tbl[512]? = some (zCode 52) := by decide +kernel
theorem zc_53 : lw_tbl[527]? = some (zCode 53) := by decide +kernel
theorem zc_54 : lw_tbl[532]? = some (zCode 54) := by decide +kernel
theorem zc_55 : lw_tbl[492]? = some (zCode 55) := by decide +kernel
theorem zc_56 : lw_tbl[505]? = some (zCode 56) := by decide +kernel
theorem zc_57 : lw_tbl[479]? = some (zCode 57) := by decide +kernel
theorem zc_58 : lw_tbl[483]? = some (zCode 58) := by decide +kernel
theorem zc_59 : lw_tbl[515]? = some (zCode 59) := by decide +kernel
theorem zc_60 : lw_tbl[536]? = some (zCode 60) := by decide +kernel
theorem zc_61 : lw_tbl[553]? = some (zCode 61) := by decide +kernel
theorem zc_62 : lw_tbl[540]? = some (zCode 62) := by decide +kernel
theorem zc_63 : lw_tbl[548]? = some (zCode 63) := by decide +kernel
theorem zc_64 : lw_tbl[562]? = some (zCode 64) := by decide +kernel
theorem zc_65 : lw_tbl[573]? = some (zCode 65) := by decide +kernel
theorem zc_66 : lw_tbl[577]? = some (zCode 66) := by decide +kernel
theorem zc_67 : lw_tbl[667]? = some (zCode 67) := by decide +kernel
theorem zc_68 : lw_tbl[671]? = some (zCode 68) := by decide +kernel
theorem zc_69 : lw_tbl[676]? = some (zCode 69) := by decide +kernel
theorem zc_70 : lw_tbl[681]? = some (zCode 70) := by decide +kernel
theorem zc_71 : lw_tbl[689]? = some (zCode 71) := by decide +kernel
theorem zc_72 : lw_tbl[693]? = some (zCode 72) := by decide +kernel
theorem zc_73 : lw_tbl[356]? = some (zCode 73) := by decide +kernel
theorem zc_74 : lw_tbl[345]? = some (zCode 74) := by decide +kernel
theorem zc_75 : lw_tbl[371]? = some (zCode 75) := by decide +kernel
theorem zc_76 : lw_tbl[698]? = some (zCode 76) := by decide +kernel
theorem zc_77 : lw_tbl[785]? = some (zCode 77) := by decide +kernel
theorem zc_78 : lw_tbl[859]? = some (zCode 78) := by decide +kernel
theorem zc_79 : lw_tbl[883]? = some (zCode 79) := by decide +kernel
theorem zc_80 : lw_tbl[827]? = some (zCode 80) := by decide +kernel
theorem zc_81 : lw_tbl[839]? = some (zCode 81) := by decide +kernel
theorem zc_82 : lw_tbl[800]? = some (zCode 82) := by decide +kernel
theorem zc_83 : lw_tbl[855]? = some (zCode 83) := by decide +kernel
theorem zc_84 : lw_tbl[789]? = some (zCode 84) := by decide +kernel
theorem zc_85 : lw_tbl[895]? = some (zCode 85) := by decide +kernel
theorem zc_86 : lw_tbl[879]? = some (zCode 86) := by decide +kernel
theorem zc_87 : lw_tbl[891]? = some (zCode 87) := by decide +kernel
theorem zc_88 : lw_tbl[887]? = some (zCode 88) := by decide +kernel
theorem zc_89 : lw_tbl[875]? = some (zCode 89) := by decide +kernel
theorem zc_90 : lw_tbl[914]? = some (zCode 90) := by decide +kernel
theorem zc_91 : lw_tbl[907]? = some (zCode 91) := by decide +kernel
theorem zc_92 : lw_tbl[911]? = some (zCode 92) := by decide +kernel
theorem zc_93 : lw_tbl[903]? = some (zCode 93) := by decide +kernel
theorem zc_94 : lw_tbl[918]? = some (zCode 94) := by decide +kernel
theorem zc_95 : lw_tbl[782]? = some (zCode 95) := by decide +kernel
theorem zc_96 : lw_tbl[779]? = some (zCode 96) := by decide +kernel
theorem zc_97 : lw_tbl[797]? = some (zCode 97) := by decide +kernel
theorem zc_98 : lw_tbl[804]? = some (zCode 98) := by decide +kernel
theorem zc_99 : lw_tbl[793]? = some (zCode 99) := by decide +kernel
theorem zc_100 : lw_tbl[811]? = some (zCode 100) := by decide +kernel
theorem zc_101 : lw_tbl[815]? = some (zCode 101) := by decide +kernel
theorem zc_102 : lw_tbl[808]? = some (zCode 102) := by decide +kernel
theorem zc_103 : lw_tbl[823]? = some (zCode 103) := by decide +kernel
theorem zc_104 : lw_tbl[831]? = some (zCode 104) := by decide +kernel
theorem zc_105 : lw_tbl[819]? = some (zCode 105) := by decide +kernel
theorem zc_106 : lw_tbl[843]? = some (zCode 106) := by decide +kernel
theorem zc_107 : lw_tbl[835]? = some (zCode 107) := by decide +kernel
theorem zc_108 : lw_tbl[851]? = some (zCode 108) := by decide +kernel
theorem zc_109 : lw_tbl[863]? = some (zCode 109) := by decide +kernel
theorem zc_110 : lw_tbl[847]? = some (zCode 110) := by decide +kernel
theorem zc_111 : lw_tbl[867]? = some (zCode 111) := by decide +kernel
theorem zc_112 : lw_tbl[899]? = some (zCode 112) := by decide +kernel
theorem zc_113 : lw_tbl[871]? = some (zCode 113) := by decide +kernel
theorem zc_114 : lw_tbl[926]? = some (zCode 114) := by decide +kernel
theorem zc_115 : lw_tbl[922]? = some (zCode 115) := by decide +kernel
theorem zc_116 : lw_tbl[930]? = some (zCode 116) := by decide +kernel
theorem zc_117 : lw_tbl[938]? = some (zCode 117) := by decide +kernel
theorem zc_118 : lw_tbl[934]? = some (zCode 118) := by decide +kernel
theorem zc_119 : lw_tbl[946]? = some (zCode 119) := by decide +kernel
theorem zc_120 : lw_tbl[950]? = some (zCode 120) := by decide +kernel
theorem zc_121 : lw_tbl[942]? = some (zCode 121) := by decide +kernel
theorem zc_122 : lw_tbl[954]? = some (zCode 122) := by decide +kernel
theorem zc_123 : lw_tbl[958]? = some (zCode 123) := by decide +kernel
theorem zc_124 : lw_tbl[966]? = some (zCode 124) := by decide +kernel
theorem zc_125 : lw_tbl[962]? = some (zCode 125) := by decide +kernel
theorem zc_126 : lw_tbl[970]? = some (zCode 126) := by decide +kernel
theorem zc_127 : lw_tbl[974]? = some (zCode 127) := by decide +kernel
theorem zc_128 : lw_tbl[979]? = some (zCode 128) := by decide +kernel
theorem zc_129 : lw_tbl[995]? = some (zCode 129) := by decide +kernel
theorem zc_130 : lw_tbl[1007]? = some (zCode 130) := by decide +kernel
theorem zc_131 : lw_tbl[1003]? = some (zCode 131) := by decide +kernel
theorem zc_132 : lw_tbl[999]? = some (zCode 132) := by decide +kernel
theorem zc_133 : lw_tbl[991]? = some (zCode 133) := by decide +kernel
theorem zc_134 : lw_tbl[987]? = some (zCode 134) := by decide +kernel
theorem zc_135 : lw_tbl[983]? = some (zCode 135) := by decide +kernel
theorem zc_136 : lw_tbl[1015]? = some (zCode 136) := by decide +kernel
theorem zc_137 : lw_tbl[1019]? = some (zCode 137) := by decide +kernel
theorem zc_138 : lw_tbl[1011]? = some (zCode 138) := by decide +kernel
theorem zc_139 : lw_tbl[1023]? = some (zCode 139) := by decide +kernel
theorem zc_140 : lw_tbl[1027]? = some (zCode 140) := by decide +kernel
theorem zc_141 : lw_tbl[1031]? = some (zCode 141) := by decide +kernel
theorem zc_142 : lw_tbl[472]? = some (zCode 142) := by decide +kernel
theorem zc_143 : lw_tbl[459]? = some (zCode 143) := by decide +kernel
theorem zc_144 : lw_tbl[602]? = some (zCode 144) := by decide +kernel
theorem zc_145 : lw_tbl[598]? = some (zCode 145) := by decide +kernel
theorem zc_146 : lw_tbl[612]? = some (zCode 146) := by decide +kernel
theorem zc_147 : lw_tbl[606]? = some (zCode 147) := by decide +kernel
theorem zc_148 : lw_tbl[616]? = some (zCode 148) := by decide +kernel
theorem zc_149 : lw_tbl[622]? = some (zCode 149) := by decide +kernel
theorem zc_150 : lw_tbl[619]? = some (zCode 150) := by decide +kernel
theorem zc_151 : lw_tbl[90]? = some (zCode 151) := by decide +kernel
theorem zc_152 : lw_tbl[627]? = some (zCode 152) := by decide +kernel
theorem zM_good : (List.range 153).all (fun y => goodWord (zCode y)) = true := by decide +kernel
theorem zM_c12 : ∀ y, y < 12 → lw_tbl[(zMx y).1]? = some (zCode y) := (lt_s (lt_s (lt_s (lt_s (lt_s (lt_s (lt_s (lt_s (lt_s (lt_s (lt_s (lt_s lt_0 zc_0) zc_1) zc_2) zc_3) zc_4) zc_5) zc_6) zc_7) zc_8) zc_9) zc_10) zc_11)
theorem zM_c24 : ∀ y, y < 24 → lw_tbl[(zMx y).1]? = some (zCode y) := (lt_s (lt_s (lt_s (lt_s (lt_s (lt_s (lt_s (lt_s (lt_s (lt_s (lt_s (lt_s zM_c12 zc_12) zc_13) zc_14) zc_15) zc_16) zc_17) zc_18) zc_19) zc_20) zc_21) zc_22) zc_23)
theorem zM_c36 : ∀ y, y < 36 → lw_tbl[(zMx y).1]? = some (zCode y) := (lt_s (lt_s (lt_s (lt_s (lt_s (lt_s (lt_s (lt_s (lt_s (lt_s (lt_s (lt_s zM_c24 zc_24) zc_25) zc_26) zc_27) zc_28) zc_29) zc_30) zc_31) zc_32) zc_33) zc_34) zc_35)
theorem zM_c48 : ∀ y, y < 48 → lw_tbl[(zMx y).1]? = some (zCode y) := (lt_s (lt_s (lt_s (lt_s (lt_s (lt_s (lt_s (lt_s (lt_s (lt_s (lt_s (lt_s zM_c36 zc_36) zc_37) zc_38) zc_39) zc_40) zc_41) zc_42) zc_43) zc_44) zc_45) zc_46) zc_47)
theorem zM_c60 : ∀ y, y < 60 → lw_tbl[(zMx y).1]? = some (zCode y) := (lt_s (lt_s (lt_s (lt_s (lt_s (lt_s (lt_s (lt_s (lt_s (lt_s (lt_s (lt_s zM_c48 zc_48) zc_49) zc_50) zc_51) zc_52) zc_53) zc_54) zc_55) zc_56) zc_57) zc_58) zc_59)
theorem zM_c72 : ∀ y, y < 72 → lw_tbl[(zMx y).1]? = some (zCode y) := (lt_s (lt_s (lt_s (lt_s (lt_s (lt_s (lt_s (lt_s (lt_s (lt_s (lt_s (lt_s zM_c60 zc_60) zc_61) zc_62) zc_63) zc_64) zc_65) zc_66) zc_67) zc_68) zc_69) zc_70) zc_71)
theorem zM_c84 : ∀ y, y < 84 → lw_tbl[(zMx y).1]? = some (zCode y) := (lt_s (lt_s (lt_s (lt_s (lt_s (lt_s (lt_s (lt_s (lt_s (lt_s (lt_s (lt_s zM_c72 zc_72) zc_73) zc_74) zc_75) zc_76) zc_77) zc_78) zc_79) zc_80) zc_81) zc_82) zc_83)
theorem zM_c96 : ∀ y, y < 96 → lw_tbl[(zMx y).1]? = some (zCode y) := (lt_s (lt_s (lt_s (lt_s (lt_s (lt_s (lt_s (lt_s (lt_s (lt_s (lt_s (lt_s zM_c84 zc_84) zc_85) zc_86) zc_87) zc_88) zc_89) zc_90) zc_91) zc_92) zc_93) zc_94) zc_95)
theorem zM_c108 : ∀ y, y < 108 → lw_tbl[(zMx y).1]? = some (zCode y) := (lt_s (lt_s (lt_s (lt_s (lt_s (lt_s (lt_s (lt_s (lt_s (lt_s (lt_s (lt_s zM_c96 zc_96) zc_97) zc_98) zc_99) zc_100) zc_101) zc_102) zc_103) zc_104) zc_105) zc_106) zc_107)
theorem zM_c120 : ∀ y, y < 120 → lw_tbl[(zMx y).1]? = some (zCode y) := (lt_s (lt_s (lt_s (lt_s (lt_s (lt_s (lt_s (lt_s (lt_s (lt_s (lt_s (lt_s zM_c108 zc_108) zc_109) zc_110) zc_111) zc_112) zc_113) zc_114) zc_115) zc_116) zc_117) zc_118) zc_119)
theorem zM_c132 : ∀ y, y < 132 → lw_tbl[(zMx y).1]? = some (zCode y) := (lt_s (lt_s (lt_s (lt_s (lt_s (lt_s (lt_s (lt_s (lt_s (lt_s (lt_s (lt_s zM_c120 zc_120) zc_121) zc_122) zc_123) zc_124) zc_125) zc_126) zc_127) zc_128) zc_129) zc_130) zc_131)
theorem zM_c144 : ∀ y, y < 144 → lw_tbl[(zMx y).1]? = some (zCode y) := (lt_s (lt_s (lt_s (lt_s (lt_s (lt_s (lt_s (lt_s (lt_s (lt_s (lt_s (lt_s zM_c132 zc_132) zc_133) zc_134) zc_135) zc_136) zc_137) zc_138) zc_139) zc_140) zc_141) zc_142) zc_143)
theorem zM_codeA : ∀ y, y < 153 → lw_tbl[(zMx y).1]? = some (zCode y) := (lt_s (lt_s (lt_s (lt_s (lt_s (lt_s (lt_s (lt_s (lt_s zM_c144 zc_144) zc_145) zc_146) zc_147) zc_148) zc_149) zc_150) zc_151) zc_152)
theorem zM_code : ∀ y, y < 153 → zCode y ∈ zTbl := fun y h => zTbl_of (zM_codeA y h) (List.all_eq_true.mp zM_good _ (List.mem_range.mpr h))
theorem zM_ini : (List.range 153).all (fun y => decide (lw_tbl[(zMx y).2.1]? = some (.initialized (mName y).cls)) && goodWord (.initialized (mName y).cls)) = true := by decide +kernel
theorem zM_kind : (List.range 153).all (fun y => if (zMx y).2.2.2.2.1 = 1 then decide (lw_tbl[(zMx y).2.2.1]? = some (.static (mName y))) && goodWord (.static (mName y)) else decide (lw_tbl[(zMx y).2.2.1]? = some (.instanceMethod (mName y))) && goodWord (.instanceMethod (mName y))) = true := by decide +kernel
theorem zM_m1 : (List.range 153).all (fun y => plainFor (mName y)) = true := by decide +kernel
theorem zM_m2 : (List.range 153).all (fun y => decide ((mName y).cls = zCN (mCl y))) = true := by decide +kernel
theorem zM_m3 : (List.range 153).all (fun y => decide ((mName y).cls ≠ "java/lang/invoke/MethodHandle" ∧ (mName y).cls ≠ "java/lang/invoke/VarHandle")) = true := by decide +kernel
theorem zM_m4 : (List.range 153).all (fun y => decide ((parseMethodDescriptor (mName y).desc).map (fun d => d.parameters.length) = some (zMx y).2.2.2.2.2)) = true := by decide +kernel
theorem zM_m5 : (List.range 153).all (fun y => decide (mIni y = true → (mName y).name = "<init>") && decide ((mName y).name = "<init>" → mRet y = 4)) = true := by decide +kernel
def zNst (o i : Nat) : Bool := ([(0, 64), (0, 78), (3, 48), (5, 32), (5, 50)] : List (Nat × Nat)).any (fun q => q.1 == o && q.2 == i)
def zAcp (e : Nat × Nat × Nat × Nat × Nat × Nat) : MethodName := if e.2.2.1 = 1000 then arraycopyName else if e.2.2.1 = 1001 then objectInit else mName e.2.2.1
def zLk (e : Nat × Nat × Nat × Nat × Nat × Nat) : Cond := if zNst e.1 e.2.1 = true then .methodLinkNest (zCN e.1) e.2.1 (zAcp e) "CircuitReels" else .methodLink (zCN e.1) e.2.1 (zAcp e)
theorem zLk_ok : mMthL.all (fun e => decide (lw_tbl[e.2.2.2.2.2]? = some (zLk e)) && (zNst e.1 e.2.1 || goodWord (zLk e))) = true := by decide +kernel
theorem zLk_kind : mMthL.all (fun e => e.2.2.1 == 1000 || e.2.2.1 == 1001 || (decide (e.2.2.1 < 153) && ((decide (e.2.2.2.2.1 = 100) && decide ((zMx e.2.2.1).2.2.2.2.1 = 1 ∧ (zMx e.2.2.1).2.2.2.2.2 = e.2.2.2.1)) || (decide (e.2.2.2.2.1 < 8) && decide ((zMx e.2.2.1).2.2.2.2.1 = 0 ∧ (zMx e.2.2.1).2.2.2.2.2 + 1 = e.2.2.2.1 ∧ mCl e.2.2.1 = e.2.2.2.2.1) && !(zNst e.1 e.2.1) && decide (lw_tbl[(zMx e.2.2.1).2.2.2.1]? = some (.selects (zCN e.2.2.2.2.1) (mName e.2.2.1) (mName e.2.2.1))) && goodWord (.selects (zCN e.2.2.2.2.1) (mName e.2.2.1) (mName e.2.2.1))) || (decide (20 ≤ e.2.2.2.2.1 ∧ e.2.2.2.2.1 < 28) && decide ((zMx e.2.2.1).2.2.2.2.1 = 0 ∧ (zMx e.2.2.1).2.2.2.2.2 + 1 = e.2.2.2.1 ∧ mCl e.2.2.1 + 20 = e.2.2.2.2.1 ∧ (mName e.2.2.1).name = "<init>"))))) = true := by decide +kernel
def zEd : List (Nat × Nat) := [(0, 151), (2, 74), (3, 2), (3, 74), (4, 74), (6, 74), (7, 74), (7, 75), (8, 5), (8, 74), (8, 75), (10, 2), (10, 74), (10, 75), (11, 4), (12, 3), (12, 74), (13, 3), (14, 0), (15, 1), (17, 1), (20, 21), (20, 25), (21, 22), (21, 23), (21, 144), (21, 145), (21, 146), (23, 24), (23, 25), (24, 26), (27, 34), (28, 29), (28, 30), (28, 31), (28, 35), (30, 37), (31, 142), (31, 143), (32, 142), (33, 143), (35, 151), (37, 5), (37, 38), (37, 143), (39, 0), (39, 14), (39, 18), (39, 27), (39, 34), (40, 6), (40, 15), (40, 47), (41, 7), (41, 15), (41, 47), (42, 8), (42, 15), (42, 47), (43, 10), (43, 15), (43, 47), (44, 11), (44, 15), (44, 47), (45, 12), (45, 15), (45, 47), (46, 13), (46, 15), (46, 47), (47, 16), (47, 73), (48, 2), (48, 28), (48, 57), (48, 58), (49, 4), (49, 28), (49, 55), (50, 3), (50, 4), (50, 28), (51, 3), (51, 28), (51, 56), (51, 74), (52, 28), (52, 32), (52, 33), (52, 59), (53, 28), (53, 57), (53, 58), (53, 75), (54, 74), (56, 5), (56, 35), (56, 37), (60, 2), (60, 28), (60, 35), (60, 36), (60, 37), (60, 62), (60, 63), (60, 74), (60, 75), (61, 1), (61, 9), (61, 28), (61, 32), (61, 74), (62, 37), (63, 37), (63, 142), (64, 19), (66, 20), (67, 15), (67, 16), (67, 20), (67, 68), (68, 21), (68, 25), (68, 69), (68, 73), (69, 7), (69, 8), (69, 10), (69, 11), (69, 12), (70, 17), (71, 1), (71, 74), (72, 1), (72, 15), (72, 16), (72, 74), (75, 74), (80, 77), (81, 77), (82, 77), (83, 77), (83, 78), (83, 80), (86, 79), (87, 78), (87, 79), (87, 85), (88, 78), (88, 79), (88, 87), (89, 78), (89, 86), (89, 88), (91, 79), (92, 78), (92, 79), (92, 90), (92, 91), (93, 91), (93, 92), (94, 78), (94, 79), (94, 93), (95, 77), (96, 84), (96, 95), (97, 77), (97, 82), (99, 84), (99, 97), (99, 98), (100, 77), (100, 82), (102, 84), (102, 100), (102, 101), (103, 77), (103, 80), (103, 82), (105, 84), (105, 103), (105, 104), (107, 81), (107, 84), (107, 106), (108, 77), (108, 83), (109, 78), (110, 84), (110, 108), (110, 109), (111, 83), (111, 84), (111, 109), (112, 79), (112, 90), (112, 93), (112, 94), (113, 77), (113, 78), (113, 80), (113, 89), (113, 112), (114, 86), (115, 77), (115, 79), (115, 81), (115, 86), (115, 89), (115, 91), (115, 92), (115, 94), (115, 114), (116, 79), (116, 81), (116, 83), (116, 89), (117, 78), (117, 79), (117, 85), (118, 77), (118, 83), (118, 89), (118, 117), (121, 77), (121, 89), (121, 112), (121, 119), (121, 120), (122, 77), (122, 82), (122, 89), (122, 112), (123, 77), (124, 90), (125, 89), (125, 90), (125, 103), (125, 104), (125, 106), (125, 124), (126, 77), (126, 89), (126, 112), (127, 77), (130, 129), (131, 77), (131, 129), (132, 77), (132, 129), (132, 131), (133, 129), (133, 130), (133, 131), (133, 132), (134, 130), (134, 133), (135, 134), (136, 81), (136, 97), (136, 100), (136, 103), (136, 108), (137, 98), (137, 101), (137, 104), (137, 106), (138, 84), (138, 134), (138, 136), (138, 137), (140, 77), (141, 77), (141, 84), (144, 147), (146, 148), (146, 150), (149, 152), (150, 149), (153, 39), (153, 40), (153, 41), (153, 42), (153, 43), (153, 44), (153, 45), (153, 46), (153, 48), (153, 49), (153, 50), (153, 51), (153, 52), (153, 53), (153, 54), (153, 60), (153, 61), (153, 64), (153, 65), (153, 66), (153, 67), (153, 70), (153, 71), (153, 72), (153, 76), (153, 96), (153, 99), (153, 102), (153, 105), (153, 107), (153, 110), (153, 111), (153, 113), (153, 115), (153, 116), (153, 118), (153, 121), (153, 122), (153, 123), (153, 125), (153, 126), (153, 127), (153, 128), (153, 135), (153, 138), (153, 139), (153, 140), (153, 141)]
theorem zEd_ok : zEd.all (fun q => decide (mFr q.2 + 1 ≤ mFr q.1 ∧ 8 + (mMax q.2 + 11) + mLo q.2 ≤ mLo q.1)) = true := by decide +kernel
theorem zAc1 : Cond.native arraycopyName ∈ zTbl := zTbl_of (i := 87) (by decide +kernel) (by decide +kernel)
theorem zAc2 : Cond.static arraycopyName ∈ zTbl := zTbl_of (i := 86) (by decide +kernel) (by decide +kernel)
theorem zAc3 : Cond.initialized "java/lang/System" ∈ zTbl := zTbl_of (i := 56) (by decide +kernel) (by decide +kernel)
theorem zOi1 : Cond.instanceMethod objectInit ∈ zTbl := zTbl_of (i := 75) (by decide +kernel) (by decide +kernel)
theorem zOi2 : Cond.code objectInit ⟨#[0xb1]⟩ 1 none ∈ zTbl := zTbl_of (i := 76) (by decide +kernel) (by decide +kernel)
theorem zArI : Cond.arrayClass .int ∈ zTbl := zTbl_of (i := 151) (by decide +kernel) (by decide +kernel)
theorem zArC : Cond.arrayClass .char ∈ zTbl := zTbl_of (i := 295) (by decide +kernel) (by decide +kernel)
theorem zArZ : Cond.arrayClass .boolean ∈ zTbl := zTbl_of (i := 326) (by decide +kernel) (by decide +kernel)
theorem zGs1 : Cond.fieldLink "java/lang/String" 38 "java/lang/String" "COMPACT_STRINGS" "Z" ∈ zTbl := zTbl_of (i := 607) (by decide +kernel) (by decide +kernel)
theorem zGs2 : Cond.fieldLink "java/lang/String" 1053 "jdk/internal/util/Preconditions" "SIOOBE_FORMATTER" "Ljava/util/function/BiFunction;" ∈ zTbl := zTbl_of (i := 623) (by decide +kernel) (by decide +kernel)
