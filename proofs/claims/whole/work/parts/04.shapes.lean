def shC_0 : List ux_Sh := [(0, 11, 0, [some 1, some 9, some 19, some 22, some 29, some 30, some 33, some 107, some 110]), (0, 3, 0, [none, none, none, none, some 2, some 3, some 4, some 5, some 6, some 7, some 8]), (1, 0, 10, []), (1, 0, 10, []), (1, 0, 9, []), (1, 0, 9, []), (1, 0, 6, []), (1, 0, 6, []), (1, 0, 6, []), (0, 4, 0, [none, none, some 10, some 18, none, none, none]), (0, 3, 0, [none, none, none, none, some 11, some 12, some 13, some 14, some 15, some 16, some 17]), (1, 0, 10, []), (1, 0, 10, []), (1, 0, 9, []), (1, 0, 9, []), (1, 0, 6, []), (1, 0, 6, []), (1, 0, 6, []), (1, 2, 200, []), (0, 8, 0, [none, none, none, some 20, some 21])]
def shC_1 : List ux_Sh := [(1, 0, 9, []), (1, 0, 9, []), (3, 6, 2, [some 23, some 26]), (0, 8, 0, [none, none, none, some 24, some 25]), (1, 0, 9, []), (1, 0, 9, []), (0, 8, 0, [none, none, none, some 27, some 28]), (1, 0, 9, []), (1, 0, 9, []), (1, 1, 2, []), (0, 1, 0, [none, some 31, some 32]), (1, 0, 8, []), (1, 0, 8, []), (0, 6, 0, [none, none, none, some 34, some 1, some 19, some 35, some 38, some 41, some 44, some 77, some 100, some 102, some 103, none, none, none, none, none]), (1, 0, 9, []), (0, 0, 0, [some 36, some 37]), (2, 3, 16, []), (2, 3, 16, []), (0, 0, 0, [some 39, some 40]), (2, 3, 16, [])]
def shC_2 : List ux_Sh := [(2, 3, 16, []), (0, 0, 0, [some 42, some 43]), (2, 3, 16, []), (2, 3, 16, []), (0, 10, 0, [some 45, some 46]), (1, 0, 512, []), (3, 4, 10, [some 47, some 50, some 53, some 56, some 59, some 62, some 65, some 68, some 71, some 74]), (0, 0, 0, [some 48, some 49]), (2, 3, 16, []), (2, 3, 16, []), (0, 0, 0, [some 51, some 52]), (2, 3, 16, []), (2, 3, 16, []), (0, 0, 0, [some 54, some 55]), (2, 3, 16, []), (2, 3, 16, []), (0, 0, 0, [some 57, some 58]), (2, 3, 16, []), (2, 3, 16, []), (0, 0, 0, [some 60, some 61])]
def shC_3 : List ux_Sh := [(2, 3, 16, []), (2, 3, 16, []), (0, 0, 0, [some 63, some 64]), (2, 3, 16, []), (2, 3, 16, []), (0, 0, 0, [some 66, some 67]), (2, 3, 16, []), (2, 3, 16, []), (0, 0, 0, [some 69, some 70]), (2, 3, 16, []), (2, 3, 16, []), (0, 0, 0, [some 72, some 73]), (2, 3, 16, []), (2, 3, 16, []), (0, 0, 0, [some 75, some 76]), (2, 3, 16, []), (2, 3, 16, []), (3, 5, 11, [some 78, some 80, some 82, some 84, some 86, some 88, some 90, some 92, some 94, some 96, some 98]), (0, 2, 0, [some 79]), (1, 0, 8, [])]
def shC_4 : List ux_Sh := [(0, 2, 0, [some 81]), (1, 0, 8, []), (0, 2, 0, [some 83]), (1, 0, 8, []), (0, 2, 0, [some 85]), (1, 0, 8, []), (0, 2, 0, [some 87]), (1, 0, 8, []), (0, 2, 0, [some 89]), (1, 0, 8, []), (0, 2, 0, [some 91]), (1, 0, 8, []), (0, 2, 0, [some 93]), (1, 0, 8, []), (0, 2, 0, [some 95]), (1, 0, 8, []), (0, 2, 0, [some 97]), (1, 0, 8, []), (0, 2, 0, [some 99]), (1, 0, 8, [])]
def shC_5 : List ux_Sh := [(0, 2, 0, [some 101]), (1, 0, 8, []), (1, 0, 6, []), (0, 5, 0, [none, some 104, some 105, some 106]), (1, 0, 10, []), (1, 0, 9, []), (1, 0, 1024, []), (0, 7, 0, [none, some 108, some 109]), (1, 0, 6, []), (1, 0, 6, []), (3, 7, 3, [some 111, some 114, some 117]), (0, 9, 0, [none, none, some 112, some 113]), (1, 0, 8, []), (1, 0, 8, []), (0, 9, 0, [none, none, some 115, some 116]), (1, 0, 8, []), (1, 0, 8, []), (0, 9, 0, [none, none, some 118, some 119]), (1, 0, 8, []), (1, 0, 8, [])]
def shC : List ux_Sh := shC_0 ++ (shC_1 ++ (shC_2 ++ (shC_3 ++ (shC_4 ++ (shC_5)))))
def shM_0 : List ux_Sh := [(0, 12, 0, [some 1, none, none, some 2, none, some 3, none, some 4, some 5, none, some 6, some 7, none, some 8, some 9, some 10, none, none, none, none, none, none, none, none, some 11, some 12, some 13, some 14, some 15, some 16, some 17]), (1, 0, 252, []), (1, 0, 20, []), (1, 0, 18, []), (1, 1, 2, []), (1, 0, 200, []), (1, 0, 6, []), (1, 0, 6, []), (1, 0, 3, []), (1, 0, 24, []), (1, 0, 24, []), (1, 0, 3, []), (1, 0, 40, []), (2, 3, 128, []), (1, 0, 8, []), (2, 3, 8224, []), (2, 3, 6, []), (1, 0, 10, [])]
def shM : List ux_Sh := shM_0
theorem sc_0 : shC[0]? = some (0, 11, 0, [some 1, some 9, some 19, some 22, some 29, some 30, some 33, some 107, some 110]) := by decide +kernel
theorem sc_1 : shC[1]? = some (0, 3, 0, [none, none, none, none, some 2, some 3, some 4, some 5, some 6, some 7, some 8]) := by decide +kernel
theorem sc_2 : shC[2]? = some (1, 0, 10, []) := by decide +kernel
theorem sc_3 : shC[3]? = some (1, 0, 10, []) := by decide +kernel
theorem sc_4 : shC[4]? = some (1, 0, 9, []) := by decide +kernel
theorem sc_5 : shC[5]? = some (1, 0, 9, []) := by decide +kernel
theorem sc_6 : shC[6]? = some (1, 0, 6, []) := by decide +kernel
theorem sc_7 : shC[7]? = some (1, 0, 6, []) := by decide +kernel
theorem sc_8 : shC[8]? = some (1, 0, 6, []) := by decide +kernel
theorem sc_9 : shC[9]? = some (0, 4, 0, [none, none, some 10, some 18, none, none, none]) := by decide +kernel
theorem sc_10 : shC[10]? = some (0, 3, 0, [none, none, none, none, some 11, some 12, some 13, some 14, some 15, some 16, some 17]) := by decide +kernel
theorem sc_11 : shC[11]? = some (1, 0, 10, []) := by decide +kernel
theorem sc_12 : shC[12]? = some (1, 0, 10, []) := by decide +kernel
theorem sc_13 : shC[13]? = some (1, 0, 9, []) := by decide +kernel
theorem sc_14 : shC[14]? = some (1, 0, 9, []) := by decide +kernel
theorem sc_15 : shC[15]? = some (1, 0, 6, []) := by decide +kernel
theorem sc_16 : shC[16]? = some (1, 0, 6, []) := by decide +kernel
theorem sc_17 : shC[17]? = some (1, 0, 6, []) := by decide +kernel
theorem sc_18 : shC[18]? = some (1, 2, 200, []) := by decide +kernel
theorem sc_19 : shC[19]? = some (0, 8, 0, [none, none, none, some 20, some 21]) := by decide +kernel
theorem sc_20 : shC[20]? = some (1, 0, 9, []) := by decide +kernel
theorem sc_21 : shC[21]? = some (1, 0, 9, []) := by decide +kernel
theorem sc_22 : shC[22]? = some (3, 6, 2, [some 23, some 26]) := by decide +kernel
theorem sc_23 : shC[23]? = some (0, 8, 0, [none, none, none, some 24, some 25]) := by decide +kernel
theorem sc_24 : shC[24]? = some (1, 0, 9, []) := by decide +kernel
theorem sc_25 : shC[25]? = some (1, 0, 9, []) := by decide +kernel
theorem sc_26 : shC[26]? = some (0, 8, 0, [none, none, none, some 27, some 28]) := by decide +kernel
theorem sc_27 : shC[27]? = some (1, 0, 9, []) := by decide +kernel
theorem sc_28 : shC[28]? = some (1, 0, 9, []) := by decide +kernel
theorem sc_29 : shC[29]? = some (1, 1, 2, []) := by decide +kernel
theorem sc_30 : shC[30]? = some (0, 1, 0, [none, some 31, some 32]) := by decide +kernel
theorem sc_31 : shC[31]? = some (1, 0, 8, []) := by decide +kernel
theorem sc_32 : shC[32]? = some (1, 0, 8, []) := by decide +kernel
theorem sc_33 : shC[33]? = some (0, 6, 0, [none, none, none, some 34, some 1, some 19, some 35, some 38, some 41, some 44, some 77, some 100, some 102, some 103, none, none, none, none, none]) := by decide +kernel
theorem sc_34 : shC[34]? = some (1, 0, 9, []) := by decide +kernel
theorem sc_35 : shC[35]? = some (0, 0, 0, [some 36, some 37]) := by decide +kernel
theorem sc_36 : shC[36]? = some (2, 3, 16, []) := by decide +kernel
theorem sc_37 : shC[37]? = some (2, 3, 16, []) := by decide +kernel
theorem sc_38 : shC[38]? = some (0, 0, 0, [some 39, some 40]) := by decide +kernel
theorem sc_39 : shC[39]? = some (2, 3, 16, []) := by decide +kernel
theorem sc_40 : shC[40]? = some (2, 3, 16, []) := by decide +kernel
theorem sc_41 : shC[41]? = some (0, 0, 0, [some 42, some 43]) := by decide +kernel
theorem sc_42 : shC[42]? = some (2, 3, 16, []) := by decide +kernel
theorem sc_43 : shC[43]? = some (2, 3, 16, []) := by decide +kernel
theorem sc_44 : shC[44]? = some (0, 10, 0, [some 45, some 46]) := by decide +kernel
theorem sc_45 : shC[45]? = some (1, 0, 512, []) := by decide +kernel
theorem sc_46 : shC[46]? = some (3, 4, 10, [some 47, some 50, some 53, some 56, some 59, some 62, some 65, some 68, some 71, some 74]) := by decide +kernel
theorem sc_47 : shC[47]? = some (0, 0, 0, [some 48, some 49]) := by decide +kernel
theorem sc_48 : shC[48]? = some (2, 3, 16, []) := by decide +kernel
theorem sc_49 : shC[49]? = some (2, 3, 16, []) := by decide +kernel
theorem sc_50 : shC[50]? = some (0, 0, 0, [some 51, some 52]) := by decide +kernel
theorem sc_51 : shC[51]? = some (2, 3, 16, []) := by decide +kernel
theorem sc_52 : shC[52]? = some (2, 3, 16, []) := by decide +kernel
theorem sc_53 : shC[53]? = some (0, 0, 0, [some 54, some 55]) := by decide +kernel
theorem sc_54 : shC[54]? = some (2, 3, 16, []) := by decide +kernel
theorem sc_55 : shC[55]? = some (2, 3, 16, []) := by decide +kernel
theorem sc_56 : shC[56]? = some (0, 0, 0, [some 57, some 58]) := by decide +kernel
theorem sc_57 : shC[57]? = some (2, 3, 16, []) := by decide +kernel
theorem sc_58 : shC[58]? = some (2, 3, 16, []) := by decide +kernel
theorem sc_59 : shC[59]? = some (0, 0, 0, [some 60, some 61]) := by decide +kernel
theorem sc_60 : shC[60]? = some (2, 3, 16, []) := by decide +kernel
theorem sc_61 : shC[61]? = some (2, 3, 16, []) := by decide +kernel
theorem sc_62 : shC[62]? = some (0, 0, 0, [some 63, some 64]) := by decide +kernel
theorem sc_63 : shC[63]? = some (2, 3, 16, []) := by decide +kernel
theorem sc_64 : shC[64]? = some (2, 3, 16, []) := by decide +kernel
theorem sc_65 : shC[65]? = some (0, 0, 0, [some 66, some 67]) := by decide +kernel
theorem sc_66 : shC[66]? = some (2, 3, 16, []) := by decide +kernel
theorem sc_67 : shC[67]? = some (2, 3, 16, []) := by decide +kernel
theorem sc_68 : shC[68]? = some (0, 0, 0, [some 69, some 70]) := by decide +kernel
theorem sc_69 : shC[69]? = some (2, 3, 16, []) := by decide +kernel
theorem sc_70 : shC[70]? = some (2, 3, 16, []) := by decide +kernel
theorem sc_71 : shC[71]? = some (0, 0, 0, [some 72, some 73]) := by decide +kernel
theorem sc_72 : shC[72]? = some (2, 3, 16, []) := by decide +kernel
theorem sc_73 : shC[73]? = some (2, 3, 16, []) := by decide +kernel
theorem sc_74 : shC[74]? = some (0, 0, 0, [some 75, some 76]) := by decide +kernel
theorem sc_75 : shC[75]? = some (2, 3, 16, []) := by decide +kernel
theorem sc_76 : shC[76]? = some (2, 3, 16, []) := by decide +kernel
theorem sc_77 : shC[77]? = some (3, 5, 11, [some 78, some 80, some 82, some 84, some 86, some 88, some 90, some 92, some 94, some 96, some 98]) := by decide +kernel
theorem sc_78 : shC[78]? = some (0, 2, 0, [some 79]) := by decide +kernel
theorem sc_79 : shC[79]? = some (1, 0, 8, []) := by decide +kernel
theorem sc_80 : shC[80]? = some (0, 2, 0, [some 81]) := by decide +kernel
theorem sc_81 : shC[81]? = some (1, 0, 8, []) := by decide +kernel
theorem sc_82 : shC[82]? = some (0, 2, 0, [some 83]) := by decide +kernel
theorem sc_83 : shC[83]? = some (1, 0, 8, []) := by decide +kernel
theorem sc_84 : shC[84]? = some (0, 2, 0, [some 85]) := by decide +kernel
theorem sc_85 : shC[85]? = some (1, 0, 8, []) := by decide +kernel
theorem sc_86 : shC[86]? = some (0, 2, 0, [some 87]) := by decide +kernel
theorem sc_87 : shC[87]? = some (1, 0, 8, []) := by decide +kernel
theorem sc_88 : shC[88]? = some (0, 2, 0, [some 89]) := by decide +kernel
theorem sc_89 : shC[89]? = some (1, 0, 8, []) := by decide +kernel
theorem sc_90 : shC[90]? = some (0, 2, 0, [some 91]) := by decide +kernel
theorem sc_91 : shC[91]? = some (1, 0, 8, []) := by decide +kernel
theorem sc_92 : shC[92]? = some (0, 2, 0, [some 93]) := by decide +kernel
theorem sc_93 : shC[93]? = some (1, 0, 8, []) := by decide +kernel
theorem sc_94 : shC[94]? = some (0, 2, 0, [some 95]) := by decide +kernel
theorem sc_95 : shC[95]? = some (1, 0, 8, []) := by decide +kernel
theorem sc_96 : shC[96]? = some (0, 2, 0, [some 97]) := by decide +kernel
theorem sc_97 : shC[97]? = some (1, 0, 8, []) := by decide +kernel
theorem sc_98 : shC[98]? = some (0, 2, 0, [some 99]) := by decide +kernel
theorem sc_99 : shC[99]? = some (1, 0, 8, []) := by decide +kernel
theorem sc_100 : shC[100]? = some (0, 2, 0, [some 101]) := by decide +kernel
theorem sc_101 : shC[101]? = some (1, 0, 8, []) := by decide +kernel
theorem sc_102 : shC[102]? = some (1, 0, 6, []) := by decide +kernel
theorem sc_103 : shC[103]? = some (0, 5, 0, [none, some 104, some 105, some 106]) := by decide +kernel
theorem sc_104 : shC[104]? = some (1, 0, 10, []) := by decide +kernel
theorem sc_105 : shC[105]? = some (1, 0, 9, []) := by decide +kernel
theorem sc_106 : shC[106]? = some (1, 0, 1024, []) := by decide +kernel
theorem sc_107 : shC[107]? = some (0, 7, 0, [none, some 108, some 109]) := by decide +kernel
theorem sc_108 : shC[108]? = some (1, 0, 6, []) := by decide +kernel
theorem sc_109 : shC[109]? = some (1, 0, 6, []) := by decide +kernel
theorem sc_110 : shC[110]? = some (3, 7, 3, [some 111, some 114, some 117]) := by decide +kernel
theorem sc_111 : shC[111]? = some (0, 9, 0, [none, none, some 112, some 113]) := by decide +kernel
theorem sc_112 : shC[112]? = some (1, 0, 8, []) := by decide +kernel
theorem sc_113 : shC[113]? = some (1, 0, 8, []) := by decide +kernel
theorem sc_114 : shC[114]? = some (0, 9, 0, [none, none, some 115, some 116]) := by decide +kernel
theorem sc_115 : shC[115]? = some (1, 0, 8, []) := by decide +kernel
theorem sc_116 : shC[116]? = some (1, 0, 8, []) := by decide +kernel
theorem sc_117 : shC[117]? = some (0, 9, 0, [none, none, some 118, some 119]) := by decide +kernel
theorem sc_118 : shC[118]? = some (1, 0, 8, []) := by decide +kernel
theorem sc_119 : shC[119]? = some (1, 0, 8, []) := by decide +kernel
theorem sm_0 : shM[0]? = some (0, 12, 0, [some 1, none, none, some 2, none, some 3, none, some 4, some 5, none, some 6, some 7, none, some 8, some 9, some 10, none, none, none, none, none, none, none, none, some 11, some 12, some 13, some 14, some 15, some 16, some 17]) := by decide +kernel
theorem sm_1 : shM[1]? = some (1, 0, 252, []) := by decide +kernel
theorem sm_2 : shM[2]? = some (1, 0, 20, []) := by decide +kernel
theorem sm_3 : shM[3]? = some (1, 0, 18, []) := by decide +kernel
theorem sm_4 : shM[4]? = some (1, 1, 2, []) := by decide +kernel
theorem sm_5 : shM[5]? = some (1, 0, 200, []) := by decide +kernel
theorem sm_6 : shM[6]? = some (1, 0, 6, []) := by decide +kernel
theorem sm_7 : shM[7]? = some (1, 0, 6, []) := by decide +kernel
theorem sm_8 : shM[8]? = some (1, 0, 3, []) := by decide +kernel
theorem sm_9 : shM[9]? = some (1, 0, 24, []) := by decide +kernel
theorem sm_10 : shM[10]? = some (1, 0, 24, []) := by decide +kernel
theorem sm_11 : shM[11]? = some (1, 0, 3, []) := by decide +kernel
theorem sm_12 : shM[12]? = some (1, 0, 40, []) := by decide +kernel
theorem sm_13 : shM[13]? = some (2, 3, 128, []) := by decide +kernel
theorem sm_14 : shM[14]? = some (1, 0, 8, []) := by decide +kernel
theorem sm_15 : shM[15]? = some (2, 3, 8224, []) := by decide +kernel
theorem sm_16 : shM[16]? = some (2, 3, 6, []) := by decide +kernel
theorem sm_17 : shM[17]? = some (1, 0, 10, []) := by decide +kernel
def is_X0 (h : Nat) : Prop := shC[h]? = some (0, 0, 0, [some (h + 1), some (h + 2)]) ∧ shC[h + 1]? = some (2, 3, 16, []) ∧ shC[h + 2]? = some (2, 3, 16, [])
def is_X2 (h : Nat) : Prop := shC[h]? = some (0, 2, 0, [some (h + 1)]) ∧ shC[h + 1]? = some (1, 0, 8, [])
def is_X3 (h : Nat) : Prop := shC[h]? = some (0, 3, 0, [none, none, none, none, some (h + 1), some (h + 2), some (h + 3), some (h + 4), some (h + 5), some (h + 6), some (h + 7)]) ∧ shC[h + 1]? = some (1, 0, 10, []) ∧ shC[h + 2]? = some (1, 0, 10, []) ∧ shC[h + 3]? = some (1, 0, 9, []) ∧ shC[h + 4]? = some (1, 0, 9, []) ∧ shC[h + 5]? = some (1, 0, 6, []) ∧ shC[h + 6]? = some (1, 0, 6, []) ∧ shC[h + 7]? = some (1, 0, 6, [])
def is_X8 (h : Nat) : Prop := shC[h]? = some (0, 8, 0, [none, none, none, some (h + 1), some (h + 2)]) ∧ shC[h + 1]? = some (1, 0, 9, []) ∧ shC[h + 2]? = some (1, 0, 9, [])
def is_X9 (h : Nat) : Prop := shC[h]? = some (0, 9, 0, [none, none, some (h + 1), some (h + 2)]) ∧ shC[h + 1]? = some (1, 0, 8, []) ∧ shC[h + 2]? = some (1, 0, 8, [])
theorem is3_1 : is_X3 1 := ⟨rfl, rfl, rfl, rfl, rfl, rfl, rfl, rfl⟩
theorem is3_10 : is_X3 10 := ⟨rfl, rfl, rfl, rfl, rfl, rfl, rfl, rfl⟩
theorem is8_19 : is_X8 19 := ⟨rfl, rfl, rfl⟩
theorem is8_23 : is_X8 23 := ⟨rfl, rfl, rfl⟩
theorem is8_26 : is_X8 26 := ⟨rfl, rfl, rfl⟩
theorem is0_35 : is_X0 35 := ⟨rfl, rfl, rfl⟩
theorem is0_38 : is_X0 38 := ⟨rfl, rfl, rfl⟩
theorem is0_41 : is_X0 41 := ⟨rfl, rfl, rfl⟩
theorem is0_47 : is_X0 47 := ⟨rfl, rfl, rfl⟩
theorem is0_50 : is_X0 50 := ⟨rfl, rfl, rfl⟩
theorem is0_53 : is_X0 53 := ⟨rfl, rfl, rfl⟩
theorem is0_56 : is_X0 56 := ⟨rfl, rfl, rfl⟩
theorem is0_59 : is_X0 59 := ⟨rfl, rfl, rfl⟩
theorem is0_62 : is_X0 62 := ⟨rfl, rfl, rfl⟩
theorem is0_65 : is_X0 65 := ⟨rfl, rfl, rfl⟩
theorem is0_68 : is_X0 68 := ⟨rfl, rfl, rfl⟩
theorem is0_71 : is_X0 71 := ⟨rfl, rfl, rfl⟩
theorem is0_74 : is_X0 74 := ⟨rfl, rfl, rfl⟩
theorem is2_78 : is_X2 78 := ⟨rfl, rfl⟩
theorem is2_80 : is_X2 80 := ⟨rfl, rfl⟩
theorem is2_82 : is_X2 82 := ⟨rfl, rfl⟩
theorem is2_84 : is_X2 84 := ⟨rfl, rfl⟩
theorem is2_86 : is_X2 86 := ⟨rfl, rfl⟩
theorem is2_88 : is_X2 88 := ⟨rfl, rfl⟩
theorem is2_90 : is_X2 90 := ⟨rfl, rfl⟩
theorem is2_92 : is_X2 92 := ⟨rfl, rfl⟩
theorem is2_94 : is_X2 94 := ⟨rfl, rfl⟩
theorem is2_96 : is_X2 96 := ⟨rfl, rfl⟩
theorem is2_98 : is_X2 98 := ⟨rfl, rfl⟩
theorem is2_100 : is_X2 100 := ⟨rfl, rfl⟩
theorem is9_111 : is_X9 111 := ⟨rfl, rfl, rfl⟩
theorem is9_114 : is_X9 114 := ⟨rfl, rfl, rfl⟩
theorem is9_117 : is_X9 117 := ⟨rfl, rfl, rfl⟩
theorem is8_arr23 : ∀ j, j < 2 → is_X8 (23 + 3 * j) := by
  intro j hj
  rcases (show j = 0 ∨ j = 1 by omega) with rfl | rfl <;> exact ⟨rfl, rfl, rfl⟩
theorem is0_arr47 : ∀ j, j < 10 → is_X0 (47 + 3 * j) := by
  intro j hj
  rcases (show j = 0 ∨ j = 1 ∨ j = 2 ∨ j = 3 ∨ j = 4 ∨ j = 5 ∨ j = 6 ∨ j = 7 ∨ j = 8 ∨ j = 9 by omega) with rfl | rfl | rfl | rfl | rfl | rfl | rfl | rfl | rfl | rfl <;> exact ⟨rfl, rfl, rfl⟩
theorem is2_arr78 : ∀ j, j < 11 → is_X2 (78 + 2 * j) := by
  intro j hj
  rcases (show j = 0 ∨ j = 1 ∨ j = 2 ∨ j = 3 ∨ j = 4 ∨ j = 5 ∨ j = 6 ∨ j = 7 ∨ j = 8 ∨ j = 9 ∨ j = 10 by omega) with rfl | rfl | rfl | rfl | rfl | rfl | rfl | rfl | rfl | rfl | rfl <;> exact ⟨rfl, rfl⟩
theorem is9_arr111 : ∀ j, j < 3 → is_X9 (111 + 3 * j) := by
  intro j hj
  rcases (show j = 0 ∨ j = 1 ∨ j = 2 by omega) with rfl | rfl | rfl <;> exact ⟨rfl, rfl, rfl⟩
