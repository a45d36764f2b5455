/-! SHAPES of the two systems (laid by wip/whole/decomp.py) -/
def shM : List zSh := [.inr (.inr (10, [none, some 1, some 2, none, some 3, none, some 4, none, none, none, some 5, none, none, some 6, none, none, none, none, none, none, none, none, none, none, none, none, some 7])), .inl (0, 580), .inl (0, 4640), .inl (0, 580), .inl (0, 580), .inl (1, 60), .inl (1, 1200), .inl (0, 300)]
theorem sM_0 : shM[0]? = some (.inr (.inr (10, [none, some 1, some 2, none, some 3, none, some 4, none, none, none, some 5, none, none, some 6, none, none, none, none, none, none, none, none, none, none, none, none, some 7]))) := rfl
theorem sM_1 : shM[1]? = some (.inl (0, 580)) := rfl
theorem sM_2 : shM[2]? = some (.inl (0, 4640)) := rfl
theorem sM_3 : shM[3]? = some (.inl (0, 580)) := rfl
theorem sM_4 : shM[4]? = some (.inl (0, 580)) := rfl
theorem sM_5 : shM[5]? = some (.inl (1, 60)) := rfl
theorem sM_6 : shM[6]? = some (.inl (1, 1200)) := rfl
theorem sM_7 : shM[7]? = some (.inl (0, 300)) := rfl
def shC : List zSh := [.inr (.inr (9, [some 1, some 14, some 27, some 146, some 149, some 152, some 153, none, none, none, none])), .inr (.inr (7, [some 2, some 4, some 6, some 8, some 10, some 12, none, none])), .inr (.inr (8, [some 3, none, none, none])), .inl (0, 24), .inr (.inr (8, [some 5, none, none, none])), .inl (0, 96), .inr (.inr (8, [some 7, none, none, none])), .inl (0, 40), .inr (.inr (8, [some 9, none, none, none])), .inl (0, 360), .inr (.inr (8, [some 11, none, none, none])), .inl (0, 150), .inr (.inr (8, [some 13, none, none, none])), .inl (0, 26), .inr (.inr (7, [some 15, some 17, some 19, some 21, some 23, some 25, none, none])), .inr (.inr (8, [some 16, none, none, none])), .inl (0, 24), .inr (.inr (8, [some 18, none, none, none])), .inl (0, 96), .inr (.inr (8, [some 20, none, none, none])), .inl (0, 40), .inr (.inr (8, [some 22, none, none, none])), .inl (0, 360), .inr (.inr (8, [some 24, none, none, none])), .inl (0, 150), .inr (.inr (8, [some 26, none, none, none])), .inl (0, 26), .inr (.inr (4, [some 28, none, none])), .inr (.inl (3, [29, 42, 55, 68, 81, 94, 107, 120, 133])), .inr (.inr (7, [some 30, some 32, some 34, some 36, some 38, some 40, none, none])), .inr (.inr (8, [some 31, none, none, none])), .inl (0, 24), .inr (.inr (8, [some 33, none, none, none])), .inl (0, 96), .inr (.inr (8, [some 35, none, none, none])), .inl (0, 40), .inr (.inr (8, [some 37, none, none, none])), .inl (0, 360), .inr (.inr (8, [some 39, none, none, none])), .inl (0, 150), .inr (.inr (8, [some 41, none, none, none])), .inl (0, 26), .inr (.inr (7, [some 43, some 45, some 47, some 49, some 51, some 53, none, none])), .inr (.inr (8, [some 44, none, none, none])), .inl (0, 24), .inr (.inr (8, [some 46, none, none, none])), .inl (0, 96), .inr (.inr (8, [some 48, none, none, none])), .inl (0, 40), .inr (.inr (8, [some 50, none, none, none])), .inl (0, 360), .inr (.inr (8, [some 52, none, none, none])), .inl (0, 150), .inr (.inr (8, [some 54, none, none, none])), .inl (0, 26), .inr (.inr (7, [some 56, some 58, some 60, some 62, some 64, some 66, none, none])), .inr (.inr (8, [some 57, none, none, none])), .inl (0, 24), .inr (.inr (8, [some 59, none, none, none])), .inl (0, 96), .inr (.inr (8, [some 61, none, none, none])), .inl (0, 40), .inr (.inr (8, [some 63, none, none, none])), .inl (0, 360), .inr (.inr (8, [some 65, none, none, none])), .inl (0, 150), .inr (.inr (8, [some 67, none, none, none])), .inl (0, 26), .inr (.inr (7, [some 69, some 71, some 73, some 75, some 77, some 79, none, none])), .inr (.inr (8, [some 70, none, none, none])), .inl (0, 24), .inr (.inr (8, [some 72, none, none, none])), .inl (0, 96), .inr (.inr (8, [some 74, none, none, none])), .inl (0, 40), .inr (.inr (8, [some 76, none, none, none])), .inl (0, 360), .inr (.inr (8, [some 78, none, none, none])), .inl (0, 150), .inr (.inr (8, [some 80, none, none, none])), .inl (0, 26), .inr (.inr (7, [some 82, some 84, some 86, some 88, some 90, some 92, none, none])), .inr (.inr (8, [some 83, none, none, none])), .inl (0, 24), .inr (.inr (8, [some 85, none, none, none])), .inl (0, 96), .inr (.inr (8, [some 87, none, none, none])), .inl (0, 40), .inr (.inr (8, [some 89, none, none, none])), .inl (0, 360), .inr (.inr (8, [some 91, none, none, none])), .inl (0, 150), .inr (.inr (8, [some 93, none, none, none])), .inl (0, 26), .inr (.inr (7, [some 95, some 97, some 99, some 101, some 103, some 105, none, none])), .inr (.inr (8, [some 96, none, none, none])), .inl (0, 24), .inr (.inr (8, [some 98, none, none, none])), .inl (0, 96), .inr (.inr (8, [some 100, none, none, none])), .inl (0, 40), .inr (.inr (8, [some 102, none, none, none])), .inl (0, 360), .inr (.inr (8, [some 104, none, none, none])), .inl (0, 150), .inr (.inr (8, [some 106, none, none, none])), .inl (0, 26), .inr (.inr (7, [some 108, some 110, some 112, some 114, some 116, some 118, none, none])), .inr (.inr (8, [some 109, none, none, none])), .inl (0, 24), .inr (.inr (8, [some 111, none, none, none])), .inl (0, 96), .inr (.inr (8, [some 113, none, none, none])), .inl (0, 40), .inr (.inr (8, [some 115, none, none, none])), .inl (0, 360), .inr (.inr (8, [some 117, none, none, none])), .inl (0, 150), .inr (.inr (8, [some 119, none, none, none])), .inl (0, 26), .inr (.inr (7, [some 121, some 123, some 125, some 127, some 129, some 131, none, none])), .inr (.inr (8, [some 122, none, none, none])), .inl (0, 24), .inr (.inr (8, [some 124, none, none, none])), .inl (0, 96), .inr (.inr (8, [some 126, none, none, none])), .inl (0, 40), .inr (.inr (8, [some 128, none, none, none])), .inl (0, 360), .inr (.inr (8, [some 130, none, none, none])), .inl (0, 150), .inr (.inr (8, [some 132, none, none, none])), .inl (0, 26), .inr (.inr (7, [some 134, some 136, some 138, some 140, some 142, some 144, none, none])), .inr (.inr (8, [some 135, none, none, none])), .inl (0, 24), .inr (.inr (8, [some 137, none, none, none])), .inl (0, 96), .inr (.inr (8, [some 139, none, none, none])), .inl (0, 40), .inr (.inr (8, [some 141, none, none, none])), .inl (0, 360), .inr (.inr (8, [some 143, none, none, none])), .inl (0, 150), .inr (.inr (8, [some 145, none, none, none])), .inl (0, 26), .inr (.inr (6, [some 147, none, none, none])), .inr (.inr (8, [some 148, none, none, none])), .inl (0, 210), .inr (.inr (5, [some 150, none])), .inr (.inr (8, [some 151, none, none, none])), .inl (0, 40)]
theorem sC_0 : shC[0]? = some (.inr (.inr (9, [some 1, some 14, some 27, some 146, some 149, some 152, some 153, none, none, none, none]))) := rfl
theorem sC_1 : shC[1]? = some (.inr (.inr (7, [some 2, some 4, some 6, some 8, some 10, some 12, none, none]))) := rfl
theorem sC_2 : shC[2]? = some (.inr (.inr (8, [some 3, none, none, none]))) := rfl
theorem sC_3 : shC[3]? = some (.inl (0, 24)) := rfl
theorem sC_4 : shC[4]? = some (.inr (.inr (8, [some 5, none, none, none]))) := rfl
theorem sC_5 : shC[5]? = some (.inl (0, 96)) := rfl
theorem sC_6 : shC[6]? = some (.inr (.inr (8, [some 7, none, none, none]))) := rfl
theorem sC_7 : shC[7]? = some (.inl (0, 40)) := rfl
theorem sC_8 : shC[8]? = some (.inr (.inr (8, [some 9, none, none, none]))) := rfl
theorem sC_9 : shC[9]? = some (.inl (0, 360)) := rfl
theorem sC_10 : shC[10]? = some (.inr (.inr (8, [some 11, none, none, none]))) := rfl
theorem sC_11 : shC[11]? = some (.inl (0, 150)) := rfl
theorem sC_12 : shC[12]? = some (.inr (.inr (8, [some 13, none, none, none]))) := rfl
theorem sC_13 : shC[13]? = some (.inl (0, 26)) := rfl
theorem sC_14 : shC[14]? = some (.inr (.inr (7, [some 15, some 17, some 19, some 21, some 23, some 25, none, none]))) := rfl
theorem sC_15 : shC[15]? = some (.inr (.inr (8, [some 16, none, none, none]))) := rfl
theorem sC_16 : shC[16]? = some (.inl (0, 24)) := rfl
theorem sC_17 : shC[17]? = some (.inr (.inr (8, [some 18, none, none, none]))) := rfl
theorem sC_18 : shC[18]? = some (.inl (0, 96)) := rfl
theorem sC_19 : shC[19]? = some (.inr (.inr (8, [some 20, none, none, none]))) := rfl
theorem sC_20 : shC[20]? = some (.inl (0, 40)) := rfl
theorem sC_21 : shC[21]? = some (.inr (.inr (8, [some 22, none, none, none]))) := rfl
theorem sC_22 : shC[22]? = some (.inl (0, 360)) := rfl
theorem sC_23 : shC[23]? = some (.inr (.inr (8, [some 24, none, none, none]))) := rfl
theorem sC_24 : shC[24]? = some (.inl (0, 150)) := rfl
theorem sC_25 : shC[25]? = some (.inr (.inr (8, [some 26, none, none, none]))) := rfl
theorem sC_26 : shC[26]? = some (.inl (0, 26)) := rfl
theorem sC_27 : shC[27]? = some (.inr (.inr (4, [some 28, none, none]))) := rfl
theorem sC_28 : shC[28]? = some (.inr (.inl (3, [29, 42, 55, 68, 81, 94, 107, 120, 133]))) := rfl
theorem sC_29 : shC[29]? = some (.inr (.inr (7, [some 30, some 32, some 34, some 36, some 38, some 40, none, none]))) := rfl
theorem sC_30 : shC[30]? = some (.inr (.inr (8, [some 31, none, none, none]))) := rfl
theorem sC_31 : shC[31]? = some (.inl (0, 24)) := rfl
theorem sC_32 : shC[32]? = some (.inr (.inr (8, [some 33, none, none, none]))) := rfl
theorem sC_33 : shC[33]? = some (.inl (0, 96)) := rfl
theorem sC_34 : shC[34]? = some (.inr (.inr (8, [some 35, none, none, none]))) := rfl
theorem sC_35 : shC[35]? = some (.inl (0, 40)) := rfl
theorem sC_36 : shC[36]? = some (.inr (.inr (8, [some 37, none, none, none]))) := rfl
theorem sC_37 : shC[37]? = some (.inl (0, 360)) := rfl
theorem sC_38 : shC[38]? = some (.inr (.inr (8, [some 39, none, none, none]))) := rfl
theorem sC_39 : shC[39]? = some (.inl (0, 150)) := rfl
theorem sC_40 : shC[40]? = some (.inr (.inr (8, [some 41, none, none, none]))) := rfl
theorem sC_41 : shC[41]? = some (.inl (0, 26)) := rfl
theorem sC_42 : shC[42]? = some (.inr (.inr (7, [some 43, some 45, some 47, some 49, some 51, some 53, none, none]))) := rfl
theorem sC_43 : shC[43]? = some (.inr (.inr (8, [some 44, none, none, none]))) := rfl
theorem sC_44 : shC[44]? = some (.inl (0, 24)) := rfl
theorem sC_45 : shC[45]? = some (.inr (.inr (8, [some 46, none, none, none]))) := rfl
theorem sC_46 : shC[46]? = some (.inl (0, 96)) := rfl
theorem sC_47 : shC[47]? = some (.inr (.inr (8, [some 48, none, none, none]))) := rfl
theorem sC_48 : shC[48]? = some (.inl (0, 40)) := rfl
theorem sC_49 : shC[49]? = some (.inr (.inr (8, [some 50, none, none, none]))) := rfl
theorem sC_50 : shC[50]? = some (.inl (0, 360)) := rfl
theorem sC_51 : shC[51]? = some (.inr (.inr (8, [some 52, none, none, none]))) := rfl
theorem sC_52 : shC[52]? = some (.inl (0, 150)) := rfl
theorem sC_53 : shC[53]? = some (.inr (.inr (8, [some 54, none, none, none]))) := rfl
theorem sC_54 : shC[54]? = some (.inl (0, 26)) := rfl
theorem sC_55 : shC[55]? = some (.inr (.inr (7, [some 56, some 58, some 60, some 62, some 64, some 66, none, none]))) := rfl
theorem sC_56 : shC[56]? = some (.inr (.inr (8, [some 57, none, none, none]))) := rfl
theorem sC_57 : shC[57]? = some (.inl (0, 24)) := rfl
theorem sC_58 : shC[58]? = some (.inr (.inr (8, [some 59, none, none, none]))) := rfl
theorem sC_59 : shC[59]? = some (.inl (0, 96)) := rfl
theorem sC_60 : shC[60]? = some (.inr (.inr (8, [some 61, none, none, none]))) := rfl
theorem sC_61 : shC[61]? = some (.inl (0, 40)) := rfl
theorem sC_62 : shC[62]? = some (.inr (.inr (8, [some 63, none, none, none]))) := rfl
theorem sC_63 : shC[63]? = some (.inl (0, 360)) := rfl
theorem sC_64 : shC[64]? = some (.inr (.inr (8, [some 65, none, none, none]))) := rfl
theorem sC_65 : shC[65]? = some (.inl (0, 150)) := rfl
theorem sC_66 : shC[66]? = some (.inr (.inr (8, [some 67, none, none, none]))) := rfl
theorem sC_67 : shC[67]? = some (.inl (0, 26)) := rfl
theorem sC_68 : shC[68]? = some (.inr (.inr (7, [some 69, some 71, some 73, some 75, some 77, some 79, none, none]))) := rfl
theorem sC_69 : shC[69]? = some (.inr (.inr (8, [some 70, none, none, none]))) := rfl
theorem sC_70 : shC[70]? = some (.inl (0, 24)) := rfl
theorem sC_71 : shC[71]? = some (.inr (.inr (8, [some 72, none, none, none]))) := rfl
theorem sC_72 : shC[72]? = some (.inl (0, 96)) := rfl
theorem sC_73 : shC[73]? = some (.inr (.inr (8, [some 74, none, none, none]))) := rfl
theorem sC_74 : shC[74]? = some (.inl (0, 40)) := rfl
theorem sC_75 : shC[75]? = some (.inr (.inr (8, [some 76, none, none, none]))) := rfl
theorem sC_76 : shC[76]? = some (.inl (0, 360)) := rfl
theorem sC_77 : shC[77]? = some (.inr (.inr (8, [some 78, none, none, none]))) := rfl
theorem sC_78 : shC[78]? = some (.inl (0, 150)) := rfl
theorem sC_79 : shC[79]? = some (.inr (.inr (8, [some 80, none, none, none]))) := rfl
theorem sC_80 : shC[80]? = some (.inl (0, 26)) := rfl
theorem sC_81 : shC[81]? = some (.inr (.inr (7, [some 82, some 84, some 86, some 88, some 90, some 92, none, none]))) := rfl
theorem sC_82 : shC[82]? = some (.inr (.inr (8, [some 83, none, none, none]))) := rfl
theorem sC_83 : shC[83]? = some (.inl (0, 24)) := rfl
theorem sC_84 : shC[84]? = some (.inr (.inr (8, [some 85, none, none, none]))) := rfl
theorem sC_85 : shC[85]? = some (.inl (0, 96)) := rfl
theorem sC_86 : shC[86]? = some (.inr (.inr (8, [some 87, none, none, none]))) := rfl
theorem sC_87 : shC[87]? = some (.inl (0, 40)) := rfl
theorem sC_88 : shC[88]? = some (.inr (.inr (8, [some 89, none, none, none]))) := rfl
theorem sC_89 : shC[89]? = some (.inl (0, 360)) := rfl
theorem sC_90 : shC[90]? = some (.inr (.inr (8, [some 91, none, none, none]))) := rfl
theorem sC_91 : shC[91]? = some (.inl (0, 150)) := rfl
theorem sC_92 : shC[92]? = some (.inr (.inr (8, [some 93, none, none, none]))) := rfl
theorem sC_93 : shC[93]? = some (.inl (0, 26)) := rfl
theorem sC_94 : shC[94]? = some (.inr (.inr (7, [some 95, some 97, some 99, some 101, some 103, some 105, none, none]))) := rfl
theorem sC_95 : shC[95]? = some (.inr (.inr (8, [some 96, none, none, none]))) := rfl
theorem sC_96 : shC[96]? = some (.inl (0, 24)) := rfl
theorem sC_97 : shC[97]? = some (.inr (.inr (8, [some 98, none, none, none]))) := rfl
theorem sC_98 : shC[98]? = some (.inl (0, 96)) := rfl
theorem sC_99 : shC[99]? = some (.inr (.inr (8, [some 100, none, none, none]))) := rfl
theorem sC_100 : shC[100]? = some (.inl (0, 40)) := rfl
theorem sC_101 : shC[101]? = some (.inr (.inr (8, [some 102, none, none, none]))) := rfl
theorem sC_102 : shC[102]? = some (.inl (0, 360)) := rfl
theorem sC_103 : shC[103]? = some (.inr (.inr (8, [some 104, none, none, none]))) := rfl
theorem sC_104 : shC[104]? = some (.inl (0, 150)) := rfl
theorem sC_105 : shC[105]? = some (.inr (.inr (8, [some 106, none, none, none]))) := rfl
theorem sC_106 : shC[106]? = some (.inl (0, 26)) := rfl
theorem sC_107 : shC[107]? = some (.inr (.inr (7, [some 108, some 110, some 112, some 114, some 116, some 118, none, none]))) := rfl
theorem sC_108 : shC[108]? = some (.inr (.inr (8, [some 109, none, none, none]))) := rfl
theorem sC_109 : shC[109]? = some (.inl (0, 24)) := rfl
theorem sC_110 : shC[110]? = some (.inr (.inr (8, [some 111, none, none, none]))) := rfl
theorem sC_111 : shC[111]? = some (.inl (0, 96)) := rfl
theorem sC_112 : shC[112]? = some (.inr (.inr (8, [some 113, none, none, none]))) := rfl
theorem sC_113 : shC[113]? = some (.inl (0, 40)) := rfl
theorem sC_114 : shC[114]? = some (.inr (.inr (8, [some 115, none, none, none]))) := rfl
theorem sC_115 : shC[115]? = some (.inl (0, 360)) := rfl
theorem sC_116 : shC[116]? = some (.inr (.inr (8, [some 117, none, none, none]))) := rfl
theorem sC_117 : shC[117]? = some (.inl (0, 150)) := rfl
theorem sC_118 : shC[118]? = some (.inr (.inr (8, [some 119, none, none, none]))) := rfl
theorem sC_119 : shC[119]? = some (.inl (0, 26)) := rfl
theorem sC_120 : shC[120]? = some (.inr (.inr (7, [some 121, some 123, some 125, some 127, some 129, some 131, none, none]))) := rfl
theorem sC_121 : shC[121]? = some (.inr (.inr (8, [some 122, none, none, none]))) := rfl
theorem sC_122 : shC[122]? = some (.inl (0, 24)) := rfl
theorem sC_123 : shC[123]? = some (.inr (.inr (8, [some 124, none, none, none]))) := rfl
theorem sC_124 : shC[124]? = some (.inl (0, 96)) := rfl
theorem sC_125 : shC[125]? = some (.inr (.inr (8, [some 126, none, none, none]))) := rfl
theorem sC_126 : shC[126]? = some (.inl (0, 40)) := rfl
theorem sC_127 : shC[127]? = some (.inr (.inr (8, [some 128, none, none, none]))) := rfl
theorem sC_128 : shC[128]? = some (.inl (0, 360)) := rfl
theorem sC_129 : shC[129]? = some (.inr (.inr (8, [some 130, none, none, none]))) := rfl
theorem sC_130 : shC[130]? = some (.inl (0, 150)) := rfl
theorem sC_131 : shC[131]? = some (.inr (.inr (8, [some 132, none, none, none]))) := rfl
theorem sC_132 : shC[132]? = some (.inl (0, 26)) := rfl
theorem sC_133 : shC[133]? = some (.inr (.inr (7, [some 134, some 136, some 138, some 140, some 142, some 144, none, none]))) := rfl
theorem sC_134 : shC[134]? = some (.inr (.inr (8, [some 135, none, none, none]))) := rfl
theorem sC_135 : shC[135]? = some (.inl (0, 24)) := rfl
theorem sC_136 : shC[136]? = some (.inr (.inr (8, [some 137, none, none, none]))) := rfl
theorem sC_137 : shC[137]? = some (.inl (0, 96)) := rfl
theorem sC_138 : shC[138]? = some (.inr (.inr (8, [some 139, none, none, none]))) := rfl
theorem sC_139 : shC[139]? = some (.inl (0, 40)) := rfl
theorem sC_140 : shC[140]? = some (.inr (.inr (8, [some 141, none, none, none]))) := rfl
theorem sC_141 : shC[141]? = some (.inl (0, 360)) := rfl
theorem sC_142 : shC[142]? = some (.inr (.inr (8, [some 143, none, none, none]))) := rfl
theorem sC_143 : shC[143]? = some (.inl (0, 150)) := rfl
theorem sC_144 : shC[144]? = some (.inr (.inr (8, [some 145, none, none, none]))) := rfl
theorem sC_145 : shC[145]? = some (.inl (0, 26)) := rfl
theorem sC_146 : shC[146]? = some (.inr (.inr (6, [some 147, none, none, none]))) := rfl
theorem sC_147 : shC[147]? = some (.inr (.inr (8, [some 148, none, none, none]))) := rfl
theorem sC_148 : shC[148]? = some (.inl (0, 210)) := rfl
theorem sC_149 : shC[149]? = some (.inr (.inr (5, [some 150, none]))) := rfl
theorem sC_150 : shC[150]? = some (.inr (.inr (8, [some 151, none, none, none]))) := rfl
theorem sC_151 : shC[151]? = some (.inl (0, 40)) := rfl
def zSt (r : Nat) : Prop := shC[r]? = some (.inr (.inr (7, [some (r + 1), some (r + 3), some (r + 5), some (r + 7), some (r + 9), some (r + 11), none, none]))) ∧ shC[r + 1]? = some (.inr (.inr (8, [some (r + 1 + 1), none, none, none]))) ∧ shC[r + 1 + 1]? = some (.inl (0, 24)) ∧ shC[r + 3]? = some (.inr (.inr (8, [some (r + 3 + 1), none, none, none]))) ∧ shC[r + 3 + 1]? = some (.inl (0, 96)) ∧ shC[r + 5]? = some (.inr (.inr (8, [some (r + 5 + 1), none, none, none]))) ∧ shC[r + 5 + 1]? = some (.inl (0, 40)) ∧ shC[r + 7]? = some (.inr (.inr (8, [some (r + 7 + 1), none, none, none]))) ∧ shC[r + 7 + 1]? = some (.inl (0, 360)) ∧ shC[r + 9]? = some (.inr (.inr (8, [some (r + 9 + 1), none, none, none]))) ∧ shC[r + 9 + 1]? = some (.inl (0, 150)) ∧ shC[r + 11]? = some (.inr (.inr (8, [some (r + 11 + 1), none, none, none]))) ∧ shC[r + 11 + 1]? = some (.inl (0, 26))
theorem zSt_0 {r : Nat} (h : zSt r) : shC[r]? = some (.inr (.inr (7, [some (r + 1), some (r + 3), some (r + 5), some (r + 7), some (r + 9), some (r + 11), none, none]))) := h.1
theorem zSt_1 {r : Nat} (h : zSt r) : shC[r + 1]? = some (.inr (.inr (8, [some (r + 1 + 1), none, none, none]))) := h.2.1
theorem zSt_2 {r : Nat} (h : zSt r) : shC[r + 1 + 1]? = some (.inl (0, 24)) := h.2.2.1
theorem zSt_3 {r : Nat} (h : zSt r) : shC[r + 3]? = some (.inr (.inr (8, [some (r + 3 + 1), none, none, none]))) := h.2.2.2.1
theorem zSt_4 {r : Nat} (h : zSt r) : shC[r + 3 + 1]? = some (.inl (0, 96)) := h.2.2.2.2.1
theorem zSt_5 {r : Nat} (h : zSt r) : shC[r + 5]? = some (.inr (.inr (8, [some (r + 5 + 1), none, none, none]))) := h.2.2.2.2.2.1
theorem zSt_6 {r : Nat} (h : zSt r) : shC[r + 5 + 1]? = some (.inl (0, 40)) := h.2.2.2.2.2.2.1
theorem zSt_7 {r : Nat} (h : zSt r) : shC[r + 7]? = some (.inr (.inr (8, [some (r + 7 + 1), none, none, none]))) := h.2.2.2.2.2.2.2.1
theorem zSt_8 {r : Nat} (h : zSt r) : shC[r + 7 + 1]? = some (.inl (0, 360)) := h.2.2.2.2.2.2.2.2.1
theorem zSt_9 {r : Nat} (h : zSt r) : shC[r + 9]? = some (.inr (.inr (8, [some (r + 9 + 1), none, none, none]))) := h.2.2.2.2.2.2.2.2.2.1
theorem zSt_10 {r : Nat} (h : zSt r) : shC[r + 9 + 1]? = some (.inl (0, 150)) := h.2.2.2.2.2.2.2.2.2.2.1
theorem zSt_11 {r : Nat} (h : zSt r) : shC[r + 11]? = some (.inr (.inr (8, [some (r + 11 + 1), none, none, none]))) := h.2.2.2.2.2.2.2.2.2.2.2.1
theorem zSt_12 {r : Nat} (h : zSt r) : shC[r + 11 + 1]? = some (.inl (0, 26)) := h.2.2.2.2.2.2.2.2.2.2.2.2
theorem zSt_b1 : zSt 1 := ⟨rfl, rfl, rfl, rfl, rfl, rfl, rfl, rfl, rfl, rfl, rfl, rfl, rfl⟩
theorem zSt_b14 : zSt 14 := ⟨rfl, rfl, rfl, rfl, rfl, rfl, rfl, rfl, rfl, rfl, rfl, rfl, rfl⟩
theorem zSt_b29 : zSt 29 := ⟨rfl, rfl, rfl, rfl, rfl, rfl, rfl, rfl, rfl, rfl, rfl, rfl, rfl⟩
theorem zSt_b42 : zSt 42 := ⟨rfl, rfl, rfl, rfl, rfl, rfl, rfl, rfl, rfl, rfl, rfl, rfl, rfl⟩
theorem zSt_b55 : zSt 55 := ⟨rfl, rfl, rfl, rfl, rfl, rfl, rfl, rfl, rfl, rfl, rfl, rfl, rfl⟩
theorem zSt_b68 : zSt 68 := ⟨rfl, rfl, rfl, rfl, rfl, rfl, rfl, rfl, rfl, rfl, rfl, rfl, rfl⟩
theorem zSt_b81 : zSt 81 := ⟨rfl, rfl, rfl, rfl, rfl, rfl, rfl, rfl, rfl, rfl, rfl, rfl, rfl⟩
theorem zSt_b94 : zSt 94 := ⟨rfl, rfl, rfl, rfl, rfl, rfl, rfl, rfl, rfl, rfl, rfl, rfl, rfl⟩
theorem zSt_b107 : zSt 107 := ⟨rfl, rfl, rfl, rfl, rfl, rfl, rfl, rfl, rfl, rfl, rfl, rfl, rfl⟩
theorem zSt_b120 : zSt 120 := ⟨rfl, rfl, rfl, rfl, rfl, rfl, rfl, rfl, rfl, rfl, rfl, rfl, rfl⟩
theorem zSt_b133 : zSt 133 := ⟨rfl, rfl, rfl, rfl, rfl, rfl, rfl, rfl, rfl, rfl, rfl, rfl, rfl⟩
theorem z_9 {i : Int32} (h : ¬ (i < 0 ∨ 9 ≤ i.toNatClampNeg)) : ∃ k : Nat, k < 9 ∧ i.toNatClampNeg = k := ⟨_, by omega, rfl⟩
theorem zSt_slot {i : Int32} (h : ¬ (i < 0 ∨ 9 ≤ i.toNatClampNeg)) : zSt (29 + 13 * i.toNatClampNeg) := by
  obtain ⟨k, hk, e⟩ := z_9 h
  rw [e]
  match k, hk with
  | 0, _ => exact zSt_b29
  | 1, _ => exact zSt_b42
  | 2, _ => exact zSt_b55
  | 3, _ => exact zSt_b68
  | 4, _ => exact zSt_b81
  | 5, _ => exact zSt_b94
  | 6, _ => exact zSt_b107
  | 7, _ => exact zSt_b120
  | 8, _ => exact zSt_b133
theorem z_slot {i : Int32} (h : ¬ (i < 0 ∨ 9 ≤ i.toNatClampNeg)) : ([29, 42, 55, 68, 81, 94, 107, 120, 133] : List Nat)[i.toNatClampNeg]? = some (29 + 13 * i.toNatClampNeg) := by
  obtain ⟨k, hk, e⟩ := z_9 h
  rw [e]
  match k, hk with
  | 0, _ => rfl
  | 1, _ => rfl
  | 2, _ => rfl
  | 3, _ => rfl
  | 4, _ => rfl
  | 5, _ => rfl
  | 6, _ => rfl
  | 7, _ => rfl
  | 8, _ => rfl

