/-! the world behind the constructors -/
def SH : List am_S := [(18, 12, [some 1, some 4, some 9, some 16, some 22, some 29, some 35, some 42, some 46, some 49, some 50, none]), (15, 5, [some 2, some 3, none, none, none]), (0, 12, []), (0, 8, []), (11, 6, [some 5, some 6, some 7, some 8, none, none]), (0, 40, []), (0, 40, []), (0, 40, []), (0, 40, []), (13, 15, [some 10, some 11, some 12, some 13, some 14, some 15, none, none, none, none, none, none, none, none, none]), (0, 120, []), (0, 121, []), (0, 121, []), (0, 120, []), (0, 121, []), (0, 6, []), (14, 6, [some 17, some 18, some 19, some 20, some 21, none]), (0, 20, []), (0, 20, []), (0, 20, []), (0, 20, []), (0, 20, []), (12, 8, [some 23, some 24, some 25, some 26, some 27, some 28, none, none]), (0, 30, []), (0, 30, []), (2, 30, []), (0, 384, []), (0, 384, []), (0, 8, []), (14, 6, [some 30, some 31, some 32, some 33, some 34, none]), (0, 20, []), (0, 20, []), (0, 20, []), (0, 20, []), (0, 20, []), (12, 8, [some 36, some 37, some 38, some 39, some 40, some 41, none, none]), (0, 30, []), (0, 30, []), (2, 30, []), (0, 384, []), (0, 384, []), (0, 8, []), (17, 3, [some 43, some 44, some 45]), (0, 8, []), (0, 256, []), (0, 256, []), (10, 5, [some 47, some 48, none, none, none]), (0, 50, []), (0, 24, []), (3, 6, [some 51, some 53, some 55, some 57, some 59, some 61]), (0, 100, []), (16, 4, [some 52, none, none, none]), (1, 60, []), (16, 4, [some 54, none, none, none]), (1, 60, []), (16, 4, [some 56, none, none, none]), (1, 60, []), (16, 4, [some 58, none, none, none]), (1, 60, []), (16, 4, [some 60, none, none, none]), (1, 60, []), (16, 4, [some 62, none, none, none]), (1, 60, []), (19, 49, [some 64, some 65, some 66, some 67, none, none, none, none, some 68, none, some 69, none, some 70, none, none, none, none, none, none, some 71, none, some 72, some 73, some 74, some 75, none, some 76, none, some 77, some 78, none, none, none, none, some 79, some 80, some 81, some 82, some 83, none, some 84, some 85, none, none, none, some 86, some 87, some 88, some 89]), (0, 22, []), (0, 40, []), (0, 40, []), (0, 40, []), (0, 100, []), (0, 120, []), (0, 120, []), (0, 6, []), (0, 90, []), (0, 8, []), (0, 384, []), (0, 384, []), (2, 48, []), (0, 256, []), (0, 256, []), (0, 100, []), (0, 90, []), (0, 8, []), (0, 384, []), (0, 384, []), (0, 50, []), (0, 24, []), (0, 6, []), (0, 6, []), (1, 360, []), (1, 60, [])]
theorem sh_0 : SH[0]? = some (18, 12, [some 1, some 4, some 9, some 16, some 22, some 29, some 35, some 42, some 46, some 49, some 50, none]) := rfl
theorem sh_1 : SH[1]? = some (15, 5, [some 2, some 3, none, none, none]) := rfl
theorem sh_2 : SH[2]? = some (0, 12, []) := rfl
theorem sh_3 : SH[3]? = some (0, 8, []) := rfl
theorem sh_4 : SH[4]? = some (11, 6, [some 5, some 6, some 7, some 8, none, none]) := rfl
theorem sh_5 : SH[5]? = some (0, 40, []) := rfl
theorem sh_6 : SH[6]? = some (0, 40, []) := rfl
theorem sh_7 : SH[7]? = some (0, 40, []) := rfl
theorem sh_8 : SH[8]? = some (0, 40, []) := rfl
theorem sh_9 : SH[9]? = some (13, 15, [some 10, some 11, some 12, some 13, some 14, some 15, none, none, none, none, none, none, none, none, none]) := rfl
theorem sh_10 : SH[10]? = some (0, 120, []) := rfl
theorem sh_11 : SH[11]? = some (0, 121, []) := rfl
theorem sh_12 : SH[12]? = some (0, 121, []) := rfl
theorem sh_13 : SH[13]? = some (0, 120, []) := rfl
theorem sh_14 : SH[14]? = some (0, 121, []) := rfl
theorem sh_15 : SH[15]? = some (0, 6, []) := rfl
theorem sh_16 : SH[16]? = some (14, 6, [some 17, some 18, some 19, some 20, some 21, none]) := rfl
theorem sh_17 : SH[17]? = some (0, 20, []) := rfl
theorem sh_18 : SH[18]? = some (0, 20, []) := rfl
theorem sh_19 : SH[19]? = some (0, 20, []) := rfl
theorem sh_20 : SH[20]? = some (0, 20, []) := rfl
theorem sh_21 : SH[21]? = some (0, 20, []) := rfl
theorem sh_22 : SH[22]? = some (12, 8, [some 23, some 24, some 25, some 26, some 27, some 28, none, none]) := rfl
theorem sh_23 : SH[23]? = some (0, 30, []) := rfl
theorem sh_24 : SH[24]? = some (0, 30, []) := rfl
theorem sh_25 : SH[25]? = some (2, 30, []) := rfl
theorem sh_26 : SH[26]? = some (0, 384, []) := rfl
theorem sh_27 : SH[27]? = some (0, 384, []) := rfl
theorem sh_28 : SH[28]? = some (0, 8, []) := rfl
theorem sh_29 : SH[29]? = some (14, 6, [some 30, some 31, some 32, some 33, some 34, none]) := rfl
theorem sh_30 : SH[30]? = some (0, 20, []) := rfl
theorem sh_31 : SH[31]? = some (0, 20, []) := rfl
theorem sh_32 : SH[32]? = some (0, 20, []) := rfl
theorem sh_33 : SH[33]? = some (0, 20, []) := rfl
theorem sh_34 : SH[34]? = some (0, 20, []) := rfl
theorem sh_35 : SH[35]? = some (12, 8, [some 36, some 37, some 38, some 39, some 40, some 41, none, none]) := rfl
theorem sh_36 : SH[36]? = some (0, 30, []) := rfl
theorem sh_37 : SH[37]? = some (0, 30, []) := rfl
theorem sh_38 : SH[38]? = some (2, 30, []) := rfl
theorem sh_39 : SH[39]? = some (0, 384, []) := rfl
theorem sh_40 : SH[40]? = some (0, 384, []) := rfl
theorem sh_41 : SH[41]? = some (0, 8, []) := rfl
theorem sh_42 : SH[42]? = some (17, 3, [some 43, some 44, some 45]) := rfl
theorem sh_43 : SH[43]? = some (0, 8, []) := rfl
theorem sh_44 : SH[44]? = some (0, 256, []) := rfl
theorem sh_45 : SH[45]? = some (0, 256, []) := rfl
theorem sh_46 : SH[46]? = some (10, 5, [some 47, some 48, none, none, none]) := rfl
theorem sh_47 : SH[47]? = some (0, 50, []) := rfl
theorem sh_48 : SH[48]? = some (0, 24, []) := rfl
theorem sh_49 : SH[49]? = some (3, 6, [some 51, some 53, some 55, some 57, some 59, some 61]) := rfl
theorem sh_50 : SH[50]? = some (0, 100, []) := rfl
theorem sh_51 : SH[51]? = some (16, 4, [some 52, none, none, none]) := rfl
theorem sh_52 : SH[52]? = some (1, 60, []) := rfl
theorem sh_53 : SH[53]? = some (16, 4, [some 54, none, none, none]) := rfl
theorem sh_54 : SH[54]? = some (1, 60, []) := rfl
theorem sh_55 : SH[55]? = some (16, 4, [some 56, none, none, none]) := rfl
theorem sh_56 : SH[56]? = some (1, 60, []) := rfl
theorem sh_57 : SH[57]? = some (16, 4, [some 58, none, none, none]) := rfl
theorem sh_58 : SH[58]? = some (1, 60, []) := rfl
theorem sh_59 : SH[59]? = some (16, 4, [some 60, none, none, none]) := rfl
theorem sh_60 : SH[60]? = some (1, 60, []) := rfl
theorem sh_61 : SH[61]? = some (16, 4, [some 62, none, none, none]) := rfl
theorem sh_62 : SH[62]? = some (1, 60, []) := rfl
theorem sh_63 : SH[63]? = some (19, 49, [some 64, some 65, some 66, some 67, none, none, none, none, some 68, none, some 69, none, some 70, none, none, none, none, none, none, some 71, none, some 72, some 73, some 74, some 75, none, some 76, none, some 77, some 78, none, none, none, none, some 79, some 80, some 81, some 82, some 83, none, some 84, some 85, none, none, none, some 86, some 87, some 88, some 89]) := rfl
theorem sh_64 : SH[64]? = some (0, 22, []) := rfl
theorem sh_65 : SH[65]? = some (0, 40, []) := rfl
theorem sh_66 : SH[66]? = some (0, 40, []) := rfl
theorem sh_67 : SH[67]? = some (0, 40, []) := rfl
theorem sh_68 : SH[68]? = some (0, 100, []) := rfl
theorem sh_69 : SH[69]? = some (0, 120, []) := rfl
theorem sh_70 : SH[70]? = some (0, 120, []) := rfl
theorem sh_71 : SH[71]? = some (0, 6, []) := rfl
theorem sh_72 : SH[72]? = some (0, 90, []) := rfl
theorem sh_73 : SH[73]? = some (0, 8, []) := rfl
theorem sh_74 : SH[74]? = some (0, 384, []) := rfl
theorem sh_75 : SH[75]? = some (0, 384, []) := rfl
theorem sh_76 : SH[76]? = some (2, 48, []) := rfl
theorem sh_77 : SH[77]? = some (0, 256, []) := rfl
theorem sh_78 : SH[78]? = some (0, 256, []) := rfl
theorem sh_79 : SH[79]? = some (0, 100, []) := rfl
theorem sh_80 : SH[80]? = some (0, 90, []) := rfl
theorem sh_81 : SH[81]? = some (0, 8, []) := rfl
theorem sh_82 : SH[82]? = some (0, 384, []) := rfl
theorem sh_83 : SH[83]? = some (0, 384, []) := rfl
theorem sh_84 : SH[84]? = some (0, 50, []) := rfl
theorem sh_85 : SH[85]? = some (0, 24, []) := rfl
theorem sh_86 : SH[86]? = some (0, 6, []) := rfl
theorem sh_87 : SH[87]? = some (0, 6, []) := rfl
theorem sh_88 : SH[88]? = some (1, 360, []) := rfl
theorem sh_89 : SH[89]? = some (1, 60, []) := rfl
theorem sh_len : SH.length = 90 := rfl
theorem sh_sl : am_sl SH = 7314 := rfl
