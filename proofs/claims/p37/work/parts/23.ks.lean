/-! kinds of cells -/
theorem ks_0 : KS[0]? = some (0, 9) := by decide +kernel
theorem ks_1 : KS[1]? = some (1, 240) := by decide +kernel
theorem ks_2 : KS[2]? = some (0, 6) := by decide +kernel
theorem ks_3 : KS[3]? = some (1, 0) := by decide +kernel
theorem ks_4 : KS[4]? = some (0, 1) := by decide +kernel
theorem ks_5 : KS[5]? = some (1, 8) := by decide +kernel
theorem ks_6 : KS[6]? = some (1, 24) := by decide +kernel
theorem ks_7 : KS[7]? = some (1, 8) := by decide +kernel
theorem ks_8 : KS[8]? = some (1, 6) := by decide +kernel
theorem ks_9 : KS[9]? = some (1, 6) := by decide +kernel
theorem ks_10 : KS[10]? = some (1, 6) := by decide +kernel
theorem ks_11 : KS[11]? = some (1, 6) := by decide +kernel
theorem ks_12 : KS[12]? = some (1, 6) := by decide +kernel
theorem ks_13 : KS[13]? = some (1, 12) := by decide +kernel
theorem ks_14 : KS[14]? = some (0, 1) := by decide +kernel
theorem ks_15 : KS[15]? = some (1, 8) := by decide +kernel
theorem ks_16 : KS[16]? = some (1, 24) := by decide +kernel
theorem ks_17 : KS[17]? = some (1, 8) := by decide +kernel
theorem ks_18 : KS[18]? = some (1, 6) := by decide +kernel
theorem ks_19 : KS[19]? = some (1, 6) := by decide +kernel
theorem ks_20 : KS[20]? = some (1, 6) := by decide +kernel
theorem ks_21 : KS[21]? = some (1, 6) := by decide +kernel
theorem ks_22 : KS[22]? = some (1, 6) := by decide +kernel
theorem ks_23 : KS[23]? = some (1, 12) := by decide +kernel
theorem ks_24 : KS[24]? = some (0, 7) := by decide +kernel
theorem ks_25 : KS[25]? = some (1, 6) := by decide +kernel
theorem ks_26 : KS[26]? = some (1, 6) := by decide +kernel
theorem ks_27 : KS[27]? = some (1, 6) := by decide +kernel
theorem ks_28 : KS[28]? = some (0, 5) := by decide +kernel
theorem ks_29 : KS[29]? = some (3, 16) := by decide +kernel
theorem ks_30 : KS[30]? = some (0, 7) := by decide +kernel
theorem ks_31 : KS[31]? = some (1, 6) := by decide +kernel
theorem ks_32 : KS[32]? = some (1, 6) := by decide +kernel
theorem ks_33 : KS[33]? = some (1, 6) := by decide +kernel
theorem ks_34 : KS[34]? = some (0, 7) := by decide +kernel
theorem ks_35 : KS[35]? = some (1, 6) := by decide +kernel
theorem ks_36 : KS[36]? = some (1, 6) := by decide +kernel
theorem ks_37 : KS[37]? = some (1, 6) := by decide +kernel
theorem ks_38 : KS[38]? = some (0, 7) := by decide +kernel
theorem ks_39 : KS[39]? = some (1, 6) := by decide +kernel
theorem ks_40 : KS[40]? = some (1, 6) := by decide +kernel
theorem ks_41 : KS[41]? = some (1, 6) := by decide +kernel
theorem ks_42 : KS[42]? = some (0, 7) := by decide +kernel
theorem ks_43 : KS[43]? = some (1, 6) := by decide +kernel
theorem ks_44 : KS[44]? = some (1, 6) := by decide +kernel
theorem ks_45 : KS[45]? = some (1, 6) := by decide +kernel
theorem ks_46 : KS[46]? = some (0, 7) := by decide +kernel
theorem ks_47 : KS[47]? = some (1, 6) := by decide +kernel
theorem ks_48 : KS[48]? = some (1, 6) := by decide +kernel
theorem ks_49 : KS[49]? = some (1, 6) := by decide +kernel
theorem ks_50 : KS[50]? = some (0, 7) := by decide +kernel
theorem ks_51 : KS[51]? = some (1, 6) := by decide +kernel
theorem ks_52 : KS[52]? = some (1, 6) := by decide +kernel
theorem ks_53 : KS[53]? = some (1, 6) := by decide +kernel
theorem ks_54 : KS[54]? = some (0, 7) := by decide +kernel
theorem ks_55 : KS[55]? = some (1, 6) := by decide +kernel
theorem ks_56 : KS[56]? = some (1, 6) := by decide +kernel
theorem ks_57 : KS[57]? = some (1, 6) := by decide +kernel
theorem ks_58 : KS[58]? = some (0, 7) := by decide +kernel
theorem ks_59 : KS[59]? = some (1, 6) := by decide +kernel
theorem ks_60 : KS[60]? = some (1, 6) := by decide +kernel
theorem ks_61 : KS[61]? = some (1, 6) := by decide +kernel
theorem ks_62 : KS[62]? = some (0, 7) := by decide +kernel
theorem ks_63 : KS[63]? = some (1, 6) := by decide +kernel
theorem ks_64 : KS[64]? = some (1, 6) := by decide +kernel
theorem ks_65 : KS[65]? = some (1, 6) := by decide +kernel
theorem ks_66 : KS[66]? = some (0, 7) := by decide +kernel
theorem ks_67 : KS[67]? = some (1, 6) := by decide +kernel
theorem ks_68 : KS[68]? = some (1, 6) := by decide +kernel
theorem ks_69 : KS[69]? = some (1, 6) := by decide +kernel
theorem ks_70 : KS[70]? = some (0, 7) := by decide +kernel
theorem ks_71 : KS[71]? = some (1, 6) := by decide +kernel
theorem ks_72 : KS[72]? = some (1, 6) := by decide +kernel
theorem ks_73 : KS[73]? = some (1, 6) := by decide +kernel
theorem ks_74 : KS[74]? = some (0, 7) := by decide +kernel
theorem ks_75 : KS[75]? = some (1, 6) := by decide +kernel
theorem ks_76 : KS[76]? = some (1, 6) := by decide +kernel
theorem ks_77 : KS[77]? = some (1, 6) := by decide +kernel
theorem ks_78 : KS[78]? = some (0, 7) := by decide +kernel
theorem ks_79 : KS[79]? = some (1, 6) := by decide +kernel
theorem ks_80 : KS[80]? = some (1, 6) := by decide +kernel
theorem ks_81 : KS[81]? = some (1, 6) := by decide +kernel
theorem ks_82 : KS[82]? = some (0, 7) := by decide +kernel
theorem ks_83 : KS[83]? = some (1, 6) := by decide +kernel
theorem ks_84 : KS[84]? = some (1, 6) := by decide +kernel
theorem ks_85 : KS[85]? = some (1, 6) := by decide +kernel
theorem ks_86 : KS[86]? = some (0, 7) := by decide +kernel
theorem ks_87 : KS[87]? = some (1, 6) := by decide +kernel
theorem ks_88 : KS[88]? = some (1, 6) := by decide +kernel
theorem ks_89 : KS[89]? = some (1, 6) := by decide +kernel
theorem ks_90 : KS[90]? = some (0, 7) := by decide +kernel
theorem ks_91 : KS[91]? = some (1, 6) := by decide +kernel
theorem ks_92 : KS[92]? = some (1, 6) := by decide +kernel
theorem ks_93 : KS[93]? = some (1, 6) := by decide +kernel
theorem ks_94 : KS[94]? = some (0, 3) := by decide +kernel
theorem ks_95 : KS[95]? = some (3, 2) := by decide +kernel
theorem ks_96 : KS[96]? = some (0, 7) := by decide +kernel
theorem ks_97 : KS[97]? = some (1, 6) := by decide +kernel
theorem ks_98 : KS[98]? = some (1, 6) := by decide +kernel
theorem ks_99 : KS[99]? = some (1, 6) := by decide +kernel
theorem ks_100 : KS[100]? = some (0, 7) := by decide +kernel
theorem ks_101 : KS[101]? = some (1, 6) := by decide +kernel
theorem ks_102 : KS[102]? = some (1, 6) := by decide +kernel
theorem ks_103 : KS[103]? = some (1, 6) := by decide +kernel
theorem ks_104 : KS[104]? = some (1, 2) := by decide +kernel
theorem ks_105 : KS[105]? = some (0, 2) := by decide +kernel
theorem ks_106 : KS[106]? = some (1, 8) := by decide +kernel
theorem ks_107 : KS[107]? = some (0, 0) := by decide +kernel
theorem ks_108 : KS[108]? = some (1, 15) := by decide +kernel
theorem ks_109 : KS[109]? = some (1, 15) := by decide +kernel
theorem ks_110 : KS[110]? = some (0, 8) := by decide +kernel
theorem ks_111 : KS[111]? = some (1, 256) := by decide +kernel
theorem ks_112 : KS[112]? = some (1, 256) := by decide +kernel
theorem ks_113 : KS[113]? = some (1, 256) := by decide +kernel
theorem ks_114 : KS[114]? = some (0, 4) := by decide +kernel
theorem ks_115 : KS[115]? = some (1, 36) := by decide +kernel
theorem ks_116 : KS[116]? = some (1, 36) := by decide +kernel
theorem ks_117 : KS[117]? = some (1, 448) := by decide +kernel
theorem ks_118 : KS[118]? = some (1, 55) := by decide +kernel
theorem ks_119 : KS[119]? = some (1, 12) := by decide +kernel
theorem ks_120 : KS[120]? = some (1, 22) := by decide +kernel
theorem kt_1 : kt 1 = 1 := by decide +kernel
theorem kt_3 : kt 3 = 1 := by decide +kernel
theorem kt_5 : kt 5 = 1 := by decide +kernel
theorem kt_6 : kt 6 = 1 := by decide +kernel
theorem kt_7 : kt 7 = 1 := by decide +kernel
theorem kt_8 : kt 8 = 1 := by decide +kernel
theorem kt_9 : kt 9 = 1 := by decide +kernel
theorem kt_10 : kt 10 = 1 := by decide +kernel
theorem kt_11 : kt 11 = 1 := by decide +kernel
theorem kt_12 : kt 12 = 1 := by decide +kernel
theorem kt_13 : kt 13 = 1 := by decide +kernel
theorem kt_15 : kt 15 = 1 := by decide +kernel
theorem kt_16 : kt 16 = 1 := by decide +kernel
theorem kt_17 : kt 17 = 1 := by decide +kernel
theorem kt_18 : kt 18 = 1 := by decide +kernel
theorem kt_19 : kt 19 = 1 := by decide +kernel
theorem kt_20 : kt 20 = 1 := by decide +kernel
theorem kt_21 : kt 21 = 1 := by decide +kernel
theorem kt_22 : kt 22 = 1 := by decide +kernel
theorem kt_23 : kt 23 = 1 := by decide +kernel
theorem kt_25 : kt 25 = 1 := by decide +kernel
theorem kt_26 : kt 26 = 1 := by decide +kernel
theorem kt_27 : kt 27 = 1 := by decide +kernel
theorem kt_29 : kt 29 = 3 := by decide +kernel
theorem kt_31 : kt 31 = 1 := by decide +kernel
theorem kt_32 : kt 32 = 1 := by decide +kernel
theorem kt_33 : kt 33 = 1 := by decide +kernel
theorem kt_35 : kt 35 = 1 := by decide +kernel
theorem kt_36 : kt 36 = 1 := by decide +kernel
theorem kt_37 : kt 37 = 1 := by decide +kernel
theorem kt_39 : kt 39 = 1 := by decide +kernel
theorem kt_40 : kt 40 = 1 := by decide +kernel
theorem kt_41 : kt 41 = 1 := by decide +kernel
theorem kt_43 : kt 43 = 1 := by decide +kernel
theorem kt_44 : kt 44 = 1 := by decide +kernel
theorem kt_45 : kt 45 = 1 := by decide +kernel
theorem kt_47 : kt 47 = 1 := by decide +kernel
theorem kt_48 : kt 48 = 1 := by decide +kernel
theorem kt_49 : kt 49 = 1 := by decide +kernel
theorem kt_51 : kt 51 = 1 := by decide +kernel
theorem kt_52 : kt 52 = 1 := by decide +kernel
theorem kt_53 : kt 53 = 1 := by decide +kernel
theorem kt_55 : kt 55 = 1 := by decide +kernel
theorem kt_56 : kt 56 = 1 := by decide +kernel
theorem kt_57 : kt 57 = 1 := by decide +kernel
theorem kt_59 : kt 59 = 1 := by decide +kernel
theorem kt_60 : kt 60 = 1 := by decide +kernel
theorem kt_61 : kt 61 = 1 := by decide +kernel
theorem kt_63 : kt 63 = 1 := by decide +kernel
theorem kt_64 : kt 64 = 1 := by decide +kernel
theorem kt_65 : kt 65 = 1 := by decide +kernel
theorem kt_67 : kt 67 = 1 := by decide +kernel
theorem kt_68 : kt 68 = 1 := by decide +kernel
theorem kt_69 : kt 69 = 1 := by decide +kernel
theorem kt_71 : kt 71 = 1 := by decide +kernel
theorem kt_72 : kt 72 = 1 := by decide +kernel
theorem kt_73 : kt 73 = 1 := by decide +kernel
theorem kt_75 : kt 75 = 1 := by decide +kernel
theorem kt_76 : kt 76 = 1 := by decide +kernel
theorem kt_77 : kt 77 = 1 := by decide +kernel
theorem kt_79 : kt 79 = 1 := by decide +kernel
theorem kt_80 : kt 80 = 1 := by decide +kernel
theorem kt_81 : kt 81 = 1 := by decide +kernel
theorem kt_83 : kt 83 = 1 := by decide +kernel
theorem kt_84 : kt 84 = 1 := by decide +kernel
theorem kt_85 : kt 85 = 1 := by decide +kernel
theorem kt_87 : kt 87 = 1 := by decide +kernel
theorem kt_88 : kt 88 = 1 := by decide +kernel
theorem kt_89 : kt 89 = 1 := by decide +kernel
theorem kt_91 : kt 91 = 1 := by decide +kernel
theorem kt_92 : kt 92 = 1 := by decide +kernel
theorem kt_93 : kt 93 = 1 := by decide +kernel
theorem kt_95 : kt 95 = 3 := by decide +kernel
theorem kt_97 : kt 97 = 1 := by decide +kernel
theorem kt_98 : kt 98 = 1 := by decide +kernel
theorem kt_99 : kt 99 = 1 := by decide +kernel
theorem kt_101 : kt 101 = 1 := by decide +kernel
theorem kt_102 : kt 102 = 1 := by decide +kernel
theorem kt_103 : kt 103 = 1 := by decide +kernel
theorem kt_104 : kt 104 = 1 := by decide +kernel
theorem kt_106 : kt 106 = 1 := by decide +kernel
theorem kt_108 : kt 108 = 1 := by decide +kernel
theorem kt_109 : kt 109 = 1 := by decide +kernel
theorem kt_111 : kt 111 = 1 := by decide +kernel
theorem kt_112 : kt 112 = 1 := by decide +kernel
theorem kt_113 : kt 113 = 1 := by decide +kernel
theorem kt_115 : kt 115 = 1 := by decide +kernel
theorem kt_116 : kt 116 = 1 := by decide +kernel
theorem kt_117 : kt 117 = 1 := by decide +kernel
theorem kt_118 : kt 118 = 1 := by decide +kernel
theorem kt_119 : kt 119 = 1 := by decide +kernel
theorem kt_120 : kt 120 = 1 := by decide +kernel
theorem kl_1 : kl 1 = 240 := by decide +kernel
theorem kl_3 : kl 3 = 0 := by decide +kernel
theorem kl_5 : kl 5 = 8 := by decide +kernel
theorem kl_6 : kl 6 = 24 := by decide +kernel
theorem kl_7 : kl 7 = 8 := by decide +kernel
theorem kl_8 : kl 8 = 6 := by decide +kernel
theorem kl_9 : kl 9 = 6 := by decide +kernel
theorem kl_10 : kl 10 = 6 := by decide +kernel
theorem kl_11 : kl 11 = 6 := by decide +kernel
theorem kl_12 : kl 12 = 6 := by decide +kernel
theorem kl_13 : kl 13 = 12 := by decide +kernel
theorem kl_15 : kl 15 = 8 := by decide +kernel
theorem kl_16 : kl 16 = 24 := by decide +kernel
theorem kl_17 : kl 17 = 8 := by decide +kernel
theorem kl_18 : kl 18 = 6 := by decide +kernel
theorem kl_19 : kl 19 = 6 := by decide +kernel
theorem kl_20 : kl 20 = 6 := by decide +kernel
theorem kl_21 : kl 21 = 6 := by decide +kernel
theorem kl_22 : kl 22 = 6 := by decide +kernel
theorem kl_23 : kl 23 = 12 := by decide +kernel
theorem kl_25 : kl 25 = 6 := by decide +kernel
theorem kl_26 : kl 26 = 6 := by decide +kernel
theorem kl_27 : kl 27 = 6 := by decide +kernel
theorem kl_29 : kl 29 = 16 := by decide +kernel
theorem kl_31 : kl 31 = 6 := by decide +kernel
theorem kl_32 : kl 32 = 6 := by decide +kernel
theorem kl_33 : kl 33 = 6 := by decide +kernel
theorem kl_35 : kl 35 = 6 := by decide +kernel
theorem kl_36 : kl 36 = 6 := by decide +kernel
theorem kl_37 : kl 37 = 6 := by decide +kernel
theorem kl_39 : kl 39 = 6 := by decide +kernel
theorem kl_40 : kl 40 = 6 := by decide +kernel
theorem kl_41 : kl 41 = 6 := by decide +kernel
theorem kl_43 : kl 43 = 6 := by decide +kernel
theorem kl_44 : kl 44 = 6 := by decide +kernel
theorem kl_45 : kl 45 = 6 := by decide +kernel
theorem kl_47 : kl 47 = 6 := by decide +kernel
theorem kl_48 : kl 48 = 6 := by decide +kernel
theorem kl_49 : kl 49 = 6 := by decide +kernel
theorem kl_51 : kl 51 = 6 := by decide +kernel
theorem kl_52 : kl 52 = 6 := by decide +kernel
theorem kl_53 : kl 53 = 6 := by decide +kernel
theorem kl_55 : kl 55 = 6 := by decide +kernel
theorem kl_56 : kl 56 = 6 := by decide +kernel
theorem kl_57 : kl 57 = 6 := by decide +kernel
theorem kl_59 : kl 59 = 6 := by decide +kernel
theorem kl_60 : kl 60 = 6 := by decide +kernel
theorem kl_61 : kl 61 = 6 := by decide +kernel
theorem kl_63 : kl 63 = 6 := by decide +kernel
theorem kl_64 : kl 64 = 6 := by decide +kernel
theorem kl_65 : kl 65 = 6 := by decide +kernel
theorem kl_67 : kl 67 = 6 := by decide +kernel
theorem kl_68 : kl 68 = 6 := by decide +kernel
theorem kl_69 : kl 69 = 6 := by decide +kernel
theorem kl_71 : kl 71 = 6 := by decide +kernel
theorem kl_72 : kl 72 = 6 := by decide +kernel
theorem kl_73 : kl 73 = 6 := by decide +kernel
theorem kl_75 : kl 75 = 6 := by decide +kernel
theorem kl_76 : kl 76 = 6 := by decide +kernel
theorem kl_77 : kl 77 = 6 := by decide +kernel
theorem kl_79 : kl 79 = 6 := by decide +kernel
theorem kl_80 : kl 80 = 6 := by decide +kernel
theorem kl_81 : kl 81 = 6 := by decide +kernel
theorem kl_83 : kl 83 = 6 := by decide +kernel
theorem kl_84 : kl 84 = 6 := by decide +kernel
theorem kl_85 : kl 85 = 6 := by decide +kernel
theorem kl_87 : kl 87 = 6 := by decide +kernel
theorem kl_88 : kl 88 = 6 := by decide +kernel
theorem kl_89 : kl 89 = 6 := by decide +kernel
theorem kl_91 : kl 91 = 6 := by decide +kernel
theorem kl_92 : kl 92 = 6 := by decide +kernel
theorem kl_93 : kl 93 = 6 := by decide +kernel
theorem kl_95 : kl 95 = 2 := by decide +kernel
theorem kl_97 : kl 97 = 6 := by decide +kernel
theorem kl_98 : kl 98 = 6 := by decide +kernel
theorem kl_99 : kl 99 = 6 := by decide +kernel
theorem kl_101 : kl 101 = 6 := by decide +kernel
theorem kl_102 : kl 102 = 6 := by decide +kernel
theorem kl_103 : kl 103 = 6 := by decide +kernel
theorem kl_104 : kl 104 = 2 := by decide +kernel
theorem kl_106 : kl 106 = 8 := by decide +kernel
theorem kl_108 : kl 108 = 15 := by decide +kernel
theorem kl_109 : kl 109 = 15 := by decide +kernel
theorem kl_111 : kl 111 = 256 := by decide +kernel
theorem kl_112 : kl 112 = 256 := by decide +kernel
theorem kl_113 : kl 113 = 256 := by decide +kernel
theorem kl_115 : kl 115 = 36 := by decide +kernel
theorem kl_116 : kl 116 = 36 := by decide +kernel
theorem kl_117 : kl 117 = 448 := by decide +kernel
theorem kl_118 : kl 118 = 55 := by decide +kernel
theorem kl_119 : kl 119 = 12 := by decide +kernel
theorem kl_120 : kl 120 = 22 := by decide +kernel
