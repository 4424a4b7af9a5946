/-! regions (written by gen96.py) -/
theorem rgL_0 : frL gJ bsJ 100 ((741, 741), (5, 5), (1, 0), (0, 20)) := frL_of (by decide +kernel)
theorem rgL_1 : frL gJ bsJ 100 ((4, 4), (0, 19), (1, 0), ((-2147483648), 2147483647)) := frL_hull (by decide) (by decide +kernel)
theorem rgL_2 : frL gJ bsJ 100 ((3, 3), (0, 19), (1, 0), ((-2147483648), 2147483647)) := frL_hull (by decide) (by decide +kernel)
theorem rgL_3 : frL gJ bsJ 100 ((27, 46), (0, 4), (1, 0), ((-2147483648), 2147483647)) := frL_hull (by decide) (by decide +kernel)
theorem rgL_4 : frL gJ bsJ 100 ((6, 25), (0, 4), (1, 0), ((-2147483648), 2147483647)) := frL_hull (by decide) (by decide +kernel)
theorem rgL_5 : frL gJ bsJ 100 ((741, 741), (7, 7), (1, 0), (0, 24)) := frL_of (by decide +kernel)
theorem rgL_6 : frL gJ bsJ 100 ((741, 741), (531, 853), (14, 0), (0, 19)) := frL_of (by decide +kernel)
theorem rgL_7 : frL gJ bsJ 100 ((741, 741), (30, 410), (20, 0), (0, 999)) := frL_of (by decide +kernel)
theorem rgL_8 : frL gJ bsJ 100 ((741, 741), (36, 416), (20, 0), ((-2147483648), 2147483647)) := frL_hull (by decide) (by decide +kernel)
theorem rgL_9 : frL gJ bsJ 100 ((741, 741), (31, 415), (20, 4), ((-2147483648), 2147483647)) := frL_hull (by decide) (by decide +kernel)
theorem rgL_10 : frL gJ bsJ 100 ((741, 741), (37, 421), (20, 4), ((-2147483648), 2147483647)) := frL_hull (by decide) (by decide +kernel)
theorem rgL_11 : frL gJ bsJ 100 ((741, 741), (6, 6), (1, 0), (0, 24)) := frL_of (by decide +kernel)
theorem rgL_12 : frL gJ bsJ 100 ((182, 182), (0, 5), (1, 0), ((-2147483648), 2147483647)) := frL_hull (by decide) (by decide +kernel)
theorem rgL_13 : frL gJ bsJ 100 ((741, 741), (17, 22), (1, 0), ((-2147483648), 2147483647)) := frL_hull (by decide) (by decide +kernel)
theorem rgL_14 : frL gJ bsJ 100 ((741, 741), (530, 862), (14, 10), ((-2147483648), 2147483647)) := frL_hull (by decide) (by decide +kernel)
theorem rgL_15 : frL gJ bsJ 100 ((171, 171), (0, 23), (1, 0), ((-2147483648), 2147483647)) := frL_hull (by decide) (by decide +kernel)
theorem rgL_16 : frL gJ bsJ 100 ((741, 741), (535, 857), (14, 0), ((-2147483648), 2147483647)) := frL_hull (by decide) (by decide +kernel)
theorem rgL_17 : frL gJ bsJ 100 ((164, 164), (0, 23), (1, 0), ((-2147483648), 2147483647)) := frL_hull (by decide) (by decide +kernel)
theorem rgL_18 : frL gJ bsJ 100 ((741, 741), (21, 21), (1, 0), ((-2147483648), 2147483647)) := frL_hull (by decide) (by decide +kernel)
theorem rgL_19 : frL gJ bsJ 100 ((741, 741), (1081, 1141), (1, 0), ((-2147483648), 2147483647)) := frL_hull (by decide) (by decide +kernel)
theorem rgL_20 : frL gJ bsJ 100 ((741, 741), (37, 420), (1, 0), ((-2147483648), 2147483647)) := frL_hull (by decide) (by decide +kernel)
theorem rgL_21 : frL gJ bsJ 100 ((741, 741), (1, 1), (1, 0), (0, 600)) := frL_of (by decide +kernel)
theorem rgL_22 : frL gJ bsJ 100 ((741, 741), (2, 2), (1, 0), ((-2147483648), 2147483647)) := frL_hull (by decide) (by decide +kernel)
theorem rgL_23 : frL gJ bsJ 100 ((741, 741), (0, 0), (1, 0), (0, 22000)) := frL_of (by decide +kernel)
theorem rgL_24 : frL gJ bsJ 100 ((741, 741), (8, 8), (1, 0), (0, 24)) := frL_of (by decide +kernel)
theorem rgL_25 : frL gJ bsJ 100 ((178, 178), (0, 23), (1, 0), ((-2147483648), 2147483647)) := frL_hull (by decide) (by decide +kernel)
theorem rgL_26 : frL gJ bsJ 100 ((179, 179), (0, 23), (1, 0), ((-2147483648), 2147483647)) := frL_hull (by decide) (by decide +kernel)
theorem rgL_27 : frL gJ bsJ 100 ((180, 180), (0, 23), (1, 0), (0, 19)) := frL_of (by decide +kernel)
theorem rgL_28 : frL gJ bsJ 100 ((181, 181), (0, 23), (1, 0), ((-2147483648), 2147483647)) := frL_hull (by decide) (by decide +kernel)
theorem rgL_29 : frL gJ bsJ 100 ((741, 741), (870, 1011), (6, 3), ((-2147483648), 2147483647)) := frL_hull (by decide) (by decide +kernel)
theorem rgL_30 : frL gJ bsJ 100 ((741, 741), (9, 9), (1, 0), (0, 12)) := frL_of (by decide +kernel)
theorem rgL_31 : frL gJ bsJ 100 ((188, 188), (0, 11), (1, 0), ((-2147483648), 2147483647)) := frL_hull (by decide) (by decide +kernel)
theorem rgL_32 : frL gJ bsJ 100 ((189, 189), (0, 11), (1, 0), ((-2147483648), 2147483647)) := frL_hull (by decide) (by decide +kernel)
theorem rgL_33 : frL gJ bsJ 100 ((190, 190), (0, 11), (1, 0), ((-2147483648), 2147483647)) := frL_hull (by decide) (by decide +kernel)
theorem rgL_34 : frL gJ bsJ 100 ((191, 191), (0, 11), (1, 0), ((-2147483648), 2147483647)) := frL_hull (by decide) (by decide +kernel)
theorem rgL_35 : frL gJ bsJ 100 ((741, 741), (1210, 3413), (200, 3), ((-2147483648), 2147483647)) := frL_hull (by decide) (by decide +kernel)
theorem rgL_36 : frL gJ bsJ 100 ((741, 741), (1211, 3411), (200, 0), ((-2147483648), 2147483647)) := frL_hull (by decide) (by decide +kernel)
theorem rgL_37 : frL gJ bsJ 100 ((741, 741), (14, 14), (1, 0), ((-1), 11)) := frL_of (by decide +kernel)
theorem rgL_38 : frL gJ bsJ 100 ((741, 741), (1212, 3412), (200, 0), ((-2147483648), 2147483647)) := frL_hull (by decide) (by decide +kernel)
theorem rgL_39 : frL gJ bsJ 100 ((206, 206), (0, 23), (1, 0), ((-2147483648), 2147483647)) := frL_hull (by decide) (by decide +kernel)
theorem rgL_40 : frL gJ bsJ 100 ((741, 741), (874, 1012), (6, 0), ((-2147483648), 2147483647)) := frL_hull (by decide) (by decide +kernel)
theorem rgL_41 : frL gJ bsJ 100 ((741, 741), (15, 16), (1, 0), ((-2147483648), 2147483647)) := frL_hull (by decide) (by decide +kernel)
theorem rgL_42 : frL gJ bsJ 100 ((741, 741), (16, 16), (1, 0), ((-2147483648), 2147483647)) := frL_hull (by decide) (by decide +kernel)
theorem rgL_43 : frL gJ bsJ 100 ((741, 741), (15, 15), (1, 0), ((-2147483648), 2147483647)) := frL_hull (by decide) (by decide +kernel)
theorem rgL_44 : frL gJ bsJ 100 ((750, 750), (0, 23), (1, 0), ((-2147483648), 2147483647)) := frL_hull (by decide) (by decide +kernel)
theorem rgL_45 : frL gJ bsJ 100 ((751, 751), (0, 23), (1, 0), (0, 23)) := frL_of (by decide +kernel)
theorem rgL_46 : frL gJ bsJ 100 ((741, 741), (530, 852), (14, 0), ((-2147483648), 2147483647)) := frL_hull (by decide) (by decide +kernel)
theorem rgL_47 : frL gJ bsJ 100 ((741, 741), (38, 418), (20, 0), ((-2147483648), 2147483647)) := frL_hull (by decide) (by decide +kernel)
theorem rgL_48 : frL gJ bsJ 100 ((741, 741), (536, 858), (14, 0), ((-2147483648), 2147483647)) := frL_hull (by decide) (by decide +kernel)
theorem rgL_49 : frL gJ bsJ 100 ((741, 741), (539, 861), (14, 0), ((-1), 60)) := frL_of (by decide +kernel)
theorem rgL_50 : frL gJ bsJ 100 ((741, 741), (532, 854), (14, 0), ((-2147483648), 2147483647)) := frL_hull (by decide) (by decide +kernel)
theorem rgL_51 : frL gJ bsJ 100 ((745, 745), (0, 19), (1, 0), (0, 30)) := frL_of (by decide +kernel)
theorem rgL_52 : frL gJ bsJ 100 ((744, 744), (0, 19), (1, 0), ((-2147483648), 2147483647)) := frL_hull (by decide) (by decide +kernel)
theorem rgL_53 : frL gJ bsJ 100 ((746, 746), (0, 599), (1, 0), ((-2147483648), 2147483647)) := frL_hull (by decide) (by decide +kernel)
theorem rgL_54 : frL gJ bsJ 100 ((753, 753), (0, 29), (1, 0), ((-2147483648), 2147483647)) := frL_hull (by decide) (by decide +kernel)
theorem rgL_55 : frL gJ bsJ 100 ((741, 741), (4500, 4507), (1, 0), ((-2147483648), 2147483647)) := frL_hull (by decide) (by decide +kernel)
theorem rgL_56 : frL gJ bsJ 100 ((48, 67), (0, 5), (1, 0), ((-2147483648), 2147483647)) := frL_hull (by decide) (by decide +kernel)
theorem rgL_57 : frL gJ bsJ 100 ((741, 741), (47, 427), (20, 0), ((-2147483648), 2147483647)) := frL_hull (by decide) (by decide +kernel)
theorem rgL_58 : frL gJ bsJ 100 ((741, 741), (42, 427), (20, 5), ((-2147483648), 2147483647)) := frL_hull (by decide) (by decide +kernel)
theorem rgL_59 : frL gJ bsJ 100 ((741, 741), (10, 10), (1, 0), (0, 6)) := frL_of (by decide +kernel)
theorem rgL_60 : frL gJ bsJ 100 ((741, 741), (11, 11), (1, 0), (0, 10)) := frL_of (by decide +kernel)
theorem rgL_61 : frL gJ bsJ 100 ((741, 741), (4350, 4368), (2, 0), ((-2147483648), 2147483647)) := frL_hull (by decide) (by decide +kernel)
theorem rgL_62 : frL gJ bsJ 100 ((741, 741), (4351, 4369), (2, 0), ((-2147483648), 2147483647)) := frL_hull (by decide) (by decide +kernel)
theorem rgL_63 : frL gJ bsJ 100 ((741, 741), (12, 12), (1, 0), (0, 7)) := frL_of (by decide +kernel)
theorem rgL_64 : frL gJ bsJ 100 ((736, 736), (0, 6), (1, 0), (0, 6)) := frL_of (by decide +kernel)
theorem rgL_65 : frL gJ bsJ 100 ((758, 758), (0, 6), (1, 0), (0, 6)) := frL_of (by decide +kernel)
theorem rgL_66 : frL gJ bsJ 100 ((759, 759), (0, 59), (1, 0), ((-2147483648), 2147483647)) := frL_hull (by decide) (by decide +kernel)
theorem rgL_67 : frL gJ bsJ 100 ((760, 760), (0, 59), (1, 0), ((-2147483648), 2147483647)) := frL_hull (by decide) (by decide +kernel)
theorem rgL_68 : frL gJ bsJ 100 ((741, 741), (13, 13), (1, 0), (0, 90)) := frL_of (by decide +kernel)
theorem rgL_69 : frL gJ bsJ 100 ((741, 741), (3, 3), (1, 0), (2, 9999)) := frL_of (by decide +kernel)
theorem rgL_70 : frL gJ bsJ 100 ((741, 741), (17, 21), (1, 0), ((-2147483648), 2147483647)) := frL_hull (by decide) (by decide +kernel)
theorem rgL_71 : frL gJ bsJ 100 ((741, 741), (31, 414), (1, 0), ((-2147483648), 2147483647)) := frL_hull (by decide) (by decide +kernel)
theorem rgL_72 : frL gJ bsJ 100 ((741, 741), (873, 1011), (6, 0), ((-2147483648), 2147483647)) := frL_hull (by decide) (by decide +kernel)
theorem rgL_73 : frL gJ bsJ 100 ((741, 741), (1210, 3410), (200, 0), ((-2147483648), 2147483647)) := frL_hull (by decide) (by decide +kernel)
theorem rgL_74 : frL gJ bsJ 100 ((752, 752), (0, 23), (1, 0), ((-2147483648), 2147483647)) := frL_hull (by decide) (by decide +kernel)
theorem rgL_75 : frL gJ bsJ 100 ((741, 741), (4370, 4388), (3, 0), ((-2147483648), 2147483647)) := frL_hull (by decide) (by decide +kernel)
theorem rgL_76 : frL gJ bsJ 100 ((174, 174), (0, 23), (1, 0), ((-2147483648), 2147483647)) := frL_hull (by decide) (by decide +kernel)
theorem rgL_77 : frL gJ bsJ 100 ((741, 741), (538, 860), (14, 0), ((-2147483648), 2147483647)) := frL_hull (by decide) (by decide +kernel)
theorem rgL_78 : frL gJ bsJ 100 ((700, 700), (0, 95), (1, 0), (0, 255)) := frL_of (by decide +kernel)
theorem rgL_79 : frL gJ bsJ 100 ((166, 166), (0, 23), (1, 0), ((-2147483648), 2147483647)) := frL_hull (by decide) (by decide +kernel)
theorem rgL_80 : frL gJ bsJ 100 ((747, 747), (0, 95), (1, 0), ((-2147483648), 2147483647)) := frL_hull (by decide) (by decide +kernel)
theorem rgL_81 : frL gJ bsJ 100 ((210, 210), (0, 23), (1, 0), ((-2147483648), 2147483647)) := frL_hull (by decide) (by decide +kernel)
theorem rgL_82 : frL gJ bsJ 100 ((741, 741), (4400, 4495), (12, 11), ((-2147483648), 2147483647)) := frL_hull (by decide) (by decide +kernel)
theorem rgL_83 : frL gJ bsJ 100 ((741, 741), (537, 859), (14, 0), ((-2147483648), 2147483647)) := frL_hull (by decide) (by decide +kernel)
theorem rgL_84 : frL gJ bsJ 100 ((754, 754), (0, 23), (1, 0), ((-2147483648), 2147483647)) := frL_hull (by decide) (by decide +kernel)
theorem rgL_85 : frL gJ bsJ 100 ((755, 755), (0, 23), (1, 0), ((-2147483648), 2147483647)) := frL_hull (by decide) (by decide +kernel)
theorem rgL_86 : frL gJ bsJ 100 ((741, 741), (4510, 4557), (1, 0), ((-2147483648), 2147483647)) := frL_hull (by decide) (by decide +kernel)
theorem rgL_87 : frL gJ bsJ 100 ((741, 741), (4560, 4563), (1, 0), (0, 99)) := frL_of (by decide +kernel)
theorem rgL_88 : frL gJ bsJ 100 ((741, 741), (0, 4899), (1, 0), ((-2147483648), 2147483647)) := frL_hull (by decide) (by decide +kernel)
theorem rgL_89 : frL gJ bsJ 100 ((741, 741), (4570, 4665), (4, 3), ((-2147483648), 2147483647)) := frL_hull (by decide) (by decide +kernel)
theorem rgL_90 : frL gJ bsJ 100 ((741, 741), (1020, 1202), (61, 60), ((-2147483648), 2147483647)) := frL_hull (by decide) (by decide +kernel)
theorem rgL_91 : frL gJ bsJ 100 ((221, 221), (0, 7), (1, 0), ((-2147483648), 2147483647)) := frL_hull (by decide) (by decide +kernel)
theorem rgL_92 : frL gJ bsJ 100 ((704, 704), (0, 19), (1, 0), ((-2147483648), 2147483647)) := frL_hull (by decide) (by decide +kernel)
theorem rgL_93 : frL gJ bsJ 100 ((707, 726), (0, 29), (1, 0), ((-2147483648), 2147483647)) := frL_hull (by decide) (by decide +kernel)
theorem rgL_94 : frL gJ bsJ 100 ((222, 222), (0, 47), (1, 0), ((-2147483648), 2147483647)) := frL_hull (by decide) (by decide +kernel)
theorem rgL_95 : frL gJ bsJ 100 ((733, 733), (0, 300), (1, 0), ((-2147483648), 2147483647)) := frL_hull (by decide) (by decide +kernel)
theorem rgL_96 : frL gJ bsJ 100 ((223, 223), (0, 3), (1, 0), (0, 99)) := frL_of (by decide +kernel)
theorem rgL_97 : frL gJ bsJ 100 ((254, 254), (0, 6), (1, 0), ((-2147483648), 2147483647)) := frL_hull (by decide) (by decide +kernel)
theorem rgL_98 : frL gJ bsJ 100 ((167, 167), (0, 23), (1, 0), ((-2147483648), 2147483647)) := frL_hull (by decide) (by decide +kernel)
theorem rgL_99 : frL gJ bsJ 100 ((225, 248), (0, 3), (1, 0), ((-2147483648), 2147483647)) := frL_hull (by decide) (by decide +kernel)
theorem rgL_100 : frL gJ bsJ 100 ((250, 250), (0, 5), (1, 0), ((-2147483648), 2147483647)) := frL_hull (by decide) (by decide +kernel)
theorem rgL_101 : frL gJ bsJ 100 ((251, 251), (0, 5), (1, 0), ((-2147483648), 2147483647)) := frL_hull (by decide) (by decide +kernel)
theorem rgL_102 : frL gJ bsJ 100 ((249, 249), (0, 5), (1, 0), ((-2147483648), 2147483647)) := frL_hull (by decide) (by decide +kernel)
theorem rgL_103 : frL gJ bsJ 100 ((184, 186), (0, 60), (1, 0), ((-2147483648), 2147483647)) := frL_hull (by decide) (by decide +kernel)
theorem rgL_104 : frL gJ bsJ 100 ((213, 220), (0, 11), (1, 0), ((-2147483648), 2147483647)) := frL_hull (by decide) (by decide +kernel)
theorem rgL_105 : frL gJ bsJ 100 ((741, 741), (534, 856), (14, 0), ((-2147483648), 2147483647)) := frL_hull (by decide) (by decide +kernel)
theorem rgL_106 : frL gJ bsJ 100 ((741, 741), (1020, 1202), (122, 60), ((-2147483648), 2147483647)) := frL_hull (by decide) (by decide +kernel)
theorem rgL_107 : frL gJ bsJ 100 ((741, 741), (870, 1008), (6, 0), ((-2147483648), 2147483647)) := frL_hull (by decide) (by decide +kernel)
theorem rgL_108 : frL gJ bsJ 100 ((741, 741), (871, 1009), (6, 0), ((-2147483648), 2147483647)) := frL_hull (by decide) (by decide +kernel)
theorem rgL_109 : frL gJ bsJ 100 ((172, 172), (0, 23), (1, 0), ((-2147483648), 2147483647)) := frL_hull (by decide) (by decide +kernel)
theorem rgL_110 : frL gJ bsJ 100 ((184, 184), (0, 60), (1, 0), ((-2147483648), 2147483647)) := frL_hull (by decide) (by decide +kernel)
theorem rgL_111 : frL gJ bsJ 100 ((741, 741), (31, 416), (20, 5), ((-2147483648), 2147483647)) := frL_hull (by decide) (by decide +kernel)
theorem rgL_112 : frL gJ bsJ 100 ((741, 741), (872, 1010), (6, 0), (0, 19)) := frL_of (by decide +kernel)
theorem rgL_113 : frL gJ bsJ 100 ((756, 756), (0, 7524), (1, 0), ((-2147483648), 2147483647)) := frL_hull (by decide) (by decide +kernel)
theorem rgL_114 : frL gJ bsJ 100 ((705, 705), (0, 19), (1, 0), (0, 30)) := frL_of (by decide +kernel)
theorem rgL_115 : frL gJ bsJ 100 ((252, 252), (0, 9), (1, 0), ((-2147483648), 2147483647)) := frL_hull (by decide) (by decide +kernel)
theorem rgL_116 : frL gJ bsJ 100 ((165, 165), (0, 23), (1, 0), (0, 19)) := frL_of (by decide +kernel)
theorem rgL_117 : frL gJ bsJ 101 ((734, 734), (0, 300), (1, 0), ((-9223372036854775808), 9223372036854775807)) := frL_hull (by decide) (by decide +kernel)
theorem rgL_118 : frL gJ bsJ 100 ((175, 175), (0, 23), (1, 0), ((-1000000005), 60)) := frL_of (by decide +kernel)
theorem rgL_119 : frL gJ bsJ 100 ((168, 168), (0, 23), (1, 0), ((-2147483648), 2147483647)) := frL_hull (by decide) (by decide +kernel)
theorem rgL_120 : frL gJ bsJ 100 ((173, 173), (0, 23), (1, 0), ((-2147483648), 2147483647)) := frL_hull (by decide) (by decide +kernel)
theorem rgL_121 : frL gJ bsJ 100 ((176, 176), (0, 23), (1, 0), ((-2147483648), 2147483647)) := frL_hull (by decide) (by decide +kernel)
theorem rgL_122 : frL gJ bsJ 100 ((169, 169), (0, 23), (1, 0), ((-2147483648), 2147483647)) := frL_hull (by decide) (by decide +kernel)
theorem rgL_123 : frL gJ bsJ 100 ((209, 209), (0, 23), (1, 0), ((-2147483648), 2147483647)) := frL_hull (by decide) (by decide +kernel)
theorem rgL_124 : frL gJ bsJ 100 ((256, 256), (0, 6), (1, 0), ((-2147483648), 2147483647)) := frL_hull (by decide) (by decide +kernel)
theorem rgL_125 : frL gJ bsJ 100 ((255, 255), (0, 6), (1, 0), ((-2147483648), 2147483647)) := frL_hull (by decide) (by decide +kernel)
theorem rgL_126 : frL gJ bsJ 100 ((73, 162), (6, 6), (1, 0), ((-2147483648), 2147483647)) := frL_hull (by decide) (by decide +kernel)
theorem rgL_127 : frL gJ bsJ 100 ((731, 731), (0, 48), (1, 0), ((-2147483648), 2147483647)) := frL_hull (by decide) (by decide +kernel)
theorem rgL_128 : frL gJ bsJ 100 ((741, 741), (4372, 4390), (3, 0), ((-2147483648), 2147483647)) := frL_hull (by decide) (by decide +kernel)
theorem rgL_129 : frL gJ bsJ 100 ((741, 741), (4371, 4389), (3, 0), ((-2147483648), 2147483647)) := frL_hull (by decide) (by decide +kernel)
theorem rgL_130 : frL gJ bsJ 100 ((741, 741), (31, 4327), (1, 0), ((-2147483648), 2147483647)) := frL_hull (by decide) (by decide +kernel)
theorem rgL_131 : frL gJ bsJ 100 ((757, 757), (0, 6), (1, 0), (0, 6)) := frL_of (by decide +kernel)
theorem rgL_132 : frL gJ bsJ 100 ((741, 741), (22, 22), (1, 0), ((-2147483648), 2147483647)) := frL_hull (by decide) (by decide +kernel)
theorem rgL_133 : frL gJ bsJ 100 ((741, 741), (31, 411), (20, 0), ((-2147483648), 2147483647)) := frL_hull (by decide) (by decide +kernel)
theorem rgL_134 : frL gJ bsJ 100 ((741, 741), (34, 414), (20, 0), ((-2147483648), 2147483647)) := frL_hull (by decide) (by decide +kernel)
theorem rgL_135 : frL gJ bsJ 100 ((253, 253), (0, 9), (1, 0), ((-2147483648), 2147483647)) := frL_hull (by decide) (by decide +kernel)
theorem rgL_136 : frL gJ bsJ 100 ((192, 192), (0, 11), (1, 0), (0, 96)) := frL_of (by decide +kernel)
theorem rgL_137 : frL gJ bsJ 100 ((208, 208), (0, 95), (1, 0), ((-2147483648), 2147483647)) := frL_hull (by decide) (by decide +kernel)
theorem rgL_138 : frL gJ bsJ 100 ((194, 205), (0, 95), (1, 0), ((-2147483648), 2147483647)) := frL_hull (by decide) (by decide +kernel)
theorem rgL_139 : frL gJ bsJ 100 ((71, 71), (0, 23), (1, 0), ((-2147483648), 2147483647)) := frL_hull (by decide) (by decide +kernel)
theorem rgL_140 : frL gJ bsJ 100 ((741, 741), (540, 862), (14, 0), ((-2147483648), 2147483647)) := frL_hull (by decide) (by decide +kernel)
theorem rgL_141 : frL gJ bsJ 100 ((741, 741), (33, 413), (20, 0), ((-2147483648), 2147483647)) := frL_hull (by decide) (by decide +kernel)
theorem rgL_142 : frL gJ bsJ 100 ((741, 741), (533, 855), (14, 0), ((-2147483648), 2147483647)) := frL_hull (by decide) (by decide +kernel)
theorem rgL_143 : frL gJ bsJ 100 ((741, 741), (433, 525), (4, 0), ((-2147483648), 2147483647)) := frL_hull (by decide) (by decide +kernel)
theorem rgL_144 : frL gJ bsJ 100 ((185, 185), (0, 60), (1, 0), ((-2147483648), 2147483647)) := frL_hull (by decide) (by decide +kernel)
theorem rgL_145 : frL gJ bsJ 100 ((207, 207), (0, 25), (1, 0), ((-2147483648), 2147483647)) := frL_hull (by decide) (by decide +kernel)
theorem rgL_146 : frL gJ bsJ 100 ((738, 738), (0, 59), (1, 0), ((-2147483648), 2147483647)) := frL_hull (by decide) (by decide +kernel)
theorem rgL_147 : frL gJ bsJ 100 ((739, 739), (0, 59), (1, 0), ((-2147483648), 2147483647)) := frL_hull (by decide) (by decide +kernel)
theorem rgL_148 : frL gJ bsJ 100 ((73, 162), (7, 7), (1, 0), (0, 19)) := frL_of (by decide +kernel)
theorem rgL_149 : frL gJ bsJ 100 ((73, 162), (5, 5), (1, 0), ((-2147483648), 2147483647)) := frL_hull (by decide) (by decide +kernel)
theorem rgL_150 : frL gJ bsJ 100 ((73, 162), (0, 5), (1, 0), ((-2147483648), 2147483647)) := frL_hull (by decide) (by decide +kernel)
theorem rgL_151 : frL gJ bsJ 100 ((186, 186), (0, 60), (1, 0), ((-2147483648), 2147483647)) := frL_hull (by decide) (by decide +kernel)
theorem rgL_152 : frL gJ bsJ 100 ((70, 70), (0, 23), (1, 0), ((-2147483648), 2147483647)) := frL_hull (by decide) (by decide +kernel)
theorem rgL_153 : frL gJ bsJ 100 ((68, 68), (0, 23), (1, 0), (0, 19)) := frL_of (by decide +kernel)
theorem rgL_154 : frL gJ bsJ 100 ((69, 69), (0, 23), (1, 0), (0, 19)) := frL_of (by decide +kernel)
theorem rgL_155 : frL gJ bsJ 100 ((741, 741), (542, 864), (14, 0), ((-2147483648), 2147483647)) := frL_hull (by decide) (by decide +kernel)
theorem rgL_156 : frL gJ bsJ 100 ((741, 741), (541, 863), (14, 0), ((-2147483648), 2147483647)) := frL_hull (by decide) (by decide +kernel)
theorem rgL_157 : frL gJ bsJ 100 ((741, 741), (4, 4), (1, 0), (0, 99)) := frL_of (by decide +kernel)
theorem rgL_158 : frL gJ bsJ 100 ((170, 170), (0, 23), (1, 0), ((-2147483648), 2147483647)) := frL_hull (by decide) (by decide +kernel)
theorem rgL_159 : frL gJ bsJ 100 ((728, 728), (0, 23), (1, 0), ((-2147483648), 2147483647)) := frL_hull (by decide) (by decide +kernel)
theorem rgL_160 : frL gJ bsJ 100 ((729, 729), (0, 23), (1, 0), ((-2147483648), 2147483647)) := frL_hull (by decide) (by decide +kernel)
theorem rgL_161 : frL gJ bsJ 100 ((730, 730), (0, 23), (1, 0), ((-2147483648), 2147483647)) := frL_hull (by decide) (by decide +kernel)
theorem rgL_162 : frL gJ bsJ 100 ((679, 679), (0, 23), (1, 0), ((-2147483648), 2147483647)) := frL_hull (by decide) (by decide +kernel)
theorem rgL_163 : frL gJ bsJ 100 ((585, 674), (6, 6), (1, 0), ((-2147483648), 2147483647)) := frL_hull (by decide) (by decide +kernel)
theorem rgL_164 : frL gJ bsJ 100 ((686, 686), (0, 23), (1, 0), ((-2147483648), 2147483647)) := frL_hull (by decide) (by decide +kernel)
theorem rgL_165 : frL gJ bsJ 100 ((583, 583), (0, 23), (1, 0), ((-2147483648), 2147483647)) := frL_hull (by decide) (by decide +kernel)
theorem rgL_166 : frL gJ bsJ 100 ((585, 674), (7, 7), (1, 0), (0, 19)) := frL_of (by decide +kernel)
theorem rgL_167 : frL gJ bsJ 100 ((585, 674), (5, 5), (1, 0), ((-2147483648), 2147483647)) := frL_hull (by decide) (by decide +kernel)
theorem rgL_168 : frL gJ bsJ 100 ((560, 579), (0, 5), (1, 0), ((-2147483648), 2147483647)) := frL_hull (by decide) (by decide +kernel)
theorem rgL_169 : frL gJ bsJ 100 ((585, 674), (0, 5), (1, 0), ((-2147483648), 2147483647)) := frL_hull (by decide) (by decide +kernel)
theorem rgL_170 : frL gJ bsJ 100 ((518, 537), (0, 4), (1, 0), ((-2147483648), 2147483647)) := frL_hull (by decide) (by decide +kernel)
theorem rgL_171 : frL gJ bsJ 100 ((515, 515), (0, 19), (1, 0), ((-2147483648), 2147483647)) := frL_hull (by decide) (by decide +kernel)
theorem rgL_172 : frL gJ bsJ 100 ((582, 582), (0, 23), (1, 0), ((-2147483648), 2147483647)) := frL_hull (by decide) (by decide +kernel)
theorem rgL_173 : frL gJ bsJ 100 ((580, 580), (0, 23), (1, 0), (0, 19)) := frL_of (by decide +kernel)
theorem rgL_174 : frL gJ bsJ 100 ((581, 581), (0, 23), (1, 0), (0, 19)) := frL_of (by decide +kernel)
theorem rgL_175 : frL gJ bsJ 100 ((676, 676), (0, 23), (1, 0), ((-2147483648), 2147483647)) := frL_hull (by decide) (by decide +kernel)
theorem rgL_176 : frL gJ bsJ 100 ((684, 684), (0, 23), (1, 0), ((-2147483648), 2147483647)) := frL_hull (by decide) (by decide +kernel)
theorem rgL_177 : frL gJ bsJ 100 ((516, 516), (0, 19), (1, 0), ((-2147483648), 2147483647)) := frL_hull (by decide) (by decide +kernel)
theorem rgL_178 : frL gJ bsJ 100 ((539, 558), (0, 4), (1, 0), ((-2147483648), 2147483647)) := frL_hull (by decide) (by decide +kernel)
theorem rgL_179 : frL gJ bsJ 100 ((687, 687), (0, 23), (1, 0), ((-1000000005), 60)) := frL_of (by decide +kernel)
theorem rgL_180 : frL gJ bsJ 100 ((688, 688), (0, 23), (1, 0), ((-2147483648), 2147483647)) := frL_hull (by decide) (by decide +kernel)
theorem rgL_181 : frL gJ bsJ 100 ((697, 697), (0, 60), (1, 0), ((-2147483648), 2147483647)) := frL_hull (by decide) (by decide +kernel)
theorem rgL_182 : frL gJ bsJ 100 ((683, 683), (0, 23), (1, 0), ((-2147483648), 2147483647)) := frL_hull (by decide) (by decide +kernel)
theorem rgL_183 : frL gJ bsJ 100 ((694, 694), (0, 5), (1, 0), ((-2147483648), 2147483647)) := frL_hull (by decide) (by decide +kernel)
theorem rgL_184 : frL gJ bsJ 100 ((677, 677), (0, 23), (1, 0), (0, 19)) := frL_of (by decide +kernel)
theorem rgL_185 : frL gJ bsJ 100 ((698, 698), (0, 60), (1, 0), ((-2147483648), 2147483647)) := frL_hull (by decide) (by decide +kernel)
theorem rgL_186 : frL gJ bsJ 100 ((693, 693), (0, 23), (1, 0), ((-2147483648), 2147483647)) := frL_hull (by decide) (by decide +kernel)
theorem rgL_187 : frL gJ bsJ 100 ((680, 680), (0, 23), (1, 0), ((-2147483648), 2147483647)) := frL_hull (by decide) (by decide +kernel)
theorem rgL_188 : frL gJ bsJ 100 ((692, 692), (0, 23), (1, 0), (0, 19)) := frL_of (by decide +kernel)
theorem rgL_189 : frL gJ bsJ 100 ((696, 696), (0, 60), (1, 0), ((-2147483648), 2147483647)) := frL_hull (by decide) (by decide +kernel)
theorem rgL_190 : frL gJ bsJ 100 ((690, 690), (0, 23), (1, 0), ((-2147483648), 2147483647)) := frL_hull (by decide) (by decide +kernel)
theorem rgL_191 : frL gJ bsJ 100 ((685, 685), (0, 23), (1, 0), ((-2147483648), 2147483647)) := frL_hull (by decide) (by decide +kernel)
theorem rgL_192 : frL gJ bsJ 100 ((678, 678), (0, 23), (1, 0), ((-2147483648), 2147483647)) := frL_hull (by decide) (by decide +kernel)
theorem rgL_193 : frL gJ bsJ 100 ((682, 682), (0, 23), (1, 0), ((-2147483648), 2147483647)) := frL_hull (by decide) (by decide +kernel)
theorem rgL_194 : frL gJ bsJ 100 ((681, 681), (0, 23), (1, 0), ((-2147483648), 2147483647)) := frL_hull (by decide) (by decide +kernel)
theorem rgL_195 : frL gJ bsJ 100 ((691, 691), (0, 23), (1, 0), ((-2147483648), 2147483647)) := frL_hull (by decide) (by decide +kernel)
theorem rgS_0 : frS gJ bsJ znJ [20100, 20101, 20102, 20103, 20104, 20105, 20106, 20107, 20108, 20109, 20110, 20111, 20112, 20113, 20114, 20115, 20116, 20117, 20118, 20119] 100 ((741, 741), (30, 429), (20, 19), (0, 999)) := frS_of (by decide +kernel)
theorem rgS_1 : frS gJ bsJ znJ [20100] 100 ((741, 741), (30, 410), (20, 0), (0, 999)) := frS_of (by decide +kernel)
theorem rgS_2 : frS gJ bsJ znJ [20117] 100 ((741, 741), (47, 427), (20, 0), ((-2147483648), 2147483647)) := frS_of (by decide +kernel)
theorem rgS_3 : frS gJ bsJ znJ [20005] 100 ((741, 741), (5, 5), (1, 0), (0, 20)) := frS_of (by decide +kernel)
theorem rgS_4 : frS gJ bsJ znJ [20200] 100 ((741, 741), (430, 522), (4, 0), (0, 19)) := frS_of (by decide +kernel)
theorem rgS_5 : frS gJ bsJ znJ [20201] 100 ((741, 741), (431, 523), (4, 0), (0, 19)) := frS_of (by decide +kernel)
theorem rgS_6 : frS gJ bsJ znJ [20202] 100 ((741, 741), (432, 524), (4, 0), ((-2147483648), 2147483647)) := frS_of (by decide +kernel)
theorem rgS_7 : frS gJ bsJ znJ [20203] 100 ((741, 741), (433, 525), (4, 0), ((-2147483648), 2147483647)) := frS_of (by decide +kernel)
theorem rgS_8 : frS gJ bsJ znJ [20006] 100 ((741, 741), (6, 6), (1, 0), (0, 24)) := frS_of (by decide +kernel)
theorem rgS_9 : frS gJ bsJ znJ [182] 100 ((182, 182), (0, 5), (1, 0), ((-2147483648), 2147483647)) := frS_dflt (by decide) (by decide +kernel)
theorem rgS_10 : frS gJ bsJ znJ [5] 100 ((6, 25), (0, 4), (1, 0), ((-2147483648), 2147483647)) := frS_dflt (by decide) (by decide +kernel)
theorem rgS_11 : frS gJ bsJ znJ [20101, 20102, 20103, 20104, 20105] 100 ((741, 741), (31, 415), (20, 4), ((-2147483648), 2147483647)) := frS_of (by decide +kernel)
theorem rgS_12 : frS gJ bsJ znJ [20017, 20018, 20019, 20020, 20021, 20022] 100 ((741, 741), (17, 22), (1, 0), ((-2147483648), 2147483647)) := frS_of (by decide +kernel)
theorem rgS_13 : frS gJ bsJ znJ [20300, 20301, 20302, 20303, 20304, 20305, 20306, 20307, 20308, 20309, 20310, 20311, 20312, 20313] 100 ((741, 741), (530, 865), (14, 13), (0, 19)) := frS_of (by decide +kernel)
theorem rgS_14 : frS gJ bsJ znJ [20300] 100 ((741, 741), (530, 852), (14, 0), ((-2147483648), 2147483647)) := frS_of (by decide +kernel)
theorem rgS_15 : frS gJ bsJ znJ [20301] 100 ((741, 741), (531, 853), (14, 0), (0, 19)) := frS_of (by decide +kernel)
theorem rgS_16 : frS gJ bsJ znJ [20302] 100 ((741, 741), (532, 854), (14, 0), ((-2147483648), 2147483647)) := frS_of (by decide +kernel)
theorem rgS_17 : frS gJ bsJ znJ [20303] 100 ((741, 741), (533, 855), (14, 0), ((-2147483648), 2147483647)) := frS_of (by decide +kernel)
theorem rgS_18 : frS gJ bsJ znJ [20305] 100 ((741, 741), (535, 857), (14, 0), ((-2147483648), 2147483647)) := frS_of (by decide +kernel)
theorem rgS_19 : frS gJ bsJ znJ [20306] 100 ((741, 741), (536, 858), (14, 0), ((-2147483648), 2147483647)) := frS_of (by decide +kernel)
theorem rgS_20 : frS gJ bsJ znJ [20309] 100 ((741, 741), (539, 861), (14, 0), ((-1), 60)) := frS_of (by decide +kernel)
theorem rgS_21 : frS gJ bsJ znJ [20007] 100 ((741, 741), (7, 7), (1, 0), (0, 24)) := frS_of (by decide +kernel)
theorem rgS_22 : frS gJ bsJ znJ [20311] 100 ((741, 741), (541, 863), (14, 0), ((-2147483648), 2147483647)) := frS_of (by decide +kernel)
theorem rgS_23 : frS gJ bsJ znJ [171] 100 ((171, 171), (0, 23), (1, 0), ((-2147483648), 2147483647)) := frS_dflt (by decide) (by decide +kernel)
theorem rgS_24 : frS gJ bsJ znJ [20021] 100 ((741, 741), (21, 21), (1, 0), ((-2147483648), 2147483647)) := frS_of (by decide +kernel)
theorem rgS_25 : frS gJ bsJ znJ [175] 100 ((175, 175), (0, 23), (1, 0), ((-1000000005), 60)) := frS_of (by decide +kernel)
theorem rgS_26 : frS gJ bsJ znJ [20001] 100 ((741, 741), (1, 1), (1, 0), (0, 600)) := frS_of (by decide +kernel)
theorem rgS_27 : frS gJ bsJ znJ [20002] 100 ((741, 741), (2, 2), (1, 0), ((-2147483648), 2147483647)) := frS_of (by decide +kernel)
theorem rgS_28 : frS gJ bsJ znJ [20003] 100 ((741, 741), (3, 3), (1, 0), (2, 9999)) := frS_of (by decide +kernel)
theorem rgS_29 : frS gJ bsJ znJ [20004] 100 ((741, 741), (4, 4), (1, 0), (0, 99)) := frS_of (by decide +kernel)
theorem rgS_30 : frS gJ bsJ znJ [20400] 100 ((741, 741), (870, 1008), (6, 0), ((-2147483648), 2147483647)) := frS_of (by decide +kernel)
theorem rgS_31 : frS gJ bsJ znJ [20401] 100 ((741, 741), (871, 1009), (6, 0), ((-2147483648), 2147483647)) := frS_of (by decide +kernel)
theorem rgS_32 : frS gJ bsJ znJ [20402] 100 ((741, 741), (872, 1010), (6, 0), (0, 19)) := frS_of (by decide +kernel)
theorem rgS_33 : frS gJ bsJ znJ [20403] 100 ((741, 741), (873, 1011), (6, 0), ((-2147483648), 2147483647)) := frS_of (by decide +kernel)
theorem rgS_34 : frS gJ bsJ znJ [20404] 100 ((741, 741), (874, 1012), (6, 0), ((-2147483648), 2147483647)) := frS_of (by decide +kernel)
theorem rgS_35 : frS gJ bsJ znJ [20008] 100 ((741, 741), (8, 8), (1, 0), (0, 24)) := frS_of (by decide +kernel)
theorem rgS_36 : frS gJ bsJ znJ [20400, 20401] 100 ((741, 741), (870, 1009), (6, 1), ((-2147483648), 2147483647)) := frS_of (by decide +kernel)
theorem rgS_37 : frS gJ bsJ znJ [747] 100 ((747, 747), (0, 95), (1, 0), ((-2147483648), 2147483647)) := frS_dflt (by decide) (by decide +kernel)
theorem rgS_38 : frS gJ bsJ znJ [20600] 100 ((741, 741), (1210, 3410), (200, 0), ((-2147483648), 2147483647)) := frS_of (by decide +kernel)
theorem rgS_39 : frS gJ bsJ znJ [20601] 100 ((741, 741), (1211, 3411), (200, 0), ((-2147483648), 2147483647)) := frS_of (by decide +kernel)
theorem rgS_40 : frS gJ bsJ znJ [20602] 100 ((741, 741), (1212, 3412), (200, 0), ((-2147483648), 2147483647)) := frS_of (by decide +kernel)
theorem rgS_41 : frS gJ bsJ znJ [20603] 100 ((741, 741), (1213, 3413), (200, 0), ((-2147483648), 2147483647)) := frS_of (by decide +kernel)
theorem rgS_42 : frS gJ bsJ znJ [20604] 100 ((741, 741), (1214, 3414), (200, 0), ((-2147483648), 2147483647)) := frS_of (by decide +kernel)
theorem rgS_43 : frS gJ bsJ znJ [20009] 100 ((741, 741), (9, 9), (1, 0), (0, 12)) := frS_of (by decide +kernel)
theorem rgS_44 : frS gJ bsJ znJ [20014] 100 ((741, 741), (14, 14), (1, 0), ((-1), 11)) := frS_of (by decide +kernel)
theorem rgS_45 : frS gJ bsJ znJ [20015] 100 ((741, 741), (15, 15), (1, 0), ((-2147483648), 2147483647)) := frS_of (by decide +kernel)
theorem rgS_46 : frS gJ bsJ znJ [20016] 100 ((741, 741), (16, 16), (1, 0), ((-2147483648), 2147483647)) := frS_of (by decide +kernel)
theorem rgS_47 : frS gJ bsJ znJ [206] 100 ((206, 206), (0, 23), (1, 0), ((-2147483648), 2147483647)) := frS_dflt (by decide) (by decide +kernel)
theorem rgS_48 : frS gJ bsJ znJ [20015, 20016] 100 ((741, 741), (15, 16), (1, 0), ((-2147483648), 2147483647)) := frS_of (by decide +kernel)
theorem rgS_49 : frS gJ bsJ znJ [748] 100 ((748, 748), (0, 127), (1, 0), ((-2147483648), 2147483647)) := frS_dflt (by decide) (by decide +kernel)
theorem rgS_50 : frS gJ bsJ znJ [20601, 20602] 100 ((741, 741), (1211, 3412), (200, 1), ((-2147483648), 2147483647)) := frS_of (by decide +kernel)
theorem rgS_51 : frS gJ bsJ znJ [750] 100 ((750, 750), (0, 23), (1, 0), ((-2147483648), 2147483647)) := frS_dflt (by decide) (by decide +kernel)
theorem rgS_52 : frS gJ bsJ znJ [20308] 100 ((741, 741), (538, 860), (14, 0), ((-2147483648), 2147483647)) := frS_of (by decide +kernel)
theorem rgS_53 : frS gJ bsJ znJ [20108] 100 ((741, 741), (38, 418), (20, 0), ((-2147483648), 2147483647)) := frS_of (by decide +kernel)
theorem rgS_54 : frS gJ bsJ znJ [744] 100 ((744, 744), (0, 19), (1, 0), ((-2147483648), 2147483647)) := frS_dflt (by decide) (by decide +kernel)
theorem rgS_55 : frS gJ bsJ znJ [745] 100 ((745, 745), (0, 19), (1, 0), (0, 30)) := frS_of (by decide +kernel)
theorem rgS_56 : frS gJ bsJ znJ [746] 100 ((746, 746), (0, 599), (1, 0), ((-2147483648), 2147483647)) := frS_dflt (by decide) (by decide +kernel)
theorem rgS_57 : frS gJ bsJ znJ [753] 100 ((753, 753), (0, 29), (1, 0), ((-2147483648), 2147483647)) := frS_dflt (by decide) (by decide +kernel)
theorem rgS_58 : frS gJ bsJ znJ [221] 100 ((221, 221), (0, 7), (1, 0), ((-2147483648), 2147483647)) := frS_dflt (by decide) (by decide +kernel)
theorem rgS_59 : frS gJ bsJ znJ [20831] 100 ((741, 741), (4500, 4507), (1, 0), ((-2147483648), 2147483647)) := frS_of (by decide +kernel)
theorem rgS_60 : frS gJ bsJ znJ [20800] 100 ((741, 741), (4330, 4345), (3, 0), ((-2147483648), 2147483647)) := frS_of (by decide +kernel)
theorem rgS_61 : frS gJ bsJ znJ [20801] 100 ((741, 741), (4331, 4346), (3, 0), ((-2147483648), 2147483647)) := frS_of (by decide +kernel)
theorem rgS_62 : frS gJ bsJ znJ [20802] 100 ((741, 741), (4332, 4347), (3, 0), ((-2147483648), 2147483647)) := frS_of (by decide +kernel)
theorem rgS_63 : frS gJ bsJ znJ [20010] 100 ((741, 741), (10, 10), (1, 0), (0, 6)) := frS_of (by decide +kernel)
theorem rgS_64 : frS gJ bsJ znJ [20810] 100 ((741, 741), (4350, 4368), (2, 0), ((-2147483648), 2147483647)) := frS_of (by decide +kernel)
theorem rgS_65 : frS gJ bsJ znJ [20811] 100 ((741, 741), (4351, 4369), (2, 0), ((-2147483648), 2147483647)) := frS_of (by decide +kernel)
theorem rgS_66 : frS gJ bsJ znJ [20011] 100 ((741, 741), (11, 11), (1, 0), (0, 10)) := frS_of (by decide +kernel)
theorem rgS_67 : frS gJ bsJ znJ [20820] 100 ((741, 741), (4370, 4388), (3, 0), ((-2147483648), 2147483647)) := frS_of (by decide +kernel)
theorem rgS_68 : frS gJ bsJ znJ [20821] 100 ((741, 741), (4371, 4389), (3, 0), ((-2147483648), 2147483647)) := frS_of (by decide +kernel)
theorem rgS_69 : frS gJ bsJ znJ [20822] 100 ((741, 741), (4372, 4390), (3, 0), ((-2147483648), 2147483647)) := frS_of (by decide +kernel)
theorem rgS_70 : frS gJ bsJ znJ [20012] 100 ((741, 741), (12, 12), (1, 0), (0, 7)) := frS_of (by decide +kernel)
theorem rgS_71 : frS gJ bsJ znJ [738] 100 ((738, 738), (0, 59), (1, 0), ((-2147483648), 2147483647)) := frS_dflt (by decide) (by decide +kernel)
theorem rgS_72 : frS gJ bsJ znJ [759] 100 ((759, 759), (0, 59), (1, 0), ((-2147483648), 2147483647)) := frS_dflt (by decide) (by decide +kernel)
theorem rgS_75 : frS gJ bsJ znJ [210] 100 ((210, 210), (0, 23), (1, 0), ((-2147483648), 2147483647)) := frS_dflt (by decide) (by decide +kernel)
theorem rgS_76 : frS gJ bsJ znJ [752] 100 ((752, 752), (0, 23), (1, 0), ((-2147483648), 2147483647)) := frS_dflt (by decide) (by decide +kernel)
theorem rgS_77 : frS gJ bsJ znJ [751] 100 ((751, 751), (0, 23), (1, 0), (0, 23)) := frS_of (by decide +kernel)
theorem rgS_79 : frS gJ bsJ znJ [700] 100 ((700, 700), (0, 95), (1, 0), (0, 255)) := frS_of (by decide +kernel)
theorem rgS_81 : frS gJ bsJ znJ [754] 100 ((754, 754), (0, 23), (1, 0), ((-2147483648), 2147483647)) := frS_dflt (by decide) (by decide +kernel)
theorem rgS_82 : frS gJ bsJ znJ [755] 100 ((755, 755), (0, 23), (1, 0), ((-2147483648), 2147483647)) := frS_dflt (by decide) (by decide +kernel)
theorem rgS_83 : frS gJ bsJ znJ [20832] 100 ((741, 741), (4510, 4557), (1, 0), ((-2147483648), 2147483647)) := frS_of (by decide +kernel)
theorem rgS_84 : frS gJ bsJ znJ [20833] 100 ((741, 741), (4560, 4563), (1, 0), (0, 99)) := frS_of (by decide +kernel)
theorem rgS_86 : frS gJ bsJ znJ [20834] 100 ((741, 741), (4570, 4665), (4, 3), ((-2147483648), 2147483647)) := frS_of (by decide +kernel)
theorem rgS_87 : frS gJ bsJ znJ [20500] 100 ((741, 741), (1020, 1202), (61, 60), ((-2147483648), 2147483647)) := frS_of (by decide +kernel)
theorem rgS_88 : frS gJ bsJ znJ [249] 100 ((249, 249), (0, 5), (1, 0), ((-2147483648), 2147483647)) := frS_dflt (by decide) (by decide +kernel)
theorem rgS_89 : frS gJ bsJ znJ [250] 100 ((250, 250), (0, 5), (1, 0), ((-2147483648), 2147483647)) := frS_dflt (by decide) (by decide +kernel)
theorem rgS_90 : frS gJ bsJ znJ [251] 100 ((251, 251), (0, 5), (1, 0), ((-2147483648), 2147483647)) := frS_dflt (by decide) (by decide +kernel)
theorem rgS_91 : frS gJ bsJ znJ [252] 100 ((252, 252), (0, 9), (1, 0), ((-2147483648), 2147483647)) := frS_dflt (by decide) (by decide +kernel)
theorem rgS_92 : frS gJ bsJ znJ [253] 100 ((253, 253), (0, 9), (1, 0), ((-2147483648), 2147483647)) := frS_dflt (by decide) (by decide +kernel)
theorem rgS_93 : frS gJ bsJ znJ [222] 100 ((222, 222), (0, 47), (1, 0), ((-2147483648), 2147483647)) := frS_dflt (by decide) (by decide +kernel)
theorem rgS_94 : frS gJ bsJ znJ [733] 100 ((733, 733), (0, 300), (1, 0), ((-2147483648), 2147483647)) := frS_dflt (by decide) (by decide +kernel)
theorem rgS_95 : frS gJ bsJ znJ [734] 101 ((734, 734), (0, 300), (1, 0), ((-9223372036854775808), 9223372036854775807)) := frS_of (by decide +kernel)
theorem rgS_96 : frS gJ bsJ znJ [254] 100 ((254, 254), (0, 6), (1, 0), ((-2147483648), 2147483647)) := frS_dflt (by decide) (by decide +kernel)
theorem rgS_97 : frS gJ bsJ znJ [255] 100 ((255, 255), (0, 6), (1, 0), ((-2147483648), 2147483647)) := frS_dflt (by decide) (by decide +kernel)
theorem rgS_98 : frS gJ bsJ znJ [256] 100 ((256, 256), (0, 6), (1, 0), ((-2147483648), 2147483647)) := frS_dflt (by decide) (by decide +kernel)
theorem rgS_99 : frS gJ bsJ znJ [3] 100 ((3, 3), (0, 19), (1, 0), ((-2147483648), 2147483647)) := frS_dflt (by decide) (by decide +kernel)
theorem rgS_100 : frS gJ bsJ znJ [4] 100 ((4, 4), (0, 19), (1, 0), ((-2147483648), 2147483647)) := frS_dflt (by decide) (by decide +kernel)
theorem rgS_101 : frS gJ bsJ znJ [223] 100 ((223, 223), (0, 3), (1, 0), (0, 99)) := frS_of (by decide +kernel)
theorem rgS_102 : frS gJ bsJ znJ [739] 100 ((739, 739), (0, 59), (1, 0), ((-2147483648), 2147483647)) := frS_dflt (by decide) (by decide +kernel)
theorem rgS_103 : frS gJ bsJ znJ [178] 100 ((178, 178), (0, 23), (1, 0), ((-2147483648), 2147483647)) := frS_dflt (by decide) (by decide +kernel)
theorem rgS_104 : frS gJ bsJ znJ [179] 100 ((179, 179), (0, 23), (1, 0), ((-2147483648), 2147483647)) := frS_dflt (by decide) (by decide +kernel)
theorem rgS_105 : frS gJ bsJ znJ [180] 100 ((180, 180), (0, 23), (1, 0), (0, 19)) := frS_of (by decide +kernel)
theorem rgS_106 : frS gJ bsJ znJ [181] 100 ((181, 181), (0, 23), (1, 0), ((-2147483648), 2147483647)) := frS_dflt (by decide) (by decide +kernel)
theorem rgS_107 : frS gJ bsJ znJ [224] 100 ((225, 248), (0, 3), (1, 0), ((-2147483648), 2147483647)) := frS_dflt (by decide) (by decide +kernel)
theorem rgS_108 : frS gJ bsJ znJ [183] 100 ((184, 186), (0, 60), (1, 0), ((-2147483648), 2147483647)) := frS_dflt (by decide) (by decide +kernel)
theorem rgS_109 : frS gJ bsJ znJ [212] 100 ((213, 220), (0, 11), (1, 0), ((-2147483648), 2147483647)) := frS_dflt (by decide) (by decide +kernel)
theorem rgS_110 : frS gJ bsJ znJ [20013] 100 ((741, 741), (13, 13), (1, 0), (0, 90)) := frS_of (by decide +kernel)
theorem rgS_112 : frS gJ bsJ znJ [207] 100 ((207, 207), (0, 25), (1, 0), ((-2147483648), 2147483647)) := frS_dflt (by decide) (by decide +kernel)
theorem rgS_114 : frS gJ bsJ znJ [20101, 20102, 20103, 20104, 20105, 20106] 100 ((741, 741), (31, 416), (20, 5), ((-2147483648), 2147483647)) := frS_of (by decide +kernel)
theorem rgS_116 : frS gJ bsJ znJ [20304] 100 ((741, 741), (534, 856), (14, 0), ((-2147483648), 2147483647)) := frS_of (by decide +kernel)
theorem rgS_117 : frS gJ bsJ znJ [756] 100 ((756, 756), (0, 7524), (1, 0), ((-2147483648), 2147483647)) := frS_dflt (by decide) (by decide +kernel)
theorem rgS_118 : frS gJ bsJ znJ [68] 100 ((68, 68), (0, 23), (1, 0), (0, 19)) := frS_of (by decide +kernel)
theorem rgS_119 : frS gJ bsJ znJ [69] 100 ((69, 69), (0, 23), (1, 0), (0, 19)) := frS_of (by decide +kernel)
theorem rgS_120 : frS gJ bsJ znJ [70] 100 ((70, 70), (0, 23), (1, 0), ((-2147483648), 2147483647)) := frS_dflt (by decide) (by decide +kernel)
theorem rgS_121 : frS gJ bsJ znJ [71] 100 ((71, 71), (0, 23), (1, 0), ((-2147483648), 2147483647)) := frS_dflt (by decide) (by decide +kernel)
theorem rgS_122 : frS gJ bsJ znJ [704] 100 ((704, 704), (0, 19), (1, 0), ((-2147483648), 2147483647)) := frS_dflt (by decide) (by decide +kernel)
theorem rgS_123 : frS gJ bsJ znJ [705] 100 ((705, 705), (0, 19), (1, 0), (0, 30)) := frS_of (by decide +kernel)
theorem rgS_124 : frS gJ bsJ znJ [706] 100 ((707, 726), (0, 29), (1, 0), ((-2147483648), 2147483647)) := frS_dflt (by decide) (by decide +kernel)
theorem rgS_125 : frS gJ bsJ znJ [168] 100 ((168, 168), (0, 23), (1, 0), ((-2147483648), 2147483647)) := frS_dflt (by decide) (by decide +kernel)
theorem rgS_126 : frS gJ bsJ znJ [167] 100 ((167, 167), (0, 23), (1, 0), ((-2147483648), 2147483647)) := frS_dflt (by decide) (by decide +kernel)
theorem rgS_127 : frS gJ bsJ znJ [169] 100 ((169, 169), (0, 23), (1, 0), ((-2147483648), 2147483647)) := frS_dflt (by decide) (by decide +kernel)
theorem rgS_128 : frS gJ bsJ znJ [209] 100 ((209, 209), (0, 23), (1, 0), ((-2147483648), 2147483647)) := frS_dflt (by decide) (by decide +kernel)
theorem rgS_129 : frS gJ bsJ znJ [737] 100 ((737, 737), (0, 6), (1, 0), (0, 6)) := frS_of (by decide +kernel)
theorem rgS_130 : frS gJ bsJ znJ [731] 100 ((731, 731), (0, 48), (1, 0), ((-2147483648), 2147483647)) := frS_dflt (by decide) (by decide +kernel)
theorem rgS_131 : frS gJ bsJ znJ [757] 100 ((757, 757), (0, 6), (1, 0), (0, 6)) := frS_of (by decide +kernel)
theorem rgS_132 : frS gJ bsJ znJ [20112, 20113, 20114, 20115, 20116] 100 ((741, 741), (42, 426), (20, 4), ((-2147483648), 2147483647)) := frS_of (by decide +kernel)
theorem rgS_133 : frS gJ bsJ znJ [174] 100 ((174, 174), (0, 23), (1, 0), ((-2147483648), 2147483647)) := frS_dflt (by decide) (by decide +kernel)
theorem rgS_134 : frS gJ bsJ znJ [758] 100 ((758, 758), (0, 6), (1, 0), (0, 6)) := frS_of (by decide +kernel)
theorem rgS_135 : frS gJ bsJ znJ [20022] 100 ((741, 741), (22, 22), (1, 0), ((-2147483648), 2147483647)) := frS_of (by decide +kernel)
theorem rgS_136 : frS gJ bsJ znJ [20107, 20108, 20109, 20110, 20111] 100 ((741, 741), (37, 421), (20, 4), ((-2147483648), 2147483647)) := frS_of (by decide +kernel)
theorem rgS_137 : frS gJ bsJ znJ [20101] 100 ((741, 741), (31, 411), (20, 0), ((-2147483648), 2147483647)) := frS_of (by decide +kernel)
theorem rgS_138 : frS gJ bsJ znJ [172] 100 ((172, 172), (0, 23), (1, 0), ((-2147483648), 2147483647)) := frS_dflt (by decide) (by decide +kernel)
theorem rgS_139 : frS gJ bsJ znJ [26] 100 ((27, 46), (0, 4), (1, 0), ((-2147483648), 2147483647)) := frS_dflt (by decide) (by decide +kernel)
theorem rgS_140 : frS gJ bsJ znJ [20830] 100 ((741, 741), (4400, 4495), (12, 11), ((-2147483648), 2147483647)) := frS_of (by decide +kernel)
theorem rgS_142 : frS gJ bsJ znJ [164] 100 ((164, 164), (0, 23), (1, 0), ((-2147483648), 2147483647)) := frS_dflt (by decide) (by decide +kernel)
theorem rgS_143 : frS gJ bsJ znJ [165] 100 ((165, 165), (0, 23), (1, 0), (0, 19)) := frS_of (by decide +kernel)
theorem rgS_144 : frS gJ bsJ znJ [166] 100 ((166, 166), (0, 23), (1, 0), ((-2147483648), 2147483647)) := frS_dflt (by decide) (by decide +kernel)
theorem rgS_145 : frS gJ bsJ znJ [170] 100 ((170, 170), (0, 23), (1, 0), ((-2147483648), 2147483647)) := frS_dflt (by decide) (by decide +kernel)
theorem rgS_146 : frS gJ bsJ znJ [173] 100 ((173, 173), (0, 23), (1, 0), ((-2147483648), 2147483647)) := frS_dflt (by decide) (by decide +kernel)
theorem rgS_147 : frS gJ bsJ znJ [176] 100 ((176, 176), (0, 23), (1, 0), ((-2147483648), 2147483647)) := frS_dflt (by decide) (by decide +kernel)
theorem rgS_148 : frS gJ bsJ znJ [208] 100 ((208, 208), (0, 95), (1, 0), ((-2147483648), 2147483647)) := frS_dflt (by decide) (by decide +kernel)
theorem rgS_149 : frS gJ bsJ znJ [20310] 100 ((741, 741), (540, 862), (14, 0), ((-2147483648), 2147483647)) := frS_of (by decide +kernel)
theorem rgS_150 : frS gJ bsJ znJ [20104] 100 ((741, 741), (34, 414), (20, 0), ((-2147483648), 2147483647)) := frS_of (by decide +kernel)
theorem rgS_151 : frS gJ bsJ znJ [20103] 100 ((741, 741), (33, 413), (20, 0), ((-2147483648), 2147483647)) := frS_of (by decide +kernel)
theorem rgS_152 : frS gJ bsJ znJ [760] 100 ((760, 760), (0, 59), (1, 0), ((-2147483648), 2147483647)) := frS_dflt (by decide) (by decide +kernel)
theorem rgS_153 : frS gJ bsJ znJ [20312] 100 ((741, 741), (542, 864), (14, 0), ((-2147483648), 2147483647)) := frS_of (by decide +kernel)
theorem rgS_154 : frS gJ bsJ znJ [20700] 100 ((741, 741), (3610, 4322), (8, 0), (0, 19)) := frS_of (by decide +kernel)
theorem rgS_155 : frS gJ bsJ znJ [20701, 20702, 20703, 20704, 20705] 100 ((741, 741), (3611, 4327), (8, 4), ((-2147483648), 2147483647)) := frS_of (by decide +kernel)
theorem rgS_156 : frS gJ bsJ znJ [20706] 100 ((741, 741), (3616, 4328), (8, 0), ((-2147483648), 2147483647)) := frS_of (by decide +kernel)
theorem rgS_157 : frS gJ bsJ znJ [20707] 100 ((741, 741), (3617, 4329), (8, 0), ((-2147483648), 2147483647)) := frS_of (by decide +kernel)
theorem rgS_158 : frS gJ bsJ znJ [190] 100 ((190, 190), (0, 11), (1, 0), ((-2147483648), 2147483647)) := frS_dflt (by decide) (by decide +kernel)
theorem rgS_159 : frS gJ bsJ znJ [189] 100 ((189, 189), (0, 11), (1, 0), ((-2147483648), 2147483647)) := frS_dflt (by decide) (by decide +kernel)
theorem rgS_160 : frS gJ bsJ znJ [47] 100 ((48, 67), (0, 5), (1, 0), ((-2147483648), 2147483647)) := frS_dflt (by decide) (by decide +kernel)
theorem rgS_161 : frS gJ bsJ znJ [20307] 100 ((741, 741), (537, 859), (14, 0), ((-2147483648), 2147483647)) := frS_of (by decide +kernel)
theorem rgS_162 : frS gJ bsJ znJ [730] 100 ((730, 730), (0, 23), (1, 0), ((-2147483648), 2147483647)) := frS_dflt (by decide) (by decide +kernel)
theorem rgS_163 : frS gJ bsJ znJ [728] 100 ((728, 728), (0, 23), (1, 0), ((-2147483648), 2147483647)) := frS_dflt (by decide) (by decide +kernel)
theorem rgS_164 : frS gJ bsJ znJ [729] 100 ((729, 729), (0, 23), (1, 0), ((-2147483648), 2147483647)) := frS_dflt (by decide) (by decide +kernel)
theorem rgS_165 : frS gJ bsJ znJ [72] 100 ((73, 162), (5, 5), (1, 0), ((-2147483648), 2147483647)) := frS_of (by decide +kernel)
theorem rgS_166 : frS gJ bsJ znJ [72] 100 ((73, 162), (6, 6), (1, 0), ((-2147483648), 2147483647)) := frS_of (by decide +kernel)
theorem rgS_167 : frS gJ bsJ znJ [72] 100 ((73, 162), (7, 7), (1, 0), (0, 19)) := frS_of (by decide +kernel)
theorem rgS_168 : frS gJ bsJ znJ [517] 100 ((518, 537), (0, 4), (1, 0), ((-2147483648), 2147483647)) := frS_dflt (by decide) (by decide +kernel)
theorem rgS_169 : frS gJ bsJ znJ [684] 100 ((684, 684), (0, 23), (1, 0), ((-2147483648), 2147483647)) := frS_dflt (by decide) (by decide +kernel)
theorem rgS_170 : frS gJ bsJ znJ [686] 100 ((686, 686), (0, 23), (1, 0), ((-2147483648), 2147483647)) := frS_dflt (by decide) (by decide +kernel)
theorem rgS_171 : frS gJ bsJ znJ [538] 100 ((539, 558), (0, 4), (1, 0), ((-2147483648), 2147483647)) := frS_dflt (by decide) (by decide +kernel)
theorem rgS_172 : frS gJ bsJ znJ [687] 100 ((687, 687), (0, 23), (1, 0), ((-1000000005), 60)) := frS_of (by decide +kernel)
theorem rgS_173 : frS gJ bsJ znJ [688] 100 ((688, 688), (0, 23), (1, 0), ((-2147483648), 2147483647)) := frS_dflt (by decide) (by decide +kernel)
theorem rgS_174 : frS gJ bsJ znJ [694] 100 ((694, 694), (0, 5), (1, 0), ((-2147483648), 2147483647)) := frS_dflt (by decide) (by decide +kernel)
theorem rgS_175 : frS gJ bsJ znJ [683] 100 ((683, 683), (0, 23), (1, 0), ((-2147483648), 2147483647)) := frS_dflt (by decide) (by decide +kernel)
theorem rgS_176 : frS gJ bsJ znJ [685] 100 ((685, 685), (0, 23), (1, 0), ((-2147483648), 2147483647)) := frS_dflt (by decide) (by decide +kernel)
theorem rgS_177 : frS gJ bsJ znJ [693] 100 ((693, 693), (0, 23), (1, 0), ((-2147483648), 2147483647)) := frS_dflt (by decide) (by decide +kernel)
theorem rgS_178 : frS gJ bsJ znJ [682] 100 ((682, 682), (0, 23), (1, 0), ((-2147483648), 2147483647)) := frS_dflt (by decide) (by decide +kernel)
theorem rgS_179 : frS gJ bsJ znJ [680] 100 ((680, 680), (0, 23), (1, 0), ((-2147483648), 2147483647)) := frS_dflt (by decide) (by decide +kernel)
theorem rgS_180 : frS gJ bsJ znJ [559] 100 ((560, 579), (0, 5), (1, 0), ((-2147483648), 2147483647)) := frS_dflt (by decide) (by decide +kernel)
theorem rgS_181 : frS gJ bsJ znJ [584] 100 ((585, 674), (5, 5), (1, 0), ((-2147483648), 2147483647)) := frS_of (by decide +kernel)
theorem rgS_182 : frS gJ bsJ znJ [584] 100 ((585, 674), (6, 6), (1, 0), ((-2147483648), 2147483647)) := frS_of (by decide +kernel)
theorem rgS_183 : frS gJ bsJ znJ [584] 100 ((585, 674), (7, 7), (1, 0), (0, 19)) := frS_of (by decide +kernel)
theorem rgS_184 : frS gJ bsJ znJ [72] 100 ((73, 162), (0, 4), (1, 0), ((-2147483648), 2147483647)) := frS_of (by decide +kernel)
theorem rgS_185 : frS gJ bsJ znJ [584] 100 ((585, 674), (0, 4), (1, 0), ((-2147483648), 2147483647)) := frS_of (by decide +kernel)
theorem rgG_707_726 {o : Nat} (h1 : 707 ≤ o) (h2 : o ≤ 726) : gJ.1 o = some (100, 30) ∧ ∀ j, j < 30 → gJ.2 o j = none := frG_of (a0 := 707) (a1 := 726) (by decide +kernel) h1 h2
theorem rgG_6_25 {o : Nat} (h1 : 6 ≤ o) (h2 : o ≤ 25) : gJ.1 o = some (100, 5) ∧ ∀ j, j < 5 → gJ.2 o j = none := frG_of (a0 := 6) (a1 := 25) (by decide +kernel) h1 h2
theorem rgG_27_46 {o : Nat} (h1 : 27 ≤ o) (h2 : o ≤ 46) : gJ.1 o = some (100, 5) ∧ ∀ j, j < 5 → gJ.2 o j = none := frG_of (a0 := 27) (a1 := 46) (by decide +kernel) h1 h2
theorem rgG_73_162 {o : Nat} (h1 : 73 ≤ o) (h2 : o ≤ 162) : gJ.1 o = some (100, 8) ∧ ∀ j, j < 8 → gJ.2 o j = none := frG_of (a0 := 73) (a1 := 162) (by decide +kernel) h1 h2
theorem rgG_48_67 {o : Nat} (h1 : 48 ≤ o) (h2 : o ≤ 67) : gJ.1 o = some (100, 6) ∧ ∀ j, j < 6 → gJ.2 o j = none := frG_of (a0 := 48) (a1 := 67) (by decide +kernel) h1 h2
theorem rgG_585_674 {o : Nat} (h1 : 585 ≤ o) (h2 : o ≤ 674) : gJ.1 o = some (100, 8) ∧ ∀ j, j < 8 → gJ.2 o j = none := frG_of (a0 := 585) (a1 := 674) (by decide +kernel) h1 h2
theorem rgG_560_579 {o : Nat} (h1 : 560 ≤ o) (h2 : o ≤ 579) : gJ.1 o = some (100, 6) ∧ ∀ j, j < 6 → gJ.2 o j = none := frG_of (a0 := 560) (a1 := 579) (by decide +kernel) h1 h2
theorem rgG_518_537 {o : Nat} (h1 : 518 ≤ o) (h2 : o ≤ 537) : gJ.1 o = some (100, 5) ∧ ∀ j, j < 5 → gJ.2 o j = none := frG_of (a0 := 518) (a1 := 537) (by decide +kernel) h1 h2
theorem fb_0_6 : bsJ 0 6 = (0, 1) := by decide +kernel
theorem fb_0_14 : bsJ 0 14 = (0, 60) := by decide +kernel
theorem fb_1_5 : bsJ 1 5 = (0, 600) := by decide +kernel
theorem fb_1_6 : bsJ 1 6 = ((-2147483648), 2147483647) := by decide +kernel
theorem fb_1_7 : bsJ 1 7 = ((-2147483648), 2147483647) := by decide +kernel
theorem fb_1_8 : bsJ 1 8 = ((-2147483648), 2147483647) := by decide +kernel
theorem fb_1_9 : bsJ 1 9 = ((-2147483648), 2147483647) := by decide +kernel
theorem fb_2_5 : bsJ 2 5 = (0, 20) := by decide +kernel
theorem fb_2_10 : bsJ 2 10 = (0, 24) := by decide +kernel
theorem fb_2_12 : bsJ 2 12 = (0, 90) := by decide +kernel
theorem fb_163_13 : bsJ 163 13 = (0, 24) := by decide +kernel
theorem fb_177_4 : bsJ 177 4 = (0, 24) := by decide +kernel
theorem fb_187_6 : bsJ 187 6 = (0, 12) := by decide +kernel
theorem fb_187_7 : bsJ 187 7 = ((-2147483648), 2147483647) := by decide +kernel
theorem fb_187_8 : bsJ 187 8 = (0, 1) := by decide +kernel
theorem fb_211_8 : bsJ 211 8 = (0, 6) := by decide +kernel
theorem fb_211_11 : bsJ 211 11 = (0, 10) := by decide +kernel
theorem fb_211_15 : bsJ 211 15 = (0, 7) := by decide +kernel
theorem fb_257_5 : bsJ 257 5 = (0, 600) := by decide +kernel
theorem fb_257_6 : bsJ 257 6 = ((-2147483648), 2147483647) := by decide +kernel
theorem fb_257_7 : bsJ 257 7 = ((-2147483648), 2147483647) := by decide +kernel
theorem fb_257_8 : bsJ 257 8 = ((-2147483648), 2147483647) := by decide +kernel
theorem fb_257_9 : bsJ 257 9 = ((-2147483648), 2147483647) := by decide +kernel
theorem fb_258_5 : bsJ 258 5 = (0, 20) := by decide +kernel
theorem fb_258_10 : bsJ 258 10 = (0, 24) := by decide +kernel
theorem fb_258_12 : bsJ 258 12 = (0, 90) := by decide +kernel
theorem fb_419_13 : bsJ 419 13 = (0, 24) := by decide +kernel
theorem fb_433_4 : bsJ 433 4 = (0, 24) := by decide +kernel
theorem fb_443_6 : bsJ 443 6 = (0, 12) := by decide +kernel
theorem fb_443_7 : bsJ 443 7 = ((-2147483648), 2147483647) := by decide +kernel
theorem fb_443_8 : bsJ 443 8 = (0, 1) := by decide +kernel
theorem fb_467_8 : bsJ 467 8 = (0, 6) := by decide +kernel
theorem fb_467_11 : bsJ 467 11 = (0, 10) := by decide +kernel
theorem fb_467_15 : bsJ 467 15 = (0, 7) := by decide +kernel
theorem fb_513_5 : bsJ 513 5 = (0, 600) := by decide +kernel
theorem fb_513_6 : bsJ 513 6 = ((-2147483648), 2147483647) := by decide +kernel
theorem fb_513_7 : bsJ 513 7 = ((-2147483648), 2147483647) := by decide +kernel
theorem fb_513_8 : bsJ 513 8 = ((-2147483648), 2147483647) := by decide +kernel
theorem fb_513_9 : bsJ 513 9 = ((-2147483648), 2147483647) := by decide +kernel
theorem fb_514_5 : bsJ 514 5 = (0, 20) := by decide +kernel
theorem fb_514_10 : bsJ 514 10 = (0, 24) := by decide +kernel
theorem fb_514_12 : bsJ 514 12 = (0, 90) := by decide +kernel
theorem fb_675_13 : bsJ 675 13 = (0, 24) := by decide +kernel
theorem fb_689_4 : bsJ 689 4 = (0, 24) := by decide +kernel
theorem fb_699_1 : bsJ 699 1 = (0, 96) := by decide +kernel
theorem fb_727_0 : bsJ 727 0 = ((-2147483648), 2147483647) := by decide +kernel
theorem fb_727_1 : bsJ 727 1 = ((-2147483648), 2147483647) := by decide +kernel
theorem fb_727_6 : bsJ 727 6 = (0, 48) := by decide +kernel
theorem fb_727_7 : bsJ 727 7 = ((-2147483648), 2147483647) := by decide +kernel
theorem fb_735_2 : bsJ 735 2 = ((-2147483648), 2147483647) := by decide +kernel
theorem fb_735_3 : bsJ 735 3 = ((-2147483648), 2147483647) := by decide +kernel
theorem fb_735_4 : bsJ 735 4 = ((-2147483648), 2147483647) := by decide +kernel
theorem fb_740_8 : bsJ 740 8 = (0, 96) := by decide +kernel
theorem fb_740_9 : bsJ 740 9 = (0, 96) := by decide +kernel
theorem fb_740_10 : bsJ 740 10 = (0, 96) := by decide +kernel
theorem fb_740_11 : bsJ 740 11 = ((-2147483648), 2147483647) := by decide +kernel
theorem fb_740_12 : bsJ 740 12 = ((-2147483648), 2147483647) := by decide +kernel
theorem fb_740_13 : bsJ 740 13 = ((-2147483648), 2147483647) := by decide +kernel
theorem fb_740_14 : bsJ 740 14 = (0, 8) := by decide +kernel
theorem fb_740_15 : bsJ 740 15 = (0, 8) := by decide +kernel
theorem fb_740_16 : bsJ 740 16 = (0, 97) := by decide +kernel
theorem fb_740_17 : bsJ 740 17 = ((-2147483648), 2147483647) := by decide +kernel
theorem fb_740_18 : bsJ 740 18 = ((-2147483648), 2147483647) := by decide +kernel
theorem fb_740_27 : bsJ 740 27 = ((-2147483648), 2147483647) := by decide +kernel
theorem fb_740_28 : bsJ 740 28 = ((-2147483648), 2147483647) := by decide +kernel
theorem fb_740_29 : bsJ 740 29 = ((-2147483648), 2147483647) := by decide +kernel
theorem fb_740_33 : bsJ 740 33 = ((-2147483648), 2147483647) := by decide +kernel
theorem fb_740_34 : bsJ 740 34 = ((-2147483648), 2147483647) := by decide +kernel
theorem fb_740_35 : bsJ 740 35 = (0, 1) := by decide +kernel
theorem fb_740_37 : bsJ 740 37 = (0, 60) := by decide +kernel
theorem fb_740_39 : bsJ 740 39 = (0, 60) := by decide +kernel
abbrev wz_0 : List Nat := [3, 4, 5, 26, 47, 704, 705, 10205]
abbrev wz_1 : List Nat := [20005, 20100, 20101, 20102, 20103, 20104, 20105, 20106, 20107, 20108, 20109, 20110, 20111, 20112, 20113, 20114, 20115, 20116, 20117, 20118, 20119]
abbrev wz_2 : List Nat := [4, 5]
abbrev wz_3 : List Nat := [20101, 20102, 20103, 20104, 20105, 20106]
abbrev wz_4 : List Nat := [68, 69, 70, 71, 10210]
abbrev wz_5 : List Nat := [20006, 20200, 20201, 20202, 20203]
abbrev wz_6 : List Nat := [71, 207, 208]
abbrev wz_7 : List Nat := [748, 749, 20203]
abbrev wz_8 : List Nat := [182]
abbrev wz_9 : List Nat := [20017, 20018, 20019, 20020, 20021, 20022]
abbrev wz_10 : List Nat := [5, 182]
abbrev wz_11 : List Nat := [20017, 20018, 20019, 20020, 20021, 20022, 20101, 20102, 20103, 20104, 20105]
abbrev wz_12 : List Nat := [164, 165, 166, 167, 168, 169, 170, 171, 172, 173, 174, 175, 176, 10313]
abbrev wz_13 : List Nat := [20007, 20300, 20301, 20302, 20303, 20304, 20305, 20306, 20307, 20308, 20309, 20310, 20311, 20312, 20313]
abbrev wz_14 : List Nat := [167, 169]
abbrev wz_15 : List Nat := [20301, 20303, 20305, 20307, 20309, 20311, 20313]
abbrev wz_16 : List Nat := [168]
abbrev wz_17 : List Nat := [20304]
abbrev wz_18 : List Nat := [171, 182]
abbrev wz_19 : List Nat := [20021, 20305]
abbrev wz_20 : List Nat := [175]
abbrev wz_21 : List Nat := [20309]
abbrev wz_22 : List Nat := [183]
abbrev wz_23 : List Nat := [20500]
abbrev wz_24 : List Nat := [10105, 10106, 10107, 10108]
abbrev wz_25 : List Nat := [20001, 20002, 20003, 20004]
abbrev wz_26 : List Nat := [5, 26, 47, 72, 168, 170, 171, 172, 173, 174, 175, 176, 181, 182, 10105, 10106, 10109, 10212]
abbrev wz_27 : List Nat := [20000, 20001, 20002, 20013, 20022, 20101, 20102, 20103, 20104, 20105, 20107, 20108, 20109, 20110, 20111, 20112, 20113, 20114, 20115, 20116, 20117, 20304, 20305, 20306, 20307, 20308, 20309, 20310, 20312, 20403, 20700, 20701, 20702, 20703, 20704, 20705, 20706, 20707]
abbrev wz_28 : List Nat := [178, 179, 180, 181, 10404]
abbrev wz_29 : List Nat := [20008, 20400, 20401, 20402, 20403, 20404]
abbrev wz_30 : List Nat := [178, 179, 180, 181]
abbrev wz_31 : List Nat := [20400, 20401, 20402, 20403]
abbrev wz_32 : List Nat := [178, 179, 180, 181, 207, 208, 10404]
abbrev wz_33 : List Nat := [748, 749, 20008, 20400, 20401, 20402, 20403, 20404]
abbrev wz_34 : List Nat := [700, 11701]
abbrev wz_35 : List Nat := [747, 12208]
abbrev wz_36 : List Nat := [11701]
abbrev wz_37 : List Nat := [12208]
abbrev wz_38 : List Nat := [11704, 11705, 11707, 11708, 11709, 11710]
abbrev wz_39 : List Nat := [12208, 12209, 12210, 12211, 12212, 12213, 12214, 12215, 12216, 12217, 12218, 20000, 20001, 20002, 20003, 20004, 20005, 20006, 20007, 20008, 20009, 20010, 20011, 20012, 20013, 20014, 20015, 20016, 20017, 20018, 20019, 20020, 20021, 20022, 20023, 20024, 20025, 20026, 20027, 20028, 20029, 20100, 20101, 20102, 20103, 20104, 20105, 20106, 20107, 20108, 20109, 20110, 20111, 20112, 20113, 20114, 20115, 20116, 20117, 20118, 20119, 20200, 20201, 20202, 20203, 20300, 20301, 20302, 20303, 20304, 20305, 20306, 20307, 20308, 20309, 20310, 20311, 20312, 20313, 20400, 20401, 20402, 20403, 20404, 20405, 20500, 20600, 20601, 20602, 20603, 20604, 20605, 20700, 20701, 20702, 20703, 20704, 20705, 20706, 20707, 20800, 20801, 20802, 20810, 20811, 20820, 20821, 20822, 20830, 20831, 20832, 20833, 20834, 20840, 20850]
abbrev wz_40 : List Nat := [206, 10507, 10508]
abbrev wz_41 : List Nat := [20014, 20015, 20016, 20404]
abbrev wz_42 : List Nat := [206, 207, 208]
abbrev wz_43 : List Nat := [748, 749, 20015, 20016, 20404]
abbrev wz_44 : List Nat := [189, 190, 207, 208, 10507]
abbrev wz_45 : List Nat := [748, 749, 20014, 20601, 20602]
abbrev wz_46 : List Nat := [207, 208]
abbrev wz_47 : List Nat := [748, 749]
abbrev wz_48 : List Nat := [207, 208, 209]
abbrev wz_49 : List Nat := [748, 749, 750]
abbrev wz_50 : List Nat := [207, 208, 210]
abbrev wz_51 : List Nat := [748, 749, 751, 752]
abbrev wz_52 : List Nat := [26, 172, 174, 207, 208, 210]
abbrev wz_53 : List Nat := [748, 749, 751, 752, 20108, 20306, 20308]
abbrev wz_54 : List Nat := [704, 705, 706]
abbrev wz_55 : List Nat := [744, 745, 746]
abbrev wz_56 : List Nat := [706]
abbrev wz_57 : List Nat := [746]
abbrev wz_58 : List Nat := [746, 753]
abbrev wz_59 : List Nat := [212]
abbrev wz_60 : List Nat := [20830]
abbrev wz_61 : List Nat := [221]
abbrev wz_62 : List Nat := [20831]
abbrev wz_63 : List Nat := [222]
abbrev wz_64 : List Nat := [20832]
abbrev wz_65 : List Nat := [728, 729, 730, 731, 11900, 11901, 11906, 11907]
abbrev wz_66 : List Nat := [754, 755, 12227, 12228, 12229]
abbrev wz_67 : List Nat := [223]
abbrev wz_68 : List Nat := [20833]
abbrev wz_69 : List Nat := [224]
abbrev wz_70 : List Nat := [20834]
abbrev wz_71 : List Nat := [733, 734]
abbrev wz_72 : List Nat := [756]
abbrev wz_73 : List Nat := [249, 250, 251, 10608]
abbrev wz_74 : List Nat := [20010, 20800, 20801, 20802]
abbrev wz_75 : List Nat := [252, 253, 10611]
abbrev wz_76 : List Nat := [20011, 20810, 20811]
abbrev wz_77 : List Nat := [254, 255, 256, 10615]
abbrev wz_78 : List Nat := [20012, 20820, 20821, 20822]
abbrev wz_79 : List Nat := [736, 737, 12102, 12103, 12104]
abbrev wz_80 : List Nat := [757, 758, 12233, 12234, 12235]
abbrev wz_81 : List Nat := [738, 10014]
abbrev wz_82 : List Nat := [759, 12237]
abbrev wz_83 : List Nat := [515, 516, 517, 538, 559, 580, 581, 582, 583, 584, 676, 677, 678, 679, 680, 681, 682, 683, 684, 685, 686, 687, 688, 690, 691, 692, 693, 694, 695, 733, 734, 736, 737, 739, 10014, 11305, 11306, 11307, 11308, 11309, 11405, 11410, 11412, 11513, 11604, 12102, 12103, 12104]
abbrev wz_84 : List Nat := [743, 756, 757, 758, 760, 12233, 12234, 12235, 12237, 12239, 20000, 20001, 20002, 20003, 20004, 20005, 20006, 20007, 20008, 20009, 20010, 20011, 20012, 20013, 20014, 20015, 20016, 20017, 20018, 20019, 20020, 20021, 20022, 20023, 20024, 20025, 20026, 20027, 20028, 20029, 20100, 20101, 20102, 20103, 20104, 20105, 20106, 20107, 20108, 20109, 20110, 20111, 20112, 20113, 20114, 20115, 20116, 20117, 20118, 20119, 20200, 20201, 20202, 20203, 20300, 20301, 20302, 20303, 20304, 20305, 20306, 20307, 20308, 20309, 20310, 20311, 20312, 20313, 20400, 20401, 20402, 20403, 20404, 20405, 20500, 20600, 20601, 20602, 20603, 20604, 20605, 20700, 20701, 20702, 20703, 20704, 20705, 20706, 20707, 20800, 20801, 20802, 20810, 20811, 20820, 20821, 20822, 20830, 20831, 20832, 20833, 20834, 20840, 20850]
abbrev wz_85 : List Nat := [259, 260, 261, 282, 303, 324, 325, 326, 327, 328, 420, 421, 422, 423, 424, 425, 426, 427, 428, 429, 430, 431, 432, 434, 435, 436, 437, 438, 439, 444, 445, 446, 447, 448, 449, 462, 468, 477, 478, 479, 480, 505, 506, 507, 508, 509, 510, 511, 512, 10006, 10705, 10706, 10707, 10708, 10709, 10805, 10810, 10812, 10913, 11004, 11106, 11107, 11108, 11208, 11211, 11215]
abbrev wz_86 : List Nat := [3, 4, 5, 26, 47, 68, 69, 70, 71, 72, 164, 165, 166, 167, 168, 169, 170, 171, 172, 173, 174, 175, 176, 178, 179, 180, 181, 182, 183, 188, 189, 190, 191, 192, 193, 206, 212, 221, 222, 223, 224, 249, 250, 251, 252, 253, 254, 255, 256, 10105, 10106, 10107, 10108, 10109, 10205, 10210, 10212, 10313, 10404, 10506, 10507, 10508, 10608, 10611, 10615]
abbrev wz_87 : List Nat := [757, 758, 760, 12233, 12234, 12235, 12239]
abbrev wz_88 : List Nat := [259, 260, 261, 282, 303, 324, 325, 326, 327, 328, 420, 421, 422, 423, 424, 425, 426, 427, 428, 429, 430, 431, 432, 434, 435, 436, 437, 438, 439, 10705, 10706, 10707, 10708, 10709, 10805, 10810, 10812, 10913, 11004]
abbrev wz_89 : List Nat := [3, 4, 5, 26, 47, 68, 69, 70, 71, 72, 164, 165, 166, 167, 168, 169, 170, 171, 172, 173, 174, 175, 176, 178, 179, 180, 181, 182, 183, 10105, 10106, 10107, 10108, 10109, 10205, 10210, 10212, 10313, 10404]
abbrev wz_90 : List Nat := [259, 260, 261, 282, 303, 324, 325, 326, 327, 328, 10805, 10810, 10812]
abbrev wz_91 : List Nat := [3, 4, 5, 26, 47, 68, 69, 70, 71, 72, 10205, 10210, 10212]
abbrev wz_92 : List Nat := [210]
abbrev wz_93 : List Nat := [3, 4, 5, 26, 47, 10205]
abbrev wz_94 : List Nat := [515, 516, 517, 538, 559, 580, 581, 582, 583, 584, 676, 677, 678, 679, 680, 681, 682, 683, 684, 685, 686, 687, 688, 690, 691, 692, 693, 694, 695, 739, 11305, 11306, 11307, 11308, 11309, 11405, 11410, 11412, 11513, 11604]
abbrev wz_95 : List Nat := [736, 737, 739, 12102, 12103, 12104]
abbrev wz_96 : List Nat := [733, 734, 739]
abbrev wz_97 : List Nat := [207]
abbrev wz_98 : List Nat := [748]
abbrev wz_99 : List Nat := [704, 705]
abbrev wz_100 : List Nat := [4]
abbrev wz_101 : List Nat := [5]
abbrev wz_102 : List Nat := [167]
abbrev wz_103 : List Nat := [169]
abbrev wz_104 : List Nat := [181]
abbrev wz_105 : List Nat := [180]
abbrev wz_106 : List Nat := [179]
abbrev wz_107 : List Nat := [178]
abbrev wz_108 : List Nat := [515, 516, 517, 538, 559, 580, 581, 582, 583, 584, 676, 677, 678, 679, 680, 681, 682, 683, 684, 685, 686, 687, 688, 690, 691, 692, 693, 694, 695, 11305, 11306, 11307, 11308, 11309, 11405, 11410, 11412, 11513, 11604]
abbrev wz_109 : List Nat := [736, 737, 12103, 12104]
abbrev wz_110 : List Nat := [47, 72, 10212]
abbrev wz_111 : List Nat := [728, 729, 731]
abbrev wz_112 : List Nat := [20112, 20113, 20114, 20115, 20116, 20117]
abbrev wz_113 : List Nat := [26, 172, 174]
abbrev wz_114 : List Nat := [206]
abbrev wz_115 : List Nat := [515, 516, 517, 538, 559, 580, 581, 582, 583, 584, 11405, 11410, 11412]
abbrev wz_116 : List Nat := [736, 12104]
abbrev wz_117 : List Nat := [20002, 20022, 20101, 20102, 20103, 20104, 20105, 20107, 20108, 20109, 20110, 20111, 20305, 20306, 20307, 20308, 20309, 20310]
abbrev wz_118 : List Nat := [20101, 20102, 20103, 20104, 20105, 20107, 20108, 20109, 20110, 20111]
abbrev wz_119 : List Nat := [20101, 20102, 20103, 20104, 20105, 20107, 20108, 20109, 20110, 20111, 20403]
abbrev wz_120 : List Nat := [20001]
abbrev wz_121 : List Nat := [26, 172]
abbrev wz_122 : List Nat := [12227, 12228]
abbrev wz_123 : List Nat := [26]
abbrev wz_124 : List Nat := [208]
abbrev wz_125 : List Nat := [5, 26, 171, 172, 173, 174, 175, 176, 182, 10106]
abbrev wz_126 : List Nat := [5, 26]
abbrev wz_127 : List Nat := [20308, 20309, 20310]
abbrev wz_128 : List Nat := [20022, 20101, 20102, 20103, 20104, 20105, 20107, 20108, 20109, 20110, 20111]
abbrev wz_129 : List Nat := [20203]
abbrev wz_130 : List Nat := [47]
abbrev wz_131 : List Nat := [174, 175, 176]
abbrev wz_132 : List Nat := [182, 10106]
abbrev wz_133 : List Nat := [5, 26, 182]
abbrev wz_134 : List Nat := [26, 171, 172, 173]
abbrev wz_135 : List Nat := [760, 12239]
abbrev wz_136 : List Nat := [20304, 20312]
abbrev wz_137 : List Nat := [20013, 20112, 20113, 20114, 20115, 20116, 20117, 20700, 20701, 20702, 20703, 20704, 20705, 20706, 20707]
abbrev wz_138 : List Nat := [12209, 12210, 12211, 12212, 12213, 12214, 12215, 12216, 12218, 20000, 20001, 20002, 20003, 20004, 20005, 20006, 20007, 20008, 20009, 20010, 20011, 20012, 20013, 20014, 20015, 20016, 20017, 20018, 20019, 20020, 20021, 20022, 20023, 20024, 20025, 20026, 20027, 20028, 20029, 20100, 20101, 20102, 20103, 20104, 20105, 20106, 20107, 20108, 20109, 20110, 20111, 20112, 20113, 20114, 20115, 20116, 20117, 20118, 20119, 20200, 20201, 20202, 20203, 20300, 20301, 20302, 20303, 20304, 20305, 20306, 20307, 20308, 20309, 20310, 20311, 20312, 20313, 20400, 20401, 20402, 20403, 20404, 20405, 20500, 20600, 20601, 20602, 20603, 20604, 20605, 20700, 20701, 20702, 20703, 20704, 20705, 20706, 20707, 20800, 20801, 20802, 20810, 20811, 20820, 20821, 20822, 20830, 20831, 20832, 20833, 20834, 20840, 20850]
abbrev wz_139 : List Nat := [189, 190, 10507]
abbrev wz_140 : List Nat := [20108, 20305, 20306, 20307]
abbrev wz_141 : List Nat := [71]
abbrev wz_142 : List Nat := [5, 26, 181]
abbrev wz_143 : List Nat := [10105]
abbrev wz_144 : List Nat := [171, 173]
abbrev wz_145 : List Nat := [168, 170]
abbrev wz_146 : List Nat := [730]
abbrev wz_147 : List Nat := [728, 730]
abbrev wz_148 : List Nat := [728, 729, 11900]
abbrev wz_149 : List Nat := [420, 421, 422, 423, 424, 425, 426, 427, 428, 429, 430, 431, 432, 10913]
abbrev wz_150 : List Nat := [676, 677, 678, 679, 680, 681, 682, 683, 684, 685, 686, 687, 688, 11513]
abbrev wz_151 : List Nat := [434, 435, 436, 437, 11004]
abbrev wz_152 : List Nat := [690, 691, 692, 693, 11604]
abbrev wz_153 : List Nat := [444, 445, 446, 447, 448, 449, 462, 11106, 11107, 11108]
abbrev wz_154 : List Nat := [188, 189, 190, 191, 192, 193, 206, 10506, 10507, 10508]
abbrev wz_155 : List Nat := [517, 538, 559, 584, 680, 682, 683, 684, 685, 686, 687, 688, 693, 694, 11305, 11306, 11309, 11412]
abbrev wz_156 : List Nat := [559, 584, 11412]
abbrev wz_157 : List Nat := [517, 538]
abbrev wz_158 : List Nat := [559]
abbrev wz_159 : List Nat := [517, 538, 683, 684, 685, 686, 687, 688, 694, 11306]
abbrev wz_160 : List Nat := [686, 687, 688]
abbrev wz_161 : List Nat := [694, 11306]
abbrev wz_162 : List Nat := [517, 538, 694]
abbrev wz_163 : List Nat := [538, 683, 684, 685]
abbrev wz_164 : List Nat := [11305]
abbrev wz_165 : List Nat := [517, 538, 693]
abbrev wz_166 : List Nat := [683, 685]
abbrev wz_167 : List Nat := [693]
abbrev wz_168 : List Nat := [538, 684]
abbrev wz_169 : List Nat := [680, 682]
abbrev wz_170 : List Nat := [468, 477, 478, 479, 480, 505, 506, 507, 508, 509, 510, 511, 512, 11208, 11211, 11215]
abbrev wz_171 : List Nat := [212, 221, 222, 223, 224, 249, 250, 251, 252, 253, 254, 255, 256, 10608, 10611, 10615]
