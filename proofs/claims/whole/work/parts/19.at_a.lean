/-! ===== places of the code ===== -/
theorem c1_0 : (zT 1)[0]? = some (0, z_al 0 1) := rfl
theorem c1_1 : (zT 1)[1]? = some (1, z_gI 0 4) := rfl
theorem c1_4 : (zT 1)[2]? = some (4, z_ic 10 2) := rfl
theorem c1_6 : (zT 1)[3]? = some (6, z_ige 60) := rfl
theorem c1_9 : (zT 1)[4]? = some (9, z_al 0 1) := rfl
theorem c1_10 : (zT 1)[5]? = some (10, z_gR 0 0) := rfl
theorem c1_13 : (zT 1)[6]? = some (13, z_al 0 1) := rfl
theorem c1_14 : (zT 1)[7]? = some (14, z_gI 0 4) := rfl
theorem c1_17 : (zT 1)[8]? = some (17, z_il 1 1) := rfl
theorem c1_18 : (zT 1)[9]? = some (18, z_iast) := rfl
theorem c1_19 : (zT 1)[10]? = some (19, z_al 0 1) := rfl
theorem c1_20 : (zT 1)[11]? = some (20, z_gR 0 1) := rfl
theorem c1_23 : (zT 1)[12]? = some (23, z_al 0 1) := rfl
theorem c1_24 : (zT 1)[13]? = some (24, z_gI 0 4) := rfl
theorem c1_27 : (zT 1)[14]? = some (27, z_il 2 1) := rfl
theorem c1_28 : (zT 1)[15]? = some (28, z_iast) := rfl
theorem c1_29 : (zT 1)[16]? = some (29, z_al 0 1) := rfl
theorem c1_30 : (zT 1)[17]? = some (30, z_gR 0 2) := rfl
theorem c1_33 : (zT 1)[18]? = some (33, z_al 0 1) := rfl
theorem c1_34 : (zT 1)[19]? = some (34, z_gI 0 4) := rfl
theorem c1_37 : (zT 1)[20]? = some (37, z_il 3 1) := rfl
theorem c1_38 : (zT 1)[21]? = some (38, z_iast) := rfl
theorem c1_39 : (zT 1)[22]? = some (39, z_al 0 1) := rfl
theorem c1_40 : (zT 1)[23]? = some (40, z_gR 0 3) := rfl
theorem c1_43 : (zT 1)[24]? = some (43, z_al 0 1) := rfl
theorem c1_44 : (zT 1)[25]? = some (44, z_gI 0 4) := rfl
theorem c1_47 : (zT 1)[26]? = some (47, z_il 4 2) := rfl
theorem c1_49 : (zT 1)[27]? = some (49, z_iast) := rfl
theorem c1_50 : (zT 1)[28]? = some (50, z_al 0 1) := rfl
theorem c1_51 : (zT 1)[29]? = some (51, z_dup) := rfl
theorem c1_52 : (zT 1)[30]? = some (52, z_gI 0 4) := rfl
theorem c1_55 : (zT 1)[31]? = some (55, z_ic 1 1) := rfl
theorem c1_56 : (zT 1)[32]? = some (56, z_iadd) := rfl
theorem c1_57 : (zT 1)[33]? = some (57, z_pI 0 4) := rfl
theorem c1_60 : (zT 1)[34]? = some (60, z_vr) := rfl
theorem c2_0 : (zT 2)[0]? = some (0, z_al 0 1) := rfl
theorem c2_1 : (zT 2)[1]? = some (1, z_ic 0 1) := rfl
theorem c2_2 : (zT 2)[2]? = some (2, z_pI 0 4) := rfl
theorem c2_5 : (zT 2)[3]? = some (5, z_ic 0 1) := rfl
theorem c2_6 : (zT 2)[4]? = some (6, z_is 2 1) := rfl
theorem c2_7 : (zT 2)[5]? = some (7, z_il 2 1) := rfl
theorem c2_8 : (zT 2)[6]? = some (8, z_al 1 1) := rfl
theorem c2_9 : (zT 2)[7]? = some (9, z_gI 0 4) := rfl
theorem c2_12 : (zT 2)[8]? = some (12, z_ige 49) := rfl
theorem c2_15 : (zT 2)[9]? = some (15, z_al 0 1) := rfl
theorem c2_16 : (zT 2)[10]? = some (16, z_al 1 1) := rfl
theorem c2_17 : (zT 2)[11]? = some (17, z_gR 0 0) := rfl
theorem c2_20 : (zT 2)[12]? = some (20, z_il 2 1) := rfl
theorem c2_21 : (zT 2)[13]? = some (21, z_iald 20) := rfl
theorem c2_22 : (zT 2)[14]? = some (22, z_al 1 1) := rfl
theorem c2_23 : (zT 2)[15]? = some (23, z_gR 0 1) := rfl
theorem c2_26 : (zT 2)[16]? = some (26, z_il 2 1) := rfl
theorem c2_27 : (zT 2)[17]? = some (27, z_iald 20) := rfl
theorem c2_28 : (zT 2)[18]? = some (28, z_al 1 1) := rfl
theorem c2_29 : (zT 2)[19]? = some (29, z_gR 0 2) := rfl
theorem c2_32 : (zT 2)[20]? = some (32, z_il 2 1) := rfl
theorem c2_33 : (zT 2)[21]? = some (33, z_iald 20) := rfl
theorem c2_34 : (zT 2)[22]? = some (34, z_al 1 1) := rfl
theorem c2_35 : (zT 2)[23]? = some (35, z_gR 0 3) := rfl
theorem c2_38 : (zT 2)[24]? = some (38, z_il 2 1) := rfl
theorem c2_39 : (zT 2)[25]? = some (39, z_iald 20) := rfl
theorem c2_40 : (zT 2)[26]? = some (40, z_cV 0 1 5 4) := rfl
theorem c2_43 : (zT 2)[27]? = some (43, z_inc 2 1) := rfl
theorem c2_46 : (zT 2)[28]? = some (46, z_goto 7) := rfl
theorem c2_49 : (zT 2)[29]? = some (49, z_vr) := rfl
theorem c4_0 : (zT 4)[0]? = some (0, z_al 0 1) := rfl
theorem c4_1 : (zT 4)[1]? = some (1, z_al 1 1) := rfl
theorem c4_2 : (zT 4)[2]? = some (2, z_il 2 1) := rfl
theorem c4_3 : (zT 4)[3]? = some (3, z_il 3 1) := rfl
theorem c4_4 : (zT 4)[4]? = some (4, z_cV 1 5 7 3) := rfl
theorem c4_7 : (zT 4)[5]? = some (7, z_al 1 1) := rfl
theorem c4_8 : (zT 4)[6]? = some (8, z_il 5 2) := rfl
theorem c4_10 : (zT 4)[7]? = some (10, z_cV 10 46 2 1) := rfl
theorem c4_13 : (zT 4)[8]? = some (13, z_ifeq 30) := rfl
theorem c4_16 : (zT 4)[9]? = some (16, z_al 0 1) := rfl
theorem c4_17 : (zT 4)[10]? = some (17, z_gR 1 0) := rfl
theorem c4_20 : (zT 4)[11]? = some (20, z_il 5 2) := rfl
theorem c4_22 : (zT 4)[12]? = some (22, z_aald 27) := rfl
theorem c4_23 : (zT 4)[13]? = some (23, z_ic 0 1) := rfl
theorem c4_24 : (zT 4)[14]? = some (24, z_dup2) := rfl
theorem c4_25 : (zT 4)[15]? = some (25, z_iald 20) := rfl
theorem c4_26 : (zT 4)[16]? = some (26, z_ic 100 2) := rfl
theorem c4_28 : (zT 4)[17]? = some (28, z_iadd) := rfl
theorem c4_29 : (zT 4)[18]? = some (29, z_iast) := rfl
theorem c4_30 : (zT 4)[19]? = some (30, z_ic 0 1) := rfl
theorem c4_31 : (zT 4)[20]? = some (31, z_is 6 2) := rfl
theorem c4_33 : (zT 4)[21]? = some (33, z_il 6 2) := rfl
theorem c4_35 : (zT 4)[22]? = some (35, z_ic 3 1) := rfl
theorem c4_36 : (zT 4)[23]? = some (36, z_ige 127) := rfl
theorem c4_39 : (zT 4)[24]? = some (39, z_ic 0 1) := rfl
theorem c4_40 : (zT 4)[25]? = some (40, z_is 7 2) := rfl
theorem c4_42 : (zT 4)[26]? = some (42, z_ic 0 1) := rfl
theorem c4_43 : (zT 4)[27]? = some (43, z_is 8 2) := rfl
theorem c4_45 : (zT 4)[28]? = some (45, z_il 8 2) := rfl
theorem c4_47 : (zT 4)[29]? = some (47, z_al 1 1) := rfl
theorem c4_48 : (zT 4)[30]? = some (48, z_gI 10 5) := rfl
theorem c4_51 : (zT 4)[31]? = some (51, z_ige 112) := rfl
theorem c4_54 : (zT 4)[32]? = some (54, z_al 0 1) := rfl
theorem c4_55 : (zT 4)[33]? = some (55, z_gR 1 0) := rfl
theorem c4_58 : (zT 4)[34]? = some (58, z_il 8 2) := rfl
theorem c4_60 : (zT 4)[35]? = some (60, z_aald 27) := rfl
theorem c4_61 : (zT 4)[36]? = some (61, z_il 6 2) := rfl
theorem c4_63 : (zT 4)[37]? = some (63, z_dup2) := rfl
theorem c4_64 : (zT 4)[38]? = some (64, z_iald 20) := rfl
theorem c4_65 : (zT 4)[39]? = some (65, z_il 7 2) := rfl
theorem c4_67 : (zT 4)[40]? = some (67, z_iadd) := rfl
theorem c4_68 : (zT 4)[41]? = some (68, z_iast) := rfl
theorem c4_69 : (zT 4)[42]? = some (69, z_il 8 2) := rfl
theorem c4_71 : (zT 4)[43]? = some (71, z_il 4 2) := rfl
theorem c4_73 : (zT 4)[44]? = some (73, z_ine 80) := rfl
theorem c4_76 : (zT 4)[45]? = some (76, z_ic 0 1) := rfl
theorem c4_77 : (zT 4)[46]? = some (77, z_goto 104) := rfl
theorem c4_80 : (zT 4)[47]? = some (80, z_al 0 1) := rfl
theorem c4_81 : (zT 4)[48]? = some (81, z_gR 1 0) := rfl
theorem c4_84 : (zT 4)[49]? = some (84, z_il 8 2) := rfl
theorem c4_86 : (zT 4)[50]? = some (86, z_aald 27) := rfl
theorem c4_87 : (zT 4)[51]? = some (87, z_il 6 2) := rfl
theorem c4_89 : (zT 4)[52]? = some (89, z_iald 20) := rfl
theorem c4_90 : (zT 4)[53]? = some (90, z_al 1 1) := rfl
theorem c4_91 : (zT 4)[54]? = some (91, z_gR 10 0) := rfl
theorem c4_94 : (zT 4)[55]? = some (94, z_il 8 2) := rfl
theorem c4_96 : (zT 4)[56]? = some (96, z_aald 24) := rfl
theorem c4_97 : (zT 4)[57]? = some (97, z_gI 7 1) := rfl
theorem c4_100 : (zT 4)[58]? = some (100, z_imul) := rfl
theorem c4_101 : (zT 4)[59]? = some (101, z_ic 10 2) := rfl
theorem c4_103 : (zT 4)[60]? = some (103, z_idiv) := rfl
theorem c4_104 : (zT 4)[61]? = some (104, z_is 7 2) := rfl
theorem c4_106 : (zT 4)[62]? = some (106, z_inc 8 1) := rfl
theorem c4_109 : (zT 4)[63]? = some (109, z_goto 45) := rfl
theorem c4_112 : (zT 4)[64]? = some (112, z_al 0 1) := rfl
theorem c4_113 : (zT 4)[65]? = some (113, z_gR 1 1) := rfl
theorem c4_116 : (zT 4)[66]? = some (116, z_il 6 2) := rfl
theorem c4_118 : (zT 4)[67]? = some (118, z_il 7 2) := rfl
theorem c4_120 : (zT 4)[68]? = some (120, z_iast) := rfl
theorem c4_121 : (zT 4)[69]? = some (121, z_inc 6 1) := rfl
theorem c4_124 : (zT 4)[70]? = some (124, z_goto 33) := rfl
theorem c4_127 : (zT 4)[71]? = some (127, z_vr) := rfl
theorem c5_0 : (zT 5)[0]? = some (0, z_ic 0 1) := rfl
theorem c5_1 : (zT 5)[1]? = some (1, z_is 4 2) := rfl
theorem c5_3 : (zT 5)[2]? = some (3, z_il 4 2) := rfl
theorem c5_5 : (zT 5)[3]? = some (5, z_al 1 1) := rfl
theorem c5_6 : (zT 5)[4]? = some (6, z_gI 10 5) := rfl
theorem c5_9 : (zT 5)[5]? = some (9, z_ige 56) := rfl
theorem c5_12 : (zT 5)[6]? = some (12, z_ic 0 1) := rfl
theorem c5_13 : (zT 5)[7]? = some (13, z_is 5 2) := rfl
theorem c5_15 : (zT 5)[8]? = some (15, z_il 5 2) := rfl
theorem c5_17 : (zT 5)[9]? = some (17, z_ic 3 1) := rfl
theorem c5_18 : (zT 5)[10]? = some (18, z_ige 50) := rfl
theorem c5_21 : (zT 5)[11]? = some (21, z_al 0 1) := rfl
theorem c5_22 : (zT 5)[12]? = some (22, z_gR 1 0) := rfl
theorem c5_25 : (zT 5)[13]? = some (25, z_il 4 2) := rfl
theorem c5_27 : (zT 5)[14]? = some (27, z_aald 27) := rfl
theorem c5_28 : (zT 5)[15]? = some (28, z_il 5 2) := rfl
theorem c5_30 : (zT 5)[16]? = some (30, z_al 1 1) := rfl
theorem c5_31 : (zT 5)[17]? = some (31, z_gR 10 0) := rfl
theorem c5_34 : (zT 5)[18]? = some (34, z_il 4 2) := rfl
theorem c5_36 : (zT 5)[19]? = some (36, z_aald 24) := rfl
theorem c5_37 : (zT 5)[20]? = some (37, z_gR 7 0) := rfl
theorem c5_40 : (zT 5)[21]? = some (40, z_il 5 2) := rfl
theorem c5_42 : (zT 5)[22]? = some (42, z_iald 20) := rfl
theorem c5_43 : (zT 5)[23]? = some (43, z_iast) := rfl
theorem c5_44 : (zT 5)[24]? = some (44, z_inc 5 1) := rfl
theorem c5_47 : (zT 5)[25]? = some (47, z_goto 15) := rfl
theorem c5_50 : (zT 5)[26]? = some (50, z_inc 4 1) := rfl
theorem c5_53 : (zT 5)[27]? = some (53, z_goto 3) := rfl
theorem c5_56 : (zT 5)[28]? = some (56, z_ic 0 1) := rfl
theorem c5_57 : (zT 5)[29]? = some (57, z_is 4 2) := rfl
theorem c5_59 : (zT 5)[30]? = some (59, z_il 4 2) := rfl
theorem c5_61 : (zT 5)[31]? = some (61, z_al 1 1) := rfl
theorem c5_62 : (zT 5)[32]? = some (62, z_gI 10 6) := rfl
theorem c5_65 : (zT 5)[33]? = some (65, z_ige 152) := rfl
theorem c5_68 : (zT 5)[34]? = some (68, z_al 1 1) := rfl
theorem c5_69 : (zT 5)[35]? = some (69, z_gR 10 1) := rfl
theorem c5_72 : (zT 5)[36]? = some (72, z_il 4 2) := rfl
theorem c5_74 : (zT 5)[37]? = some (74, z_aald 25) := rfl
theorem c5_75 : (zT 5)[38]? = some (75, z_as 5 2) := rfl
theorem c5_77 : (zT 5)[39]? = some (77, z_il 2 1) := rfl
theorem c5_78 : (zT 5)[40]? = some (78, z_ic 1 1) := rfl
theorem c5_79 : (zT 5)[41]? = some (79, z_il 4 2) := rfl
theorem c5_81 : (zT 5)[42]? = some (81, z_ishl) := rfl
theorem c5_82 : (zT 5)[43]? = some (82, z_iand) := rfl
theorem c5_83 : (zT 5)[44]? = some (83, z_ifeq 146) := rfl
theorem c5_86 : (zT 5)[45]? = some (86, z_al 5 2) := rfl
theorem c5_88 : (zT 5)[46]? = some (88, z_gI 3 5) := rfl
theorem c5_91 : (zT 5)[47]? = some (91, z_il 3 1) := rfl
theorem c5_92 : (zT 5)[48]? = some (92, z_igt 146) := rfl
theorem c5_95 : (zT 5)[49]? = some (95, z_al 1 1) := rfl
theorem c5_96 : (zT 5)[50]? = some (96, z_al 5 2) := rfl
theorem c5_98 : (zT 5)[51]? = some (98, z_gI 3 1) := rfl
theorem c5_101 : (zT 5)[52]? = some (101, z_cV 10 46 2 1) := rfl
theorem c5_104 : (zT 5)[53]? = some (104, z_ifeq 146) := rfl
theorem c5_107 : (zT 5)[54]? = some (107, z_ic 0 1) := rfl
theorem c5_108 : (zT 5)[55]? = some (108, z_is 6 2) := rfl
theorem c5_110 : (zT 5)[56]? = some (110, z_il 6 2) := rfl
theorem c5_112 : (zT 5)[57]? = some (112, z_ic 3 1) := rfl
theorem c5_113 : (zT 5)[58]? = some (113, z_ige 146) := rfl
theorem c5_116 : (zT 5)[59]? = some (116, z_al 0 1) := rfl
theorem c5_117 : (zT 5)[60]? = some (117, z_gR 1 0) := rfl
theorem c5_120 : (zT 5)[61]? = some (120, z_al 5 2) := rfl
theorem c5_122 : (zT 5)[62]? = some (122, z_gI 3 1) := rfl
theorem c5_125 : (zT 5)[63]? = some (125, z_aald 27) := rfl
theorem c5_126 : (zT 5)[64]? = some (126, z_il 6 2) := rfl
theorem c5_128 : (zT 5)[65]? = some (128, z_dup2) := rfl
theorem c5_129 : (zT 5)[66]? = some (129, z_iald 20) := rfl
theorem c5_130 : (zT 5)[67]? = some (130, z_al 5 2) := rfl
theorem c5_132 : (zT 5)[68]? = some (132, z_gR 3 0) := rfl
theorem c5_135 : (zT 5)[69]? = some (135, z_il 6 2) := rfl
theorem c5_137 : (zT 5)[70]? = some (137, z_iald 20) := rfl
theorem c5_138 : (zT 5)[71]? = some (138, z_iadd) := rfl
theorem c5_139 : (zT 5)[72]? = some (139, z_iast) := rfl
theorem c5_140 : (zT 5)[73]? = some (140, z_inc 6 1) := rfl
theorem c5_143 : (zT 5)[74]? = some (143, z_goto 110) := rfl
theorem c5_146 : (zT 5)[75]? = some (146, z_inc 4 1) := rfl
theorem c5_149 : (zT 5)[76]? = some (149, z_goto 59) := rfl
theorem c5_152 : (zT 5)[77]? = some (152, z_vr) := rfl
theorem c6_0 : (zT 6)[0]? = some (0, z_ic 0 1) := rfl
theorem c6_1 : (zT 6)[1]? = some (1, z_is 2 1) := rfl
theorem c6_2 : (zT 6)[2]? = some (2, z_ic 0 1) := rfl
theorem c6_3 : (zT 6)[3]? = some (3, z_is 3 1) := rfl
theorem c6_4 : (zT 6)[4]? = some (4, z_il 3 1) := rfl
theorem c6_5 : (zT 6)[5]? = some (5, z_ic 3 1) := rfl
theorem c6_6 : (zT 6)[6]? = some (6, z_ige 39) := rfl
theorem c6_9 : (zT 6)[7]? = some (9, z_al 0 1) := rfl
theorem c6_10 : (zT 6)[8]? = some (10, z_gR 1 1) := rfl
theorem c6_13 : (zT 6)[9]? = some (13, z_il 3 1) := rfl
theorem c6_14 : (zT 6)[10]? = some (14, z_iald 20) := rfl
theorem c6_15 : (zT 6)[11]? = some (15, z_mabs) := rfl
theorem c6_18 : (zT 6)[12]? = some (18, z_al 1 1) := rfl
theorem c6_19 : (zT 6)[13]? = some (19, z_gR 10 3) := rfl
theorem c6_22 : (zT 6)[14]? = some (22, z_il 3 1) := rfl
theorem c6_23 : (zT 6)[15]? = some (23, z_iald 20) := rfl
theorem c6_24 : (zT 6)[16]? = some (24, z_ilt 33) := rfl
theorem c6_27 : (zT 6)[17]? = some (27, z_il 2 1) := rfl
theorem c6_28 : (zT 6)[18]? = some (28, z_ic 1 1) := rfl
theorem c6_29 : (zT 6)[19]? = some (29, z_il 3 1) := rfl
theorem c6_30 : (zT 6)[20]? = some (30, z_ishl) := rfl
theorem c6_31 : (zT 6)[21]? = some (31, z_ior) := rfl
theorem c6_32 : (zT 6)[22]? = some (32, z_is 2 1) := rfl
theorem c6_33 : (zT 6)[23]? = some (33, z_inc 3 1) := rfl
theorem c6_36 : (zT 6)[24]? = some (36, z_goto 4) := rfl
theorem c6_39 : (zT 6)[25]? = some (39, z_il 2 1) := rfl
theorem c6_40 : (zT 6)[26]? = some (40, z_ir) := rfl
theorem c7_0 : (zT 7)[0]? = some (0, z_al 0 1) := rfl
theorem c7_1 : (zT 7)[1]? = some (1, z_gR 1 1) := rfl
theorem c7_4 : (zT 7)[2]? = some (4, z_cS 8 3 1) := rfl
theorem c7_7 : (zT 7)[3]? = some (7, z_ir) := rfl
theorem c8_0 : (zT 8)[0]? = some (0, z_ic 0 1) := rfl
theorem c8_1 : (zT 8)[1]? = some (1, z_is 1 1) := rfl
theorem c8_2 : (zT 8)[2]? = some (2, z_ic 0 1) := rfl
theorem c8_3 : (zT 8)[3]? = some (3, z_is 2 1) := rfl
theorem c8_4 : (zT 8)[4]? = some (4, z_il 2 1) := rfl
theorem c8_5 : (zT 8)[5]? = some (5, z_al 0 1) := rfl
theorem c8_6 : (zT 8)[6]? = some (6, z_alen 20) := rfl
theorem c8_7 : (zT 8)[7]? = some (7, z_ige 25) := rfl
theorem c8_10 : (zT 8)[8]? = some (10, z_il 1 1) := rfl
theorem c8_11 : (zT 8)[9]? = some (11, z_al 0 1) := rfl
theorem c8_12 : (zT 8)[10]? = some (12, z_il 2 1) := rfl
theorem c8_13 : (zT 8)[11]? = some (13, z_iald 20) := rfl
theorem c8_14 : (zT 8)[12]? = some (14, z_mabs) := rfl
theorem c8_17 : (zT 8)[13]? = some (17, z_iadd) := rfl
theorem c8_18 : (zT 8)[14]? = some (18, z_is 1 1) := rfl
theorem c8_19 : (zT 8)[15]? = some (19, z_inc 2 1) := rfl
theorem c8_22 : (zT 8)[16]? = some (22, z_goto 4) := rfl
theorem c8_25 : (zT 8)[17]? = some (25, z_il 1 1) := rfl
theorem c8_26 : (zT 8)[18]? = some (26, z_ir) := rfl
theorem c9_0 : (zT 9)[0]? = some (0, z_il 3 1) := rfl
theorem c9_1 : (zT 9)[1]? = some (1, z_ic 3 1) := rfl
theorem c9_2 : (zT 9)[2]? = some (2, z_ine 15) := rfl
theorem c9_5 : (zT 9)[3]? = some (5, z_al 1 1) := rfl
theorem c9_6 : (zT 9)[4]? = some (6, z_il 2 1) := rfl
theorem c9_7 : (zT 9)[5]? = some (7, z_il 4 2) := rfl
theorem c9_9 : (zT 9)[6]? = some (9, z_cS 10 3 3) := rfl
theorem c9_12 : (zT 9)[7]? = some (12, z_goto 16) := rfl
theorem c9_15 : (zT 9)[8]? = some (15, z_il 2 1) := rfl
theorem c9_16 : (zT 9)[9]? = some (16, z_is 6 2) := rfl
theorem c9_18 : (zT 9)[10]? = some (18, z_al 0 1) := rfl
theorem c9_19 : (zT 9)[11]? = some (19, z_al 1 1) := rfl
theorem c9_20 : (zT 9)[12]? = some (20, z_il 6 2) := rfl
theorem c9_22 : (zT 9)[13]? = some (22, z_il 5 2) := rfl
theorem c9_24 : (zT 9)[14]? = some (24, z_il 3 1) := rfl
theorem c9_25 : (zT 9)[15]? = some (25, z_ic 1 1) := rfl
theorem c9_26 : (zT 9)[16]? = some (26, z_ine 34) := rfl
theorem c9_29 : (zT 9)[17]? = some (29, z_il 4 2) := rfl
theorem c9_31 : (zT 9)[18]? = some (31, z_goto 35) := rfl
theorem c9_34 : (zT 9)[19]? = some (34, z_ic (-1) 1) := rfl
theorem c9_35 : (zT 9)[20]? = some (35, z_il 3 1) := rfl
theorem c9_36 : (zT 9)[21]? = some (36, z_ic 2 1) := rfl
theorem c9_37 : (zT 9)[22]? = some (37, z_ine 45) := rfl
theorem c9_40 : (zT 9)[23]? = some (40, z_il 4 2) := rfl
theorem c9_42 : (zT 9)[24]? = some (42, z_goto 46) := rfl
theorem c9_45 : (zT 9)[25]? = some (45, z_ic (-1) 1) := rfl
theorem c9_46 : (zT 9)[26]? = some (46, z_cV 1 4 9 5) := rfl
theorem c9_49 : (zT 9)[27]? = some (49, z_il 3 1) := rfl
theorem c9_50 : (zT 9)[28]? = some (50, z_ic 4 1) := rfl
theorem c9_51 : (zT 9)[29]? = some (51, z_ine 82) := rfl
theorem c9_54 : (zT 9)[30]? = some (54, z_al 1 1) := rfl
theorem c9_55 : (zT 9)[31]? = some (55, z_il 4 2) := rfl
theorem c9_57 : (zT 9)[32]? = some (57, z_cV 10 46 2 1) := rfl
theorem c9_60 : (zT 9)[33]? = some (60, z_ifeq 82) := rfl
theorem c9_63 : (zT 9)[34]? = some (63, z_ic 9 2) := rfl
theorem c9_65 : (zT 9)[35]? = some (65, z_al 0 1) := rfl
theorem c9_66 : (zT 9)[36]? = some (66, z_gR 1 0) := rfl
theorem c9_69 : (zT 9)[37]? = some (69, z_il 4 2) := rfl
theorem c9_71 : (zT 9)[38]? = some (71, z_aald 27) := rfl
theorem c9_72 : (zT 9)[39]? = some (72, z_cS 8 3 1) := rfl
theorem c9_75 : (zT 9)[40]? = some (75, z_ic 20 2) := rfl
theorem c9_77 : (zT 9)[41]? = some (77, z_idiv) := rfl
theorem c9_78 : (zT 9)[42]? = some (78, z_mmin) := rfl
theorem c9_81 : (zT 9)[43]? = some (81, z_ir) := rfl
theorem c9_82 : (zT 9)[44]? = some (82, z_al 0 1) := rfl
theorem c9_83 : (zT 9)[45]? = some (83, z_al 1 1) := rfl
theorem c9_84 : (zT 9)[46]? = some (84, z_cV 1 6 4 1) := rfl
theorem c9_87 : (zT 9)[47]? = some (87, z_ir) := rfl
theorem c10_0 : (zT 10)[0]? = some (0, z_al 0 1) := rfl
theorem c10_1 : (zT 10)[1]? = some (1, z_il 2 1) := rfl
theorem c10_2 : (zT 10)[2]? = some (2, z_cV 10 47 2 1) := rfl
theorem c10_5 : (zT 10)[3]? = some (5, z_ifeq 30) := rfl
theorem c10_8 : (zT 10)[4]? = some (8, z_al 0 1) := rfl
theorem c10_9 : (zT 10)[5]? = some (9, z_gR 10 1) := rfl
theorem c10_12 : (zT 10)[6]? = some (12, z_il 2 1) := rfl
theorem c10_13 : (zT 10)[7]? = some (13, z_aald 25) := rfl
theorem c10_14 : (zT 10)[8]? = some (14, z_gI 3 2) := rfl
theorem c10_17 : (zT 10)[9]? = some (17, z_ifne 30) := rfl
theorem c10_20 : (zT 10)[10]? = some (20, z_il 1 1) := rfl
theorem c10_21 : (zT 10)[11]? = some (21, z_ic 1 1) := rfl
theorem c10_22 : (zT 10)[12]? = some (22, z_il 2 1) := rfl
theorem c10_23 : (zT 10)[13]? = some (23, z_ishl) := rfl
theorem c10_24 : (zT 10)[14]? = some (24, z_ic (-1) 1) := rfl
theorem c10_25 : (zT 10)[15]? = some (25, z_ixor) := rfl
theorem c10_26 : (zT 10)[16]? = some (26, z_iand) := rfl
theorem c10_27 : (zT 10)[17]? = some (27, z_goto 31) := rfl
theorem c10_30 : (zT 10)[18]? = some (30, z_il 1 1) := rfl
theorem c10_31 : (zT 10)[19]? = some (31, z_ir) := rfl
theorem c12_0 : (zT 12)[0]? = some (0, z_al 0 1) := rfl
theorem c12_1 : (zT 12)[1]? = some (1, z_ic 0 1) := rfl
theorem c12_2 : (zT 12)[2]? = some (2, z_pI 2 2) := rfl
theorem c12_5 : (zT 12)[3]? = some (5, z_al 0 1) := rfl
theorem c12_6 : (zT 12)[4]? = some (6, z_lc 0 1) := rfl
theorem c12_7 : (zT 12)[5]? = some (7, z_pL 2 3) := rfl
theorem c12_10 : (zT 12)[6]? = some (10, z_ic 0 1) := rfl
theorem c12_11 : (zT 12)[7]? = some (11, z_is 2 1) := rfl
theorem c12_12 : (zT 12)[8]? = some (12, z_il 2 1) := rfl
theorem c12_13 : (zT 12)[9]? = some (13, z_ic 256 3) := rfl
theorem c12_16 : (zT 12)[10]? = some (16, z_ige 51) := rfl
theorem c12_19 : (zT 12)[11]? = some (19, z_al 1 1) := rfl
theorem c12_20 : (zT 12)[12]? = some (20, z_il 2 1) := rfl
theorem c12_21 : (zT 12)[13]? = some (21, z_cV 10 48 2 1) := rfl
theorem c12_24 : (zT 12)[14]? = some (24, z_ifeq 51) := rfl
theorem c12_27 : (zT 12)[15]? = some (27, z_il 2 1) := rfl
theorem c12_28 : (zT 12)[16]? = some (28, z_cS 175 1 1) := rfl
theorem c12_31 : (zT 12)[17]? = some (31, z_ic 2 1) := rfl
theorem c12_32 : (zT 12)[18]? = some (32, z_igt 45) := rfl
theorem c12_35 : (zT 12)[19]? = some (35, z_al 0 1) := rfl
theorem c12_36 : (zT 12)[20]? = some (36, z_il 2 1) := rfl
theorem c12_37 : (zT 12)[21]? = some (37, z_al 1 1) := rfl
theorem c12_38 : (zT 12)[22]? = some (38, z_il 2 1) := rfl
theorem c12_39 : (zT 12)[23]? = some (39, z_cV 10 64 6 1) := rfl
theorem c12_42 : (zT 12)[24]? = some (42, z_cV 2 13 4 2) := rfl
theorem c12_45 : (zT 12)[25]? = some (45, z_inc 2 1) := rfl
theorem c12_48 : (zT 12)[26]? = some (48, z_goto 12) := rfl
theorem c12_51 : (zT 12)[27]? = some (51, z_vr) := rfl
theorem c13_0 : (zT 13)[0]? = some (0, z_ll 2 1) := rfl
theorem c13_1 : (zT 13)[1]? = some (1, z_lc 0 1) := rfl
theorem c13_2 : (zT 13)[2]? = some (2, z_lcmp) := rfl
theorem c13_3 : (zT 13)[3]? = some (3, z_ifle 55) := rfl
theorem c13_6 : (zT 13)[4]? = some (6, z_al 0 1) := rfl
theorem c13_7 : (zT 13)[5]? = some (7, z_gI 2 2) := rfl
theorem c13_10 : (zT 13)[6]? = some (10, z_ic 37 2) := rfl
theorem c13_12 : (zT 13)[7]? = some (12, z_ige 55) := rfl
theorem c13_15 : (zT 13)[8]? = some (15, z_al 0 1) := rfl
theorem c13_16 : (zT 13)[9]? = some (16, z_gR 2 0) := rfl
theorem c13_19 : (zT 13)[10]? = some (19, z_al 0 1) := rfl
theorem c13_20 : (zT 13)[11]? = some (20, z_gI 2 2) := rfl
theorem c13_23 : (zT 13)[12]? = some (23, z_il 1 1) := rfl
theorem c13_24 : (zT 13)[13]? = some (24, z_iast) := rfl
theorem c13_25 : (zT 13)[14]? = some (25, z_al 0 1) := rfl
theorem c13_26 : (zT 13)[15]? = some (26, z_gR 2 1) := rfl
theorem c13_29 : (zT 13)[16]? = some (29, z_al 0 1) := rfl
theorem c13_30 : (zT 13)[17]? = some (30, z_gI 2 2) := rfl
theorem c13_33 : (zT 13)[18]? = some (33, z_ll 2 1) := rfl
theorem c13_34 : (zT 13)[19]? = some (34, z_last) := rfl
theorem c13_35 : (zT 13)[20]? = some (35, z_al 0 1) := rfl
theorem c13_36 : (zT 13)[21]? = some (36, z_dup) := rfl
theorem c13_37 : (zT 13)[22]? = some (37, z_gI 2 2) := rfl
theorem c13_40 : (zT 13)[23]? = some (40, z_ic 1 1) := rfl
theorem c13_41 : (zT 13)[24]? = some (41, z_iadd) := rfl
theorem c13_42 : (zT 13)[25]? = some (42, z_pI 2 2) := rfl
theorem c13_45 : (zT 13)[26]? = some (45, z_al 0 1) := rfl
theorem c13_46 : (zT 13)[27]? = some (46, z_dup) := rfl
theorem c13_47 : (zT 13)[28]? = some (47, z_gL 2 3) := rfl
theorem c13_50 : (zT 13)[29]? = some (50, z_ll 2 1) := rfl
theorem c13_51 : (zT 13)[30]? = some (51, z_ladd) := rfl
theorem c13_52 : (zT 13)[31]? = some (52, z_pL 2 3) := rfl
theorem c13_55 : (zT 13)[32]? = some (55, z_vr) := rfl
theorem c14_0 : (zT 14)[0]? = some (0, z_il 4 2) := rfl
theorem c14_2 : (zT 14)[1]? = some (2, z_iflt 14) := rfl
theorem c14_5 : (zT 14)[2]? = some (5, z_il 4 2) := rfl
theorem c14_7 : (zT 14)[3]? = some (7, z_al 3 1) := rfl
theorem c14_8 : (zT 14)[4]? = some (8, z_gI 0 4) := rfl
theorem c14_11 : (zT 14)[5]? = some (11, z_ilt 15) := rfl
theorem c14_14 : (zT 14)[6]? = some (14, z_vr) := rfl
theorem c14_15 : (zT 14)[7]? = some (15, z_al 0 1) := rfl
theorem c14_16 : (zT 14)[8]? = some (16, z_gI 2 2) := rfl
theorem c14_19 : (zT 14)[9]? = some (19, z_is 5 2) := rfl
theorem c14_21 : (zT 14)[10]? = some (21, z_al 0 1) := rfl
theorem c14_22 : (zT 14)[11]? = some (22, z_ic 0 1) := rfl
theorem c14_23 : (zT 14)[12]? = some (23, z_pI 2 2) := rfl
theorem c14_26 : (zT 14)[13]? = some (26, z_al 0 1) := rfl
theorem c14_27 : (zT 14)[14]? = some (27, z_lc 0 1) := rfl
theorem c14_28 : (zT 14)[15]? = some (28, z_pL 2 3) := rfl
theorem c14_31 : (zT 14)[16]? = some (31, z_ic 0 1) := rfl
theorem c14_32 : (zT 14)[17]? = some (32, z_is 6 2) := rfl
theorem c14_34 : (zT 14)[18]? = some (34, z_il 6 2) := rfl
theorem c14_36 : (zT 14)[19]? = some (36, z_il 5 2) := rfl
theorem c14_38 : (zT 14)[20]? = some (38, z_ige 112) := rfl
theorem c14_41 : (zT 14)[21]? = some (41, z_al 2 1) := rfl
theorem c14_42 : (zT 14)[22]? = some (42, z_al 1 1) := rfl
theorem c14_43 : (zT 14)[23]? = some (43, z_al 0 1) := rfl
theorem c14_44 : (zT 14)[24]? = some (44, z_gR 2 0) := rfl
theorem c14_47 : (zT 14)[25]? = some (47, z_il 6 2) := rfl
theorem c14_49 : (zT 14)[26]? = some (49, z_iald 20) := rfl
theorem c14_50 : (zT 14)[27]? = some (50, z_al 3 1) := rfl
theorem c14_51 : (zT 14)[28]? = some (51, z_gR 0 0) := rfl
theorem c14_54 : (zT 14)[29]? = some (54, z_il 4 2) := rfl
theorem c14_56 : (zT 14)[30]? = some (56, z_iald 20) := rfl
theorem c14_57 : (zT 14)[31]? = some (57, z_al 3 1) := rfl
theorem c14_58 : (zT 14)[32]? = some (58, z_gR 0 1) := rfl
theorem c14_61 : (zT 14)[33]? = some (61, z_il 4 2) := rfl
theorem c14_63 : (zT 14)[34]? = some (63, z_iald 20) := rfl
theorem c14_64 : (zT 14)[35]? = some (64, z_al 3 1) := rfl
theorem c14_65 : (zT 14)[36]? = some (65, z_gR 0 2) := rfl
theorem c14_68 : (zT 14)[37]? = some (68, z_il 4 2) := rfl
theorem c14_70 : (zT 14)[38]? = some (70, z_iald 20) := rfl
theorem c14_71 : (zT 14)[39]? = some (71, z_cV 1 9 7 5) := rfl
theorem c14_74 : (zT 14)[40]? = some (74, z_is 7 2) := rfl
theorem c14_76 : (zT 14)[41]? = some (76, z_il 7 2) := rfl
theorem c14_78 : (zT 14)[42]? = some (78, z_al 3 1) := rfl
theorem c14_79 : (zT 14)[43]? = some (79, z_gR 0 3) := rfl
theorem c14_82 : (zT 14)[44]? = some (82, z_il 4 2) := rfl
theorem c14_84 : (zT 14)[45]? = some (84, z_iald 20) := rfl
theorem c14_85 : (zT 14)[46]? = some (85, z_ine 106) := rfl
theorem c14_88 : (zT 14)[47]? = some (88, z_al 0 1) := rfl
theorem c14_89 : (zT 14)[48]? = some (89, z_al 0 1) := rfl
theorem c14_90 : (zT 14)[49]? = some (90, z_gR 2 0) := rfl
theorem c14_93 : (zT 14)[50]? = some (93, z_il 6 2) := rfl
theorem c14_95 : (zT 14)[51]? = some (95, z_iald 20) := rfl
theorem c14_96 : (zT 14)[52]? = some (96, z_al 0 1) := rfl
theorem c14_97 : (zT 14)[53]? = some (97, z_gR 2 1) := rfl
theorem c14_100 : (zT 14)[54]? = some (100, z_il 6 2) := rfl
theorem c14_102 : (zT 14)[55]? = some (102, z_lald) := rfl
theorem c14_103 : (zT 14)[56]? = some (103, z_cV 2 13 4 2) := rfl
theorem c14_106 : (zT 14)[57]? = some (106, z_inc 6 1) := rfl
theorem c14_109 : (zT 14)[58]? = some (109, z_goto 34) := rfl
theorem c14_112 : (zT 14)[59]? = some (112, z_vr) := rfl
theorem c15_0 : (zT 15)[0]? = some (0, z_lc 0 1) := rfl
theorem c15_1 : (zT 15)[1]? = some (1, z_ls 2 1) := rfl
theorem c15_2 : (zT 15)[2]? = some (2, z_ic 0 1) := rfl
theorem c15_3 : (zT 15)[3]? = some (3, z_is 4 2) := rfl
theorem c15_5 : (zT 15)[4]? = some (5, z_il 4 2) := rfl
theorem c15_7 : (zT 15)[5]? = some (7, z_al 0 1) := rfl
theorem c15_8 : (zT 15)[6]? = some (8, z_gI 2 2) := rfl
theorem c15_11 : (zT 15)[7]? = some (11, z_ige 44) := rfl
theorem c15_14 : (zT 15)[8]? = some (14, z_al 0 1) := rfl
theorem c15_15 : (zT 15)[9]? = some (15, z_gR 2 0) := rfl
theorem c15_18 : (zT 15)[10]? = some (18, z_il 4 2) := rfl
theorem c15_20 : (zT 15)[11]? = some (20, z_iald 20) := rfl
theorem c15_21 : (zT 15)[12]? = some (21, z_ic 1 1) := rfl
theorem c15_22 : (zT 15)[13]? = some (22, z_il 1 1) := rfl
theorem c15_23 : (zT 15)[14]? = some (23, z_ishl) := rfl
theorem c15_24 : (zT 15)[15]? = some (24, z_iand) := rfl
theorem c15_25 : (zT 15)[16]? = some (25, z_ifeq 38) := rfl
theorem c15_28 : (zT 15)[17]? = some (28, z_ll 2 1) := rfl
theorem c15_29 : (zT 15)[18]? = some (29, z_al 0 1) := rfl
theorem c15_30 : (zT 15)[19]? = some (30, z_gR 2 1) := rfl
theorem c15_33 : (zT 15)[20]? = some (33, z_il 4 2) := rfl
theorem c15_35 : (zT 15)[21]? = some (35, z_lald) := rfl
theorem c15_36 : (zT 15)[22]? = some (36, z_ladd) := rfl
theorem c15_37 : (zT 15)[23]? = some (37, z_ls 2 1) := rfl
theorem c15_38 : (zT 15)[24]? = some (38, z_inc 4 1) := rfl
theorem c15_41 : (zT 15)[25]? = some (41, z_goto 5) := rfl
theorem c15_44 : (zT 15)[26]? = some (44, z_ll 2 1) := rfl
theorem c15_45 : (zT 15)[27]? = some (45, z_lr) := rfl
theorem c16_0 : (zT 16)[0]? = some (0, z_ic (-4) 2) := rfl
theorem c16_2 : (zT 16)[1]? = some (2, z_is 1 1) := rfl
theorem c16_3 : (zT 16)[2]? = some (3, z_lc 0 1) := rfl
theorem c16_4 : (zT 16)[3]? = some (4, z_ls 2 1) := rfl
theorem c16_5 : (zT 16)[4]? = some (5, z_ic 0 1) := rfl
theorem c16_6 : (zT 16)[5]? = some (6, z_is 4 2) := rfl
theorem c16_8 : (zT 16)[6]? = some (8, z_il 4 2) := rfl
theorem c16_10 : (zT 16)[7]? = some (10, z_al 0 1) := rfl
theorem c16_11 : (zT 16)[8]? = some (11, z_gI 2 2) := rfl
theorem c16_14 : (zT 16)[9]? = some (14, z_ige 51) := rfl
theorem c16_17 : (zT 16)[10]? = some (17, z_al 0 1) := rfl
theorem c16_18 : (zT 16)[11]? = some (18, z_gR 2 1) := rfl
theorem c16_21 : (zT 16)[12]? = some (21, z_il 4 2) := rfl
theorem c16_23 : (zT 16)[13]? = some (23, z_lald) := rfl
theorem c16_24 : (zT 16)[14]? = some (24, z_ll 2 1) := rfl
theorem c16_25 : (zT 16)[15]? = some (25, z_lcmp) := rfl
theorem c16_26 : (zT 16)[16]? = some (26, z_ifle 45) := rfl
theorem c16_29 : (zT 16)[17]? = some (29, z_al 0 1) := rfl
theorem c16_30 : (zT 16)[18]? = some (30, z_gR 2 1) := rfl
theorem c16_33 : (zT 16)[19]? = some (33, z_il 4 2) := rfl
theorem c16_35 : (zT 16)[20]? = some (35, z_lald) := rfl
theorem c16_36 : (zT 16)[21]? = some (36, z_ls 2 1) := rfl
theorem c16_37 : (zT 16)[22]? = some (37, z_al 0 1) := rfl
theorem c16_38 : (zT 16)[23]? = some (38, z_gR 2 0) := rfl
theorem c16_41 : (zT 16)[24]? = some (41, z_il 4 2) := rfl
theorem c16_43 : (zT 16)[25]? = some (43, z_iald 20) := rfl
theorem c16_44 : (zT 16)[26]? = some (44, z_is 1 1) := rfl
theorem c16_45 : (zT 16)[27]? = some (45, z_inc 4 1) := rfl
theorem c16_48 : (zT 16)[28]? = some (48, z_goto 8) := rfl
theorem c16_51 : (zT 16)[29]? = some (51, z_il 1 1) := rfl
theorem c16_52 : (zT 16)[30]? = some (52, z_ir) := rfl
theorem c18_0 : (zT 18)[0]? = some (0, z_ic 0 1) := rfl
theorem c18_1 : (zT 18)[1]? = some (1, z_il 1 1) := rfl
theorem c18_2 : (zT 18)[2]? = some (2, z_il 1 1) := rfl
theorem c18_3 : (zT 18)[3]? = some (3, z_al 0 1) := rfl
theorem c18_4 : (zT 18)[4]? = some (4, z_gI 3 8) := rfl
theorem c18_7 : (zT 18)[5]? = some (7, z_imul) := rfl
theorem c18_8 : (zT 18)[6]? = some (8, z_ic 100 2) := rfl
theorem c18_10 : (zT 18)[7]? = some (10, z_idiv) := rfl
theorem c18_11 : (zT 18)[8]? = some (11, z_isub) := rfl
theorem c18_12 : (zT 18)[9]? = some (12, z_ic 1 1) := rfl
theorem c18_13 : (zT 18)[10]? = some (13, z_isub) := rfl
theorem c18_14 : (zT 18)[11]? = some (14, z_mmax) := rfl
theorem c18_17 : (zT 18)[12]? = some (17, z_ir) := rfl
theorem c19_0 : (zT 19)[0]? = some (0, z_al 0 1) := rfl
theorem c19_1 : (zT 19)[1]? = some (1, z_gI 3 7) := rfl
theorem c19_4 : (zT 19)[2]? = some (4, z_is 2 1) := rfl
theorem c19_5 : (zT 19)[3]? = some (5, z_ic 0 1) := rfl
theorem c19_6 : (zT 19)[4]? = some (6, z_is 3 1) := rfl
theorem c19_7 : (zT 19)[5]? = some (7, z_il 3 1) := rfl
theorem c19_8 : (zT 19)[6]? = some (8, z_il 1 1) := rfl
theorem c19_9 : (zT 19)[7]? = some (9, z_ige 28) := rfl
theorem c19_12 : (zT 19)[8]? = some (12, z_il 2 1) := rfl
theorem c19_13 : (zT 19)[9]? = some (13, z_ifle 28) := rfl
theorem c19_16 : (zT 19)[10]? = some (16, z_al 0 1) := rfl
theorem c19_17 : (zT 19)[11]? = some (17, z_il 2 1) := rfl
theorem c19_18 : (zT 19)[12]? = some (18, z_cV 3 18 2 1) := rfl
theorem c19_21 : (zT 19)[13]? = some (21, z_is 2 1) := rfl
theorem c19_22 : (zT 19)[14]? = some (22, z_inc 3 1) := rfl
theorem c19_25 : (zT 19)[15]? = some (25, z_goto 7) := rfl
theorem c19_28 : (zT 19)[16]? = some (28, z_il 2 1) := rfl
theorem c19_29 : (zT 19)[17]? = some (29, z_ir) := rfl
theorem c20_0 : (zT 20)[0]? = some (0, z_al 0 1) := rfl
theorem c20_1 : (zT 20)[1]? = some (1, z_gI 3 7) := rfl
theorem c20_4 : (zT 20)[2]? = some (4, z_is 1 1) := rfl
theorem c20_5 : (zT 20)[3]? = some (5, z_ic 0 1) := rfl
theorem c20_6 : (zT 20)[4]? = some (6, z_is 2 1) := rfl
theorem c20_7 : (zT 20)[5]? = some (7, z_il 2 1) := rfl
theorem c20_8 : (zT 20)[6]? = some (8, z_ic 999 3) := rfl
theorem c20_11 : (zT 20)[7]? = some (11, z_igt 32) := rfl
theorem c20_14 : (zT 20)[8]? = some (14, z_il 1 1) := rfl
theorem c20_15 : (zT 20)[9]? = some (15, z_ic 50 2) := rfl
theorem c20_17 : (zT 20)[10]? = some (17, z_ilt 32) := rfl
theorem c20_20 : (zT 20)[11]? = some (20, z_al 0 1) := rfl
theorem c20_21 : (zT 20)[12]? = some (21, z_il 1 1) := rfl
theorem c20_22 : (zT 20)[13]? = some (22, z_cV 3 18 2 1) := rfl
theorem c20_25 : (zT 20)[14]? = some (25, z_is 1 1) := rfl
theorem c20_26 : (zT 20)[15]? = some (26, z_inc 2 1) := rfl
theorem c20_29 : (zT 20)[16]? = some (29, z_goto 7) := rfl
theorem c20_32 : (zT 20)[17]? = some (32, z_il 2 1) := rfl
theorem c20_33 : (zT 20)[18]? = some (33, z_ir) := rfl
theorem c22_0 : (zT 22)[0]? = some (0, z_ic 0 1) := rfl
theorem c22_1 : (zT 22)[1]? = some (1, z_is 3 1) := rfl
theorem c22_2 : (zT 22)[2]? = some (2, z_il 3 1) := rfl
theorem c22_3 : (zT 22)[3]? = some (3, z_ic 256 3) := rfl
theorem c22_6 : (zT 22)[4]? = some (6, z_ige 60) := rfl
theorem c22_9 : (zT 22)[5]? = some (9, z_al 1 1) := rfl
theorem c22_10 : (zT 22)[6]? = some (10, z_il 3 1) := rfl
theorem c22_11 : (zT 22)[7]? = some (11, z_cV 10 48 2 1) := rfl
theorem c22_14 : (zT 22)[8]? = some (14, z_ifeq 60) := rfl
theorem c22_17 : (zT 22)[9]? = some (17, z_il 3 1) := rfl
theorem c22_18 : (zT 22)[10]? = some (18, z_cS 175 1 1) := rfl
theorem c22_21 : (zT 22)[11]? = some (21, z_ic 2 1) := rfl
theorem c22_22 : (zT 22)[12]? = some (22, z_igt 54) := rfl
theorem c22_25 : (zT 22)[13]? = some (25, z_al 2 1) := rfl
theorem c22_26 : (zT 22)[14]? = some (26, z_al 1 1) := rfl
theorem c22_27 : (zT 22)[15]? = some (27, z_il 3 1) := rfl
theorem c22_28 : (zT 22)[16]? = some (28, z_ic 30 2) := rfl
theorem c22_30 : (zT 22)[17]? = some (30, z_ic (-1) 1) := rfl
theorem c22_31 : (zT 22)[18]? = some (31, z_ic (-1) 1) := rfl
theorem c22_32 : (zT 22)[19]? = some (32, z_cV 1 4 9 5) := rfl
theorem c22_35 : (zT 22)[20]? = some (35, z_al 0 1) := rfl
theorem c22_36 : (zT 22)[21]? = some (36, z_gR 4 0) := rfl
theorem c22_39 : (zT 22)[22]? = some (39, z_il 3 1) := rfl
theorem c22_40 : (zT 22)[23]? = some (40, z_al 2 1) := rfl
theorem c22_41 : (zT 22)[24]? = some (41, z_al 1 1) := rfl
theorem c22_42 : (zT 22)[25]? = some (42, z_cV 1 6 4 1) := rfl
theorem c22_45 : (zT 22)[26]? = some (45, z_ifne 52) := rfl
theorem c22_48 : (zT 22)[27]? = some (48, z_ic 1 1) := rfl
theorem c22_49 : (zT 22)[28]? = some (49, z_goto 53) := rfl
theorem c22_52 : (zT 22)[29]? = some (52, z_ic 0 1) := rfl
theorem c22_53 : (zT 22)[30]? = some (53, z_zast) := rfl
theorem c22_54 : (zT 22)[31]? = some (54, z_inc 3 1) := rfl
theorem c22_57 : (zT 22)[32]? = some (57, z_goto 2) := rfl
theorem c22_60 : (zT 22)[33]? = some (60, z_vr) := rfl
theorem c23_0 : (zT 23)[0]? = some (0, z_lc 0 1) := rfl
theorem c23_1 : (zT 23)[1]? = some (1, z_ls 3 1) := rfl
theorem c23_2 : (zT 23)[2]? = some (2, z_ic 0 1) := rfl
theorem c23_3 : (zT 23)[3]? = some (3, z_is 5 2) := rfl
theorem c23_5 : (zT 23)[4]? = some (5, z_il 5 2) := rfl
theorem c23_7 : (zT 23)[5]? = some (7, z_al 1 1) := rfl
theorem c23_8 : (zT 23)[6]? = some (8, z_gI 2 2) := rfl
theorem c23_11 : (zT 23)[7]? = some (11, z_ige 66) := rfl
theorem c23_14 : (zT 23)[8]? = some (14, z_al 1 1) := rfl
theorem c23_15 : (zT 23)[9]? = some (15, z_gR 2 0) := rfl
theorem c23_18 : (zT 23)[10]? = some (18, z_il 5 2) := rfl
theorem c23_20 : (zT 23)[11]? = some (20, z_iald 20) := rfl
theorem c23_21 : (zT 23)[12]? = some (21, z_il 2 1) := rfl
theorem c23_22 : (zT 23)[13]? = some (22, z_ic (-1) 1) := rfl
theorem c23_23 : (zT 23)[14]? = some (23, z_ixor) := rfl
theorem c23_24 : (zT 23)[15]? = some (24, z_iand) := rfl
theorem c23_25 : (zT 23)[16]? = some (25, z_is 6 2) := rfl
theorem c23_27 : (zT 23)[17]? = some (27, z_il 6 2) := rfl
theorem c23_29 : (zT 23)[18]? = some (29, z_iflt 60) := rfl
theorem c23_32 : (zT 23)[19]? = some (32, z_il 6 2) := rfl
theorem c23_34 : (zT 23)[20]? = some (34, z_ic 256 3) := rfl
theorem c23_37 : (zT 23)[21]? = some (37, z_ige 60) := rfl
theorem c23_40 : (zT 23)[22]? = some (40, z_al 0 1) := rfl
theorem c23_41 : (zT 23)[23]? = some (41, z_gR 4 0) := rfl
theorem c23_44 : (zT 23)[24]? = some (44, z_il 6 2) := rfl
theorem c23_46 : (zT 23)[25]? = some (46, z_iald 23) := rfl
theorem c23_47 : (zT 23)[26]? = some (47, z_ifne 60) := rfl
theorem c23_50 : (zT 23)[27]? = some (50, z_ll 3 1) := rfl
theorem c23_51 : (zT 23)[28]? = some (51, z_al 1 1) := rfl
theorem c23_52 : (zT 23)[29]? = some (52, z_gR 2 1) := rfl
theorem c23_55 : (zT 23)[30]? = some (55, z_il 5 2) := rfl
theorem c23_57 : (zT 23)[31]? = some (57, z_lald) := rfl
theorem c23_58 : (zT 23)[32]? = some (58, z_ladd) := rfl
theorem c23_59 : (zT 23)[33]? = some (59, z_ls 3 1) := rfl
theorem c23_60 : (zT 23)[34]? = some (60, z_inc 5 1) := rfl
theorem c23_63 : (zT 23)[35]? = some (63, z_goto 5) := rfl
theorem c23_66 : (zT 23)[36]? = some (66, z_ll 3 1) := rfl
theorem c23_67 : (zT 23)[37]? = some (67, z_lr) := rfl
theorem c24_0 : (zT 24)[0]? = some (0, z_ic (-4) 2) := rfl
theorem c24_2 : (zT 24)[1]? = some (2, z_is 4 2) := rfl
theorem c24_4 : (zT 24)[2]? = some (4, z_ic 0 1) := rfl
theorem c24_5 : (zT 24)[3]? = some (5, z_is 5 2) := rfl
theorem c24_7 : (zT 24)[4]? = some (7, z_ic 0 1) := rfl
theorem c24_8 : (zT 24)[5]? = some (8, z_is 6 2) := rfl
theorem c24_10 : (zT 24)[6]? = some (10, z_il 6 2) := rfl
theorem c24_12 : (zT 24)[7]? = some (12, z_ic 256 3) := rfl
theorem c24_15 : (zT 24)[8]? = some (15, z_ige 90) := rfl
theorem c24_18 : (zT 24)[9]? = some (18, z_al 1 1) := rfl
theorem c24_19 : (zT 24)[10]? = some (19, z_il 6 2) := rfl
theorem c24_21 : (zT 24)[11]? = some (21, z_cV 10 48 2 1) := rfl
theorem c24_24 : (zT 24)[12]? = some (24, z_ifeq 90) := rfl
theorem c24_27 : (zT 24)[13]? = some (27, z_al 1 1) := rfl
theorem c24_28 : (zT 24)[14]? = some (28, z_il 6 2) := rfl
theorem c24_30 : (zT 24)[15]? = some (30, z_cV 10 65 4 1) := rfl
theorem c24_33 : (zT 24)[16]? = some (33, z_is 7 2) := rfl
theorem c24_35 : (zT 24)[17]? = some (35, z_il 4 2) := rfl
theorem c24_37 : (zT 24)[18]? = some (37, z_ic (-4) 2) := rfl
theorem c24_39 : (zT 24)[19]? = some (39, z_ieq 49) := rfl
theorem c24_42 : (zT 24)[20]? = some (42, z_il 7 2) := rfl
theorem c24_44 : (zT 24)[21]? = some (44, z_il 5 2) := rfl
theorem c24_46 : (zT 24)[22]? = some (46, z_ige 84) := rfl
theorem c24_49 : (zT 24)[23]? = some (49, z_lc 100 3) := rfl
theorem c24_52 : (zT 24)[24]? = some (52, z_al 2 1) := rfl
theorem c24_53 : (zT 24)[25]? = some (53, z_gL 2 3) := rfl
theorem c24_56 : (zT 24)[26]? = some (56, z_al 0 1) := rfl
theorem c24_57 : (zT 24)[27]? = some (57, z_al 2 1) := rfl
theorem c24_58 : (zT 24)[28]? = some (58, z_il 6 2) := rfl
theorem c24_60 : (zT 24)[29]? = some (60, z_cV 4 23 7 2) := rfl
theorem c24_63 : (zT 24)[30]? = some (63, z_lsub) := rfl
theorem c24_64 : (zT 24)[31]? = some (64, z_lmul) := rfl
theorem c24_65 : (zT 24)[32]? = some (65, z_il 3 1) := rfl
theorem c24_66 : (zT 24)[33]? = some (66, z_i2l) := rfl
theorem c24_67 : (zT 24)[34]? = some (67, z_al 2 1) := rfl
theorem c24_68 : (zT 24)[35]? = some (68, z_gL 2 3) := rfl
theorem c24_71 : (zT 24)[36]? = some (71, z_lmul) := rfl
theorem c24_72 : (zT 24)[37]? = some (72, z_lcmp) := rfl
theorem c24_73 : (zT 24)[38]? = some (73, z_iflt 84) := rfl
theorem c24_76 : (zT 24)[39]? = some (76, z_il 6 2) := rfl
theorem c24_78 : (zT 24)[40]? = some (78, z_is 4 2) := rfl
theorem c24_80 : (zT 24)[41]? = some (80, z_il 7 2) := rfl
theorem c24_82 : (zT 24)[42]? = some (82, z_is 5 2) := rfl
theorem c24_84 : (zT 24)[43]? = some (84, z_inc 6 1) := rfl
theorem c24_87 : (zT 24)[44]? = some (87, z_goto 10) := rfl
theorem c24_90 : (zT 24)[45]? = some (90, z_il 4 2) := rfl
theorem c24_92 : (zT 24)[46]? = some (92, z_ir) := rfl
theorem c25_0 : (zT 25)[0]? = some (0, z_ic 256 3) := rfl
theorem c25_3 : (zT 25)[1]? = some (3, z_ic 1 1) := rfl
theorem c25_4 : (zT 25)[2]? = some (4, z_al 1 1) := rfl
theorem c25_5 : (zT 25)[3]? = some (5, z_gI 10 6) := rfl
theorem c25_8 : (zT 25)[4]? = some (8, z_ishl) := rfl
theorem c25_9 : (zT 25)[5]? = some (9, z_mmin) := rfl
theorem c25_12 : (zT 25)[6]? = some (12, z_ic 1 1) := rfl
theorem c25_13 : (zT 25)[7]? = some (13, z_isub) := rfl
theorem c25_14 : (zT 25)[8]? = some (14, z_is 3 1) := rfl
theorem c25_15 : (zT 25)[9]? = some (15, z_il 3 1) := rfl
theorem c25_16 : (zT 25)[10]? = some (16, z_is 4 2) := rfl
theorem c25_18 : (zT 25)[11]? = some (18, z_il 4 2) := rfl
theorem c25_20 : (zT 25)[12]? = some (20, z_iflt 68) := rfl
theorem c25_23 : (zT 25)[13]? = some (23, z_al 0 1) := rfl
theorem c25_24 : (zT 25)[14]? = some (24, z_al 2 1) := rfl
theorem c25_25 : (zT 25)[15]? = some (25, z_il 4 2) := rfl
theorem c25_27 : (zT 25)[16]? = some (27, z_cV 4 23 7 2) := rfl
theorem c25_30 : (zT 25)[17]? = some (30, z_ls 5 2) := rfl
theorem c25_32 : (zT 25)[18]? = some (32, z_al 0 1) := rfl
theorem c25_33 : (zT 25)[19]? = some (33, z_gR 4 1) := rfl
theorem c25_36 : (zT 25)[20]? = some (36, z_il 4 2) := rfl
theorem c25_38 : (zT 25)[21]? = some (38, z_lc 0 1) := rfl
theorem c25_39 : (zT 25)[22]? = some (39, z_last) := rfl
theorem c25_40 : (zT 25)[23]? = some (40, z_al 0 1) := rfl
theorem c25_41 : (zT 25)[24]? = some (41, z_ic (-4) 2) := rfl
theorem c25_43 : (zT 25)[25]? = some (43, z_pI 4 2) := rfl
theorem c25_46 : (zT 25)[26]? = some (46, z_ll 5 2) := rfl
theorem c25_48 : (zT 25)[27]? = some (48, z_lc 0 1) := rfl
theorem c25_49 : (zT 25)[28]? = some (49, z_lcmp) := rfl
theorem c25_50 : (zT 25)[29]? = some (50, z_ifeq 62) := rfl
theorem c25_53 : (zT 25)[30]? = some (53, z_al 0 1) := rfl
theorem c25_54 : (zT 25)[31]? = some (54, z_al 1 1) := rfl
theorem c25_55 : (zT 25)[32]? = some (55, z_il 4 2) := rfl
theorem c25_57 : (zT 25)[33]? = some (57, z_ll 5 2) := rfl
theorem c25_59 : (zT 25)[34]? = some (59, z_cV 4 26 9 3) := rfl
theorem c25_62 : (zT 25)[35]? = some (62, z_inc 4 (-1)) := rfl
theorem c25_65 : (zT 25)[36]? = some (65, z_goto 18) := rfl
theorem c25_68 : (zT 25)[37]? = some (68, z_vr) := rfl
theorem c26_0 : (zT 26)[0]? = some (0, z_ic 0 1) := rfl
theorem c26_1 : (zT 26)[1]? = some (1, z_is 5 2) := rfl
theorem c26_3 : (zT 26)[2]? = some (3, z_il 5 2) := rfl
theorem c26_5 : (zT 26)[3]? = some (5, z_al 1 1) := rfl
theorem c26_6 : (zT 26)[4]? = some (6, z_gI 10 6) := rfl
theorem c26_9 : (zT 26)[5]? = some (9, z_ige 98) := rfl
theorem c26_12 : (zT 26)[6]? = some (12, z_il 2 1) := rfl
theorem c26_13 : (zT 26)[7]? = some (13, z_ic 1 1) := rfl
theorem c26_14 : (zT 26)[8]? = some (14, z_il 5 2) := rfl
theorem c26_16 : (zT 26)[9]? = some (16, z_ishl) := rfl
theorem c26_17 : (zT 26)[10]? = some (17, z_ior) := rfl
theorem c26_18 : (zT 26)[11]? = some (18, z_is 6 2) := rfl
theorem c26_20 : (zT 26)[12]? = some (20, z_il 6 2) := rfl
theorem c26_22 : (zT 26)[13]? = some (22, z_il 2 1) := rfl
theorem c26_23 : (zT 26)[14]? = some (23, z_ieq 92) := rfl
theorem c26_26 : (zT 26)[15]? = some (26, z_il 6 2) := rfl
theorem c26_28 : (zT 26)[16]? = some (28, z_ic 256 3) := rfl
theorem c26_31 : (zT 26)[17]? = some (31, z_ige 92) := rfl
theorem c26_34 : (zT 26)[18]? = some (34, z_al 1 1) := rfl
theorem c26_35 : (zT 26)[19]? = some (35, z_gR 10 1) := rfl
theorem c26_38 : (zT 26)[20]? = some (38, z_il 5 2) := rfl
theorem c26_40 : (zT 26)[21]? = some (40, z_aald 25) := rfl
theorem c26_41 : (zT 26)[22]? = some (41, z_gI 3 6) := rfl
theorem c26_44 : (zT 26)[23]? = some (44, z_i2l) := rfl
theorem c26_45 : (zT 26)[24]? = some (45, z_ll 3 1) := rfl
theorem c26_46 : (zT 26)[25]? = some (46, z_lmul) := rfl
theorem c26_47 : (zT 26)[26]? = some (47, z_al 0 1) := rfl
theorem c26_48 : (zT 26)[27]? = some (48, z_gR 4 1) := rfl
theorem c26_51 : (zT 26)[28]? = some (51, z_il 6 2) := rfl
theorem c26_53 : (zT 26)[29]? = some (53, z_lald) := rfl
theorem c26_54 : (zT 26)[30]? = some (54, z_ladd) := rfl
theorem c26_55 : (zT 26)[31]? = some (55, z_ls 7 2) := rfl
theorem c26_57 : (zT 26)[32]? = some (57, z_al 0 1) := rfl
theorem c26_58 : (zT 26)[33]? = some (58, z_gI 4 2) := rfl
theorem c26_61 : (zT 26)[34]? = some (61, z_ic (-4) 2) := rfl
theorem c26_63 : (zT 26)[35]? = some (63, z_ieq 78) := rfl
theorem c26_66 : (zT 26)[36]? = some (66, z_ll 7 2) := rfl
theorem c26_68 : (zT 26)[37]? = some (68, z_al 0 1) := rfl
theorem c26_69 : (zT 26)[38]? = some (69, z_gR 4 1) := rfl
theorem c26_72 : (zT 26)[39]? = some (72, z_il 2 1) := rfl
theorem c26_73 : (zT 26)[40]? = some (73, z_lald) := rfl
theorem c26_74 : (zT 26)[41]? = some (74, z_lcmp) := rfl
theorem c26_75 : (zT 26)[42]? = some (75, z_ifge 92) := rfl
theorem c26_78 : (zT 26)[43]? = some (78, z_al 0 1) := rfl
theorem c26_79 : (zT 26)[44]? = some (79, z_gR 4 1) := rfl
theorem c26_82 : (zT 26)[45]? = some (82, z_il 2 1) := rfl
theorem c26_83 : (zT 26)[46]? = some (83, z_ll 7 2) := rfl
theorem c26_85 : (zT 26)[47]? = some (85, z_last) := rfl
theorem c26_86 : (zT 26)[48]? = some (86, z_al 0 1) := rfl
theorem c26_87 : (zT 26)[49]? = some (87, z_il 5 2) := rfl
theorem c26_89 : (zT 26)[50]? = some (89, z_pI 4 2) := rfl
theorem c26_92 : (zT 26)[51]? = some (92, z_inc 5 1) := rfl
theorem c26_95 : (zT 26)[52]? = some (95, z_goto 3) := rfl
theorem c26_98 : (zT 26)[53]? = some (98, z_vr) := rfl
theorem c28_0 : (zT 28)[0]? = some (0, z_al 2 1) := rfl
theorem c28_1 : (zT 28)[1]? = some (1, z_cV 10 45 2 0) := rfl
theorem c28_4 : (zT 28)[2]? = some (4, z_al 0 1) := rfl
theorem c28_5 : (zT 28)[3]? = some (5, z_ic 0 1) := rfl
theorem c28_6 : (zT 28)[4]? = some (6, z_pI 5 1) := rfl
theorem c28_9 : (zT 28)[5]? = some (9, z_ic 0 1) := rfl
theorem c28_10 : (zT 28)[6]? = some (10, z_is 3 1) := rfl
theorem c28_11 : (zT 28)[7]? = some (11, z_il 3 1) := rfl
theorem c28_12 : (zT 28)[8]? = some (12, z_ic 400 3) := rfl
theorem c28_15 : (zT 28)[9]? = some (15, z_ige 53) := rfl
theorem c28_18 : (zT 28)[10]? = some (18, z_al 0 1) := rfl
theorem c28_19 : (zT 28)[11]? = some (19, z_gI 5 1) := rfl
theorem c28_22 : (zT 28)[12]? = some (22, z_al 1 1) := rfl
theorem c28_23 : (zT 28)[13]? = some (23, z_gI 8 1) := rfl
theorem c28_26 : (zT 28)[14]? = some (26, z_ige 53) := rfl
theorem c28_29 : (zT 28)[15]? = some (29, z_al 0 1) := rfl
theorem c28_30 : (zT 28)[16]? = some (30, z_gI 5 1) := rfl
theorem c28_33 : (zT 28)[17]? = some (33, z_is 4 2) := rfl
theorem c28_35 : (zT 28)[18]? = some (35, z_al 0 1) := rfl
theorem c28_36 : (zT 28)[19]? = some (36, z_al 1 1) := rfl
theorem c28_37 : (zT 28)[20]? = some (37, z_al 2 1) := rfl
theorem c28_38 : (zT 28)[21]? = some (38, z_cV 5 29 6 2) := rfl
theorem c28_41 : (zT 28)[22]? = some (41, z_ifne 47) := rfl
theorem c28_44 : (zT 28)[23]? = some (44, z_il 4 2) := rfl
theorem c28_46 : (zT 28)[24]? = some (46, z_ir) := rfl
theorem c28_47 : (zT 28)[25]? = some (47, z_inc 3 1) := rfl
theorem c28_50 : (zT 28)[26]? = some (50, z_goto 11) := rfl
theorem c28_53 : (zT 28)[27]? = some (53, z_ic (-4) 2) := rfl
theorem c28_55 : (zT 28)[28]? = some (55, z_ir) := rfl
theorem c29_0 : (zT 29)[0]? = some (0, z_al 1 1) := rfl
theorem c29_1 : (zT 29)[1]? = some (1, z_al 0 1) := rfl
theorem c29_2 : (zT 29)[2]? = some (2, z_gI 5 1) := rfl
theorem c29_5 : (zT 29)[3]? = some (5, z_cV 8 42 2 1) := rfl
theorem c29_8 : (zT 29)[4]? = some (8, z_is 3 1) := rfl
theorem c29_9 : (zT 29)[5]? = some (9, z_il 3 1) := rfl
theorem c29_10 : (zT 29)[6]? = some (10, z_cS 30 1 1) := rfl
theorem c29_13 : (zT 29)[7]? = some (13, z_is 4 2) := rfl
theorem c29_15 : (zT 29)[8]? = some (15, z_il 4 2) := rfl
theorem c29_17 : (zT 29)[9]? = some (17, z_ifne 22) := rfl
theorem c29_20 : (zT 29)[10]? = some (20, z_ic 0 1) := rfl
theorem c29_21 : (zT 29)[11]? = some (21, z_zr) := rfl
theorem c29_22 : (zT 29)[12]? = some (22, z_al 0 1) := rfl
theorem c29_23 : (zT 29)[13]? = some (23, z_dup) := rfl
theorem c29_24 : (zT 29)[14]? = some (24, z_gI 5 1) := rfl
theorem c29_27 : (zT 29)[15]? = some (27, z_ic 1 1) := rfl
theorem c29_28 : (zT 29)[16]? = some (28, z_iadd) := rfl
theorem c29_29 : (zT 29)[17]? = some (29, z_pI 5 1) := rfl
theorem c29_32 : (zT 29)[18]? = some (32, z_ic 0 1) := rfl
theorem c29_33 : (zT 29)[19]? = some (33, z_is 5 2) := rfl
theorem c29_35 : (zT 29)[20]? = some (35, z_il 5 2) := rfl
theorem c29_37 : (zT 29)[21]? = some (37, z_il 4 2) := rfl
theorem c29_39 : (zT 29)[22]? = some (39, z_ige 97) := rfl
theorem c29_42 : (zT 29)[23]? = some (42, z_al 0 1) := rfl
theorem c29_43 : (zT 29)[24]? = some (43, z_al 1 1) := rfl
theorem c29_44 : (zT 29)[25]? = some (44, z_il 5 2) := rfl
theorem c29_46 : (zT 29)[26]? = some (46, z_cV 5 31 6 2) := rfl
theorem c29_49 : (zT 29)[27]? = some (49, z_ifeq 79) := rfl
theorem c29_52 : (zT 29)[28]? = some (52, z_al 1 1) := rfl
theorem c29_53 : (zT 29)[29]? = some (53, z_al 0 1) := rfl
theorem c29_54 : (zT 29)[30]? = some (54, z_gI 5 1) := rfl
theorem c29_57 : (zT 29)[31]? = some (57, z_cV 8 42 2 1) := rfl
theorem c29_60 : (zT 29)[32]? = some (60, z_il 5 2) := rfl
theorem c29_62 : (zT 29)[33]? = some (62, z_ic 1 1) := rfl
theorem c29_63 : (zT 29)[34]? = some (63, z_iadd) := rfl
theorem c29_64 : (zT 29)[35]? = some (64, z_il 4 2) := rfl
theorem c29_66 : (zT 29)[36]? = some (66, z_ige 74) := rfl
theorem c29_69 : (zT 29)[37]? = some (69, z_ic 44 2) := rfl
theorem c29_71 : (zT 29)[38]? = some (71, z_goto 76) := rfl
theorem c29_74 : (zT 29)[39]? = some (74, z_ic 59 2) := rfl
theorem c29_76 : (zT 29)[40]? = some (76, z_ieq 81) := rfl
theorem c29_79 : (zT 29)[41]? = some (79, z_ic 0 1) := rfl
theorem c29_80 : (zT 29)[42]? = some (80, z_zr) := rfl
theorem c29_81 : (zT 29)[43]? = some (81, z_al 0 1) := rfl
theorem c29_82 : (zT 29)[44]? = some (82, z_dup) := rfl
theorem c29_83 : (zT 29)[45]? = some (83, z_gI 5 1) := rfl
theorem c29_86 : (zT 29)[46]? = some (86, z_ic 1 1) := rfl
theorem c29_87 : (zT 29)[47]? = some (87, z_iadd) := rfl
theorem c29_88 : (zT 29)[48]? = some (88, z_pI 5 1) := rfl
theorem c29_91 : (zT 29)[49]? = some (91, z_inc 5 1) := rfl
theorem c29_94 : (zT 29)[50]? = some (94, z_goto 35) := rfl
theorem c29_97 : (zT 29)[51]? = some (97, z_al 0 1) := rfl
theorem c29_98 : (zT 29)[52]? = some (98, z_il 3 1) := rfl
theorem c29_99 : (zT 29)[53]? = some (99, z_al 2 1) := rfl
theorem c29_100 : (zT 29)[54]? = some (100, z_cV 5 32 6 2) := rfl
theorem c29_103 : (zT 29)[55]? = some (103, z_zr) := rfl
theorem c30_0 : (zT 30)[0]? = some (0, z_il 0 1) := rfl
theorem c30_1 : (zT 30)[1]? = some (1, z_sw 102 [(99, 96), (100, 102), (101, 96), (102, 98), (103, 102), (104, 98), (105, 102), (106, 102), (107, 96), (108, 102), (109, 98), (110, 102), (111, 102), (112, 100), (113, 102), (114, 102), (115, 96), (116, 102), (117, 102), (118, 98)]) := rfl
theorem c30_96 : (zT 30)[2]? = some (96, z_ic 2 1) := rfl
theorem c30_97 : (zT 30)[3]? = some (97, z_ir) := rfl
theorem c30_98 : (zT 30)[4]? = some (98, z_ic 3 1) := rfl
theorem c30_99 : (zT 30)[5]? = some (99, z_ir) := rfl
theorem c30_100 : (zT 30)[6]? = some (100, z_ic 5 1) := rfl
theorem c30_101 : (zT 30)[7]? = some (101, z_ir) := rfl
theorem c30_102 : (zT 30)[8]? = some (102, z_ic 0 1) := rfl
theorem c30_103 : (zT 30)[9]? = some (103, z_ir) := rfl
theorem c31_0 : (zT 31)[0]? = some (0, z_al 1 1) := rfl
theorem c31_1 : (zT 31)[1]? = some (1, z_al 0 1) := rfl
theorem c31_2 : (zT 31)[2]? = some (2, z_gI 5 1) := rfl
theorem c31_5 : (zT 31)[3]? = some (5, z_cV 8 42 2 1) := rfl
theorem c31_8 : (zT 31)[4]? = some (8, z_ic 45 2) := rfl
theorem c31_10 : (zT 31)[5]? = some (10, z_ine 17) := rfl
theorem c31_13 : (zT 31)[6]? = some (13, z_ic 1 1) := rfl
theorem c31_14 : (zT 31)[7]? = some (14, z_goto 18) := rfl
theorem c31_17 : (zT 31)[8]? = some (17, z_ic 0 1) := rfl
theorem c31_18 : (zT 31)[9]? = some (18, z_is 3 1) := rfl
theorem c31_19 : (zT 31)[10]? = some (19, z_il 3 1) := rfl
theorem c31_20 : (zT 31)[11]? = some (20, z_ifeq 33) := rfl
theorem c31_23 : (zT 31)[12]? = some (23, z_al 0 1) := rfl
theorem c31_24 : (zT 31)[13]? = some (24, z_dup) := rfl
theorem c31_25 : (zT 31)[14]? = some (25, z_gI 5 1) := rfl
theorem c31_28 : (zT 31)[15]? = some (28, z_ic 1 1) := rfl
theorem c31_29 : (zT 31)[16]? = some (29, z_iadd) := rfl
theorem c31_30 : (zT 31)[17]? = some (30, z_pI 5 1) := rfl
theorem c31_33 : (zT 31)[18]? = some (33, z_ic 0 1) := rfl
theorem c31_34 : (zT 31)[19]? = some (34, z_is 4 2) := rfl
theorem c31_36 : (zT 31)[20]? = some (36, z_ic 0 1) := rfl
theorem c31_37 : (zT 31)[21]? = some (37, z_is 5 2) := rfl
theorem c31_39 : (zT 31)[22]? = some (39, z_il 5 2) := rfl
theorem c31_41 : (zT 31)[23]? = some (41, z_ic 3 1) := rfl
theorem c31_42 : (zT 31)[24]? = some (42, z_ige 98) := rfl
theorem c31_45 : (zT 31)[25]? = some (45, z_al 1 1) := rfl
theorem c31_46 : (zT 31)[26]? = some (46, z_al 0 1) := rfl
theorem c31_47 : (zT 31)[27]? = some (47, z_gI 5 1) := rfl
theorem c31_50 : (zT 31)[28]? = some (50, z_cV 8 42 2 1) := rfl
theorem c31_53 : (zT 31)[29]? = some (53, z_ic 48 2) := rfl
theorem c31_55 : (zT 31)[30]? = some (55, z_ic 57 2) := rfl
theorem c31_57 : (zT 31)[31]? = some (57, z_cS 100 3 3) := rfl
theorem c31_60 : (zT 31)[32]? = some (60, z_ifeq 98) := rfl
theorem c31_63 : (zT 31)[33]? = some (63, z_il 4 2) := rfl
theorem c31_65 : (zT 31)[34]? = some (65, z_ic 10 2) := rfl
theorem c31_67 : (zT 31)[35]? = some (67, z_imul) := rfl
theorem c31_68 : (zT 31)[36]? = some (68, z_al 1 1) := rfl
theorem c31_69 : (zT 31)[37]? = some (69, z_al 0 1) := rfl
theorem c31_70 : (zT 31)[38]? = some (70, z_gI 5 1) := rfl
theorem c31_73 : (zT 31)[39]? = some (73, z_cV 8 42 2 1) := rfl
theorem c31_76 : (zT 31)[40]? = some (76, z_iadd) := rfl
theorem c31_77 : (zT 31)[41]? = some (77, z_ic 48 2) := rfl
theorem c31_79 : (zT 31)[42]? = some (79, z_isub) := rfl
theorem c31_80 : (zT 31)[43]? = some (80, z_is 4 2) := rfl
theorem c31_82 : (zT 31)[44]? = some (82, z_inc 5 1) := rfl
theorem c31_85 : (zT 31)[45]? = some (85, z_al 0 1) := rfl
theorem c31_86 : (zT 31)[46]? = some (86, z_dup) := rfl
theorem c31_87 : (zT 31)[47]? = some (87, z_gI 5 1) := rfl
theorem c31_90 : (zT 31)[48]? = some (90, z_ic 1 1) := rfl
theorem c31_91 : (zT 31)[49]? = some (91, z_iadd) := rfl
theorem c31_92 : (zT 31)[50]? = some (92, z_pI 5 1) := rfl
theorem c31_95 : (zT 31)[51]? = some (95, z_goto 39) := rfl
theorem c31_98 : (zT 31)[52]? = some (98, z_il 5 2) := rfl
theorem c31_100 : (zT 31)[53]? = some (100, z_ifeq 121) := rfl
theorem c31_103 : (zT 31)[54]? = some (103, z_il 3 1) := rfl
theorem c31_104 : (zT 31)[55]? = some (104, z_ifeq 112) := rfl
theorem c31_107 : (zT 31)[56]? = some (107, z_il 4 2) := rfl
theorem c31_109 : (zT 31)[57]? = some (109, z_ifeq 121) := rfl
theorem c31_112 : (zT 31)[58]? = some (112, z_il 2 1) := rfl
theorem c31_113 : (zT 31)[59]? = some (113, z_iflt 121) := rfl
theorem c31_116 : (zT 31)[60]? = some (116, z_il 2 1) := rfl
theorem c31_117 : (zT 31)[61]? = some (117, z_ic 5 1) := rfl
theorem c31_118 : (zT 31)[62]? = some (118, z_ilt 123) := rfl
theorem c31_121 : (zT 31)[63]? = some (121, z_ic 0 1) := rfl
theorem c31_122 : (zT 31)[64]? = some (122, z_zr) := rfl
theorem c31_123 : (zT 31)[65]? = some (123, z_al 0 1) := rfl
theorem c31_124 : (zT 31)[66]? = some (124, z_gR 5 0) := rfl
theorem c31_127 : (zT 31)[67]? = some (127, z_il 2 1) := rfl
theorem c31_128 : (zT 31)[68]? = some (128, z_il 3 1) := rfl
theorem c31_129 : (zT 31)[69]? = some (129, z_ifeq 138) := rfl
theorem c31_132 : (zT 31)[70]? = some (132, z_il 4 2) := rfl
theorem c31_134 : (zT 31)[71]? = some (134, z_ineg) := rfl
theorem c31_135 : (zT 31)[72]? = some (135, z_goto 140) := rfl
theorem c31_138 : (zT 31)[73]? = some (138, z_il 4 2) := rfl
theorem c31_140 : (zT 31)[74]? = some (140, z_iast) := rfl
theorem c31_141 : (zT 31)[75]? = some (141, z_ic 1 1) := rfl
theorem c31_142 : (zT 31)[76]? = some (142, z_zr) := rfl
theorem c32_0 : (zT 32)[0]? = some (0, z_al 0 1) := rfl
theorem c32_1 : (zT 32)[1]? = some (1, z_gR 5 0) := rfl
theorem c32_4 : (zT 32)[2]? = some (4, z_ic 0 1) := rfl
theorem c32_5 : (zT 32)[3]? = some (5, z_iald 20) := rfl
theorem c32_6 : (zT 32)[4]? = some (6, z_is 3 1) := rfl
theorem c32_7 : (zT 32)[5]? = some (7, z_al 0 1) := rfl
theorem c32_8 : (zT 32)[6]? = some (8, z_gR 5 0) := rfl
theorem c32_11 : (zT 32)[7]? = some (11, z_ic 1 1) := rfl
theorem c32_12 : (zT 32)[8]? = some (12, z_iald 20) := rfl
theorem c32_13 : (zT 32)[9]? = some (13, z_is 4 2) := rfl
theorem c32_15 : (zT 32)[10]? = some (15, z_al 0 1) := rfl
theorem c32_16 : (zT 32)[11]? = some (16, z_gR 5 0) := rfl
theorem c32_19 : (zT 32)[12]? = some (19, z_ic 2 1) := rfl
theorem c32_20 : (zT 32)[13]? = some (20, z_iald 20) := rfl
theorem c32_21 : (zT 32)[14]? = some (21, z_is 5 2) := rfl
theorem c32_23 : (zT 32)[15]? = some (23, z_il 1 1) := rfl
theorem c32_24 : (zT 32)[16]? = some (24, z_sw 214 [(99, 170), (100, 214), (101, 188), (102, 178), (103, 214), (104, 150), (105, 214), (106, 214), (107, 196), (108, 214), (109, 160), (110, 214), (111, 214), (112, 128), (113, 214), (114, 214), (115, 120), (116, 214), (117, 214), (118, 204)]) := rfl
theorem c32_120 : (zT 32)[17]? = some (120, z_al 2 1) := rfl
theorem c32_121 : (zT 32)[18]? = some (121, z_il 3 1) := rfl
theorem c32_122 : (zT 32)[19]? = some (122, z_il 4 2) := rfl
theorem c32_124 : (zT 32)[20]? = some (124, z_cV 10 51 5 2) := rfl
theorem c32_127 : (zT 32)[21]? = some (127, z_zr) := rfl
theorem c32_128 : (zT 32)[22]? = some (128, z_al 2 1) := rfl
theorem c32_129 : (zT 32)[23]? = some (129, z_il 3 1) := rfl
theorem c32_130 : (zT 32)[24]? = some (130, z_il 4 2) := rfl
theorem c32_132 : (zT 32)[25]? = some (132, z_il 5 2) := rfl
theorem c32_134 : (zT 32)[26]? = some (134, z_al 0 1) := rfl
theorem c32_135 : (zT 32)[27]? = some (135, z_gR 5 0) := rfl
theorem c32_138 : (zT 32)[28]? = some (138, z_ic 3 1) := rfl
theorem c32_139 : (zT 32)[29]? = some (139, z_iald 20) := rfl
theorem c32_140 : (zT 32)[30]? = some (140, z_al 0 1) := rfl
theorem c32_141 : (zT 32)[31]? = some (141, z_gR 5 0) := rfl
theorem c32_144 : (zT 32)[32]? = some (144, z_ic 4 1) := rfl
theorem c32_145 : (zT 32)[33]? = some (145, z_iald 20) := rfl
theorem c32_146 : (zT 32)[34]? = some (146, z_cV 10 52 8 5) := rfl
theorem c32_149 : (zT 32)[35]? = some (149, z_zr) := rfl
theorem c32_150 : (zT 32)[36]? = some (150, z_al 2 1) := rfl
theorem c32_151 : (zT 32)[37]? = some (151, z_il 3 1) := rfl
theorem c32_152 : (zT 32)[38]? = some (152, z_il 4 2) := rfl
theorem c32_154 : (zT 32)[39]? = some (154, z_il 5 2) := rfl
theorem c32_156 : (zT 32)[40]? = some (156, z_cV 10 53 4 3) := rfl
theorem c32_159 : (zT 32)[41]? = some (159, z_zr) := rfl
theorem c32_160 : (zT 32)[42]? = some (160, z_al 2 1) := rfl
theorem c32_161 : (zT 32)[43]? = some (161, z_il 3 1) := rfl
theorem c32_162 : (zT 32)[44]? = some (162, z_il 4 2) := rfl
theorem c32_164 : (zT 32)[45]? = some (164, z_il 5 2) := rfl
theorem c32_166 : (zT 32)[46]? = some (166, z_cV 10 54 4 3) := rfl
theorem c32_169 : (zT 32)[47]? = some (169, z_zr) := rfl
theorem c32_170 : (zT 32)[48]? = some (170, z_al 2 1) := rfl
theorem c32_171 : (zT 32)[49]? = some (171, z_il 3 1) := rfl
theorem c32_172 : (zT 32)[50]? = some (172, z_il 4 2) := rfl
theorem c32_174 : (zT 32)[51]? = some (174, z_cV 10 55 3 2) := rfl
theorem c32_177 : (zT 32)[52]? = some (177, z_zr) := rfl
theorem c32_178 : (zT 32)[53]? = some (178, z_al 2 1) := rfl
theorem c32_179 : (zT 32)[54]? = some (179, z_il 3 1) := rfl
theorem c32_180 : (zT 32)[55]? = some (180, z_il 4 2) := rfl
theorem c32_182 : (zT 32)[56]? = some (182, z_il 5 2) := rfl
theorem c32_184 : (zT 32)[57]? = some (184, z_cV 10 56 5 3) := rfl
theorem c32_187 : (zT 32)[58]? = some (187, z_zr) := rfl
theorem c32_188 : (zT 32)[59]? = some (188, z_al 2 1) := rfl
theorem c32_189 : (zT 32)[60]? = some (189, z_il 3 1) := rfl
theorem c32_190 : (zT 32)[61]? = some (190, z_il 4 2) := rfl
theorem c32_192 : (zT 32)[62]? = some (192, z_cV 10 57 3 2) := rfl
theorem c32_195 : (zT 32)[63]? = some (195, z_zr) := rfl
theorem c32_196 : (zT 32)[64]? = some (196, z_al 2 1) := rfl
theorem c32_197 : (zT 32)[65]? = some (197, z_il 3 1) := rfl
theorem c32_198 : (zT 32)[66]? = some (198, z_il 4 2) := rfl
theorem c32_200 : (zT 32)[67]? = some (200, z_cV 10 58 3 2) := rfl
theorem c32_203 : (zT 32)[68]? = some (203, z_zr) := rfl
theorem c32_204 : (zT 32)[69]? = some (204, z_al 2 1) := rfl
theorem c32_205 : (zT 32)[70]? = some (205, z_il 3 1) := rfl
theorem c32_206 : (zT 32)[71]? = some (206, z_il 4 2) := rfl
theorem c32_208 : (zT 32)[72]? = some (208, z_il 5 2) := rfl
theorem c32_210 : (zT 32)[73]? = some (210, z_cV 10 59 4 3) := rfl
theorem c32_213 : (zT 32)[74]? = some (213, z_zr) := rfl
theorem c32_214 : (zT 32)[75]? = some (214, z_ic 0 1) := rfl
theorem c32_215 : (zT 32)[76]? = some (215, z_zr) := rfl
theorem c34_0 : (zT 34)[0]? = some (0, z_al 0 1) := rfl
theorem c34_1 : (zT 34)[1]? = some (1, z_ic (-4) 2) := rfl
theorem c34_3 : (zT 34)[2]? = some (3, z_pI 6 1) := rfl
theorem c34_6 : (zT 34)[3]? = some (6, z_ic 0 1) := rfl
theorem c34_7 : (zT 34)[4]? = some (7, z_is 5 2) := rfl
theorem c34_9 : (zT 34)[5]? = some (9, z_il 5 2) := rfl
theorem c34_11 : (zT 34)[6]? = some (11, z_ic 4 1) := rfl
theorem c34_12 : (zT 34)[7]? = some (12, z_igt 112) := rfl
theorem c34_15 : (zT 34)[8]? = some (15, z_ic 0 1) := rfl
theorem c34_16 : (zT 34)[9]? = some (16, z_is 6 2) := rfl
theorem c34_18 : (zT 34)[10]? = some (18, z_il 6 2) := rfl
theorem c34_20 : (zT 34)[11]? = some (20, z_al 1 1) := rfl
theorem c34_21 : (zT 34)[12]? = some (21, z_il 5 2) := rfl
theorem c34_23 : (zT 34)[13]? = some (23, z_cV 10 50 2 1) := rfl
theorem c34_26 : (zT 34)[14]? = some (26, z_ige 106) := rfl
theorem c34_29 : (zT 34)[15]? = some (29, z_al 0 1) := rfl
theorem c34_30 : (zT 34)[16]? = some (30, z_al 1 1) := rfl
theorem c34_31 : (zT 34)[17]? = some (31, z_al 2 1) := rfl
theorem c34_32 : (zT 34)[18]? = some (32, z_al 3 1) := rfl
theorem c34_33 : (zT 34)[19]? = some (33, z_il 5 2) := rfl
theorem c34_35 : (zT 34)[20]? = some (35, z_il 6 2) := rfl
theorem c34_37 : (zT 34)[21]? = some (37, z_il 4 2) := rfl
theorem c34_39 : (zT 34)[22]? = some (39, z_cV 6 37 11 6) := rfl
theorem c34_42 : (zT 34)[23]? = some (42, z_ls 7 2) := rfl
theorem c34_44 : (zT 34)[24]? = some (44, z_al 1 1) := rfl
theorem c34_45 : (zT 34)[25]? = some (45, z_il 5 2) := rfl
theorem c34_47 : (zT 34)[26]? = some (47, z_il 6 2) := rfl
theorem c34_49 : (zT 34)[27]? = some (49, z_cV 10 60 3 2) := rfl
theorem c34_52 : (zT 34)[28]? = some (52, z_is 9 2) := rfl
theorem c34_54 : (zT 34)[29]? = some (54, z_al 0 1) := rfl
theorem c34_55 : (zT 34)[30]? = some (55, z_gI 6 1) := rfl
theorem c34_58 : (zT 34)[31]? = some (58, z_ic (-4) 2) := rfl
theorem c34_60 : (zT 34)[32]? = some (60, z_ieq 76) := rfl
theorem c34_63 : (zT 34)[33]? = some (63, z_al 0 1) := rfl
theorem c34_64 : (zT 34)[34]? = some (64, z_il 5 2) := rfl
theorem c34_66 : (zT 34)[35]? = some (66, z_ll 7 2) := rfl
theorem c34_68 : (zT 34)[36]? = some (68, z_il 9 2) := rfl
theorem c34_70 : (zT 34)[37]? = some (70, z_cV 6 35 5 3) := rfl
theorem c34_73 : (zT 34)[38]? = some (73, z_ifeq 100) := rfl
theorem c34_76 : (zT 34)[39]? = some (76, z_al 0 1) := rfl
theorem c34_77 : (zT 34)[40]? = some (77, z_il 5 2) := rfl
theorem c34_79 : (zT 34)[41]? = some (79, z_pI 6 1) := rfl
theorem c34_82 : (zT 34)[42]? = some (82, z_al 0 1) := rfl
theorem c34_83 : (zT 34)[43]? = some (83, z_il 6 2) := rfl
theorem c34_85 : (zT 34)[44]? = some (85, z_pI 6 2) := rfl
theorem c34_88 : (zT 34)[45]? = some (88, z_al 0 1) := rfl
theorem c34_89 : (zT 34)[46]? = some (89, z_ll 7 2) := rfl
theorem c34_91 : (zT 34)[47]? = some (91, z_pL 6 3) := rfl
theorem c34_94 : (zT 34)[48]? = some (94, z_al 0 1) := rfl
theorem c34_95 : (zT 34)[49]? = some (95, z_il 9 2) := rfl
theorem c34_97 : (zT 34)[50]? = some (97, z_pI 6 4) := rfl
theorem c34_100 : (zT 34)[51]? = some (100, z_inc 6 1) := rfl
theorem c34_103 : (zT 34)[52]? = some (103, z_goto 18) := rfl
theorem c34_106 : (zT 34)[53]? = some (106, z_inc 5 1) := rfl
theorem c34_109 : (zT 34)[54]? = some (109, z_goto 9) := rfl
theorem c34_112 : (zT 34)[55]? = some (112, z_vr) := rfl
theorem c35_0 : (zT 35)[0]? = some (0, z_ll 2 1) := rfl
theorem c35_1 : (zT 35)[1]? = some (1, z_al 0 1) := rfl
theorem c35_2 : (zT 35)[2]? = some (2, z_gL 6 3) := rfl
theorem c35_5 : (zT 35)[3]? = some (5, z_lcmp) := rfl
theorem c35_6 : (zT 35)[4]? = some (6, z_ifeq 24) := rfl
theorem c35_9 : (zT 35)[5]? = some (9, z_ll 2 1) := rfl
theorem c35_10 : (zT 35)[6]? = some (10, z_al 0 1) := rfl
theorem c35_11 : (zT 35)[7]? = some (11, z_gL 6 3) := rfl
theorem c35_14 : (zT 35)[8]? = some (14, z_lcmp) := rfl
theorem c35_15 : (zT 35)[9]? = some (15, z_ifge 22) := rfl
theorem c35_18 : (zT 35)[10]? = some (18, z_ic 1 1) := rfl
theorem c35_19 : (zT 35)[11]? = some (19, z_goto 23) := rfl
theorem c35_22 : (zT 35)[12]? = some (22, z_ic 0 1) := rfl
theorem c35_23 : (zT 35)[13]? = some (23, z_zr) := rfl
theorem c35_24 : (zT 35)[14]? = some (24, z_il 4 2) := rfl
theorem c35_26 : (zT 35)[15]? = some (26, z_al 0 1) := rfl
theorem c35_27 : (zT 35)[16]? = some (27, z_gI 6 4) := rfl
theorem c35_30 : (zT 35)[17]? = some (30, z_ieq 48) := rfl
theorem c35_33 : (zT 35)[18]? = some (33, z_il 4 2) := rfl
theorem c35_35 : (zT 35)[19]? = some (35, z_al 0 1) := rfl
theorem c35_36 : (zT 35)[20]? = some (36, z_gI 6 4) := rfl
theorem c35_39 : (zT 35)[21]? = some (39, z_ige 46) := rfl
theorem c35_42 : (zT 35)[22]? = some (42, z_ic 1 1) := rfl
theorem c35_43 : (zT 35)[23]? = some (43, z_goto 47) := rfl
theorem c35_46 : (zT 35)[24]? = some (46, z_ic 0 1) := rfl
theorem c35_47 : (zT 35)[25]? = some (47, z_zr) := rfl
theorem c35_48 : (zT 35)[26]? = some (48, z_il 1 1) := rfl
theorem c35_49 : (zT 35)[27]? = some (49, z_cS 36 1 1) := rfl
theorem c35_52 : (zT 35)[28]? = some (52, z_al 0 1) := rfl
theorem c35_53 : (zT 35)[29]? = some (53, z_gI 6 1) := rfl
theorem c35_56 : (zT 35)[30]? = some (56, z_cS 36 1 1) := rfl
theorem c35_59 : (zT 35)[31]? = some (59, z_ige 66) := rfl
theorem c35_62 : (zT 35)[32]? = some (62, z_ic 1 1) := rfl
theorem c35_63 : (zT 35)[33]? = some (63, z_goto 67) := rfl
theorem c35_66 : (zT 35)[34]? = some (66, z_ic 0 1) := rfl
theorem c35_67 : (zT 35)[35]? = some (67, z_zr) := rfl
theorem c36_0 : (zT 36)[0]? = some (0, z_il 0 1) := rfl
theorem c36_1 : (zT 36)[1]? = some (1, z_iflt 20) := rfl
theorem c36_4 : (zT 36)[2]? = some (4, z_il 0 1) := rfl
theorem c36_5 : (zT 36)[3]? = some (5, z_gs) := rfl
theorem c36_8 : (zT 36)[4]? = some (8, z_alen 30) := rfl
theorem c36_9 : (zT 36)[5]? = some (9, z_ige 20) := rfl
theorem c36_12 : (zT 36)[6]? = some (12, z_gs) := rfl
theorem c36_15 : (zT 36)[7]? = some (15, z_il 0 1) := rfl
theorem c36_16 : (zT 36)[8]? = some (16, z_iald 30) := rfl
theorem c36_17 : (zT 36)[9]? = some (17, z_goto 21) := rfl
theorem c36_20 : (zT 36)[10]? = some (20, z_ic 0 1) := rfl
theorem c36_21 : (zT 36)[11]? = some (21, z_ir) := rfl
theorem c37_0 : (zT 37)[0]? = some (0, z_ic 0 1) := rfl
theorem c37_1 : (zT 37)[1]? = some (1, z_is 7 2) := rfl
theorem c37_3 : (zT 37)[2]? = some (3, z_il 7 2) := rfl
theorem c37_5 : (zT 37)[3]? = some (5, z_ic 9 2) := rfl
theorem c37_7 : (zT 37)[4]? = some (7, z_igt 24) := rfl
theorem c37_10 : (zT 37)[5]? = some (10, z_al 0 1) := rfl
theorem c37_11 : (zT 37)[6]? = some (11, z_gR 6 0) := rfl
theorem c37_14 : (zT 37)[7]? = some (14, z_il 7 2) := rfl
theorem c37_16 : (zT 37)[8]? = some (16, z_lc 0 1) := rfl
theorem c37_17 : (zT 37)[9]? = some (17, z_last) := rfl
theorem c37_18 : (zT 37)[10]? = some (18, z_inc 7 1) := rfl
theorem c37_21 : (zT 37)[11]? = some (21, z_goto 3) := rfl
theorem c37_24 : (zT 37)[12]? = some (24, z_lc 0 1) := rfl
theorem c37_25 : (zT 37)[13]? = some (25, z_ls 7 2) := rfl
theorem c37_27 : (zT 37)[14]? = some (27, z_ic 0 1) := rfl
theorem c37_28 : (zT 37)[15]? = some (28, z_is 9 2) := rfl
theorem c37_30 : (zT 37)[16]? = some (30, z_il 9 2) := rfl
theorem c37_32 : (zT 37)[17]? = some (32, z_al 3 1) := rfl
theorem c37_33 : (zT 37)[18]? = some (33, z_gI 2 2) := rfl
theorem c37_36 : (zT 37)[19]? = some (36, z_ige 107) := rfl
theorem c37_39 : (zT 37)[20]? = some (39, z_al 2 1) := rfl
theorem c37_40 : (zT 37)[21]? = some (40, z_al 1 1) := rfl
theorem c37_41 : (zT 37)[22]? = some (41, z_al 3 1) := rfl
theorem c37_42 : (zT 37)[23]? = some (42, z_gR 2 0) := rfl
theorem c37_45 : (zT 37)[24]? = some (45, z_il 9 2) := rfl
theorem c37_47 : (zT 37)[25]? = some (47, z_iald 20) := rfl
theorem c37_48 : (zT 37)[26]? = some (48, z_il 4 2) := rfl
theorem c37_50 : (zT 37)[27]? = some (50, z_il 5 2) := rfl
theorem c37_52 : (zT 37)[28]? = some (52, z_il 6 2) := rfl
theorem c37_54 : (zT 37)[29]? = some (54, z_cV 1 9 7 5) := rfl
theorem c37_57 : (zT 37)[30]? = some (57, z_is 10 2) := rfl
theorem c37_59 : (zT 37)[31]? = some (59, z_il 10 2) := rfl
theorem c37_61 : (zT 37)[32]? = some (61, z_ic 0 1) := rfl
theorem c37_62 : (zT 37)[33]? = some (62, z_ic 9 2) := rfl
theorem c37_64 : (zT 37)[34]? = some (64, z_cS 100 3 3) := rfl
theorem c37_67 : (zT 37)[35]? = some (67, z_ifeq 101) := rfl
theorem c37_70 : (zT 37)[36]? = some (70, z_al 0 1) := rfl
theorem c37_71 : (zT 37)[37]? = some (71, z_gR 6 0) := rfl
theorem c37_74 : (zT 37)[38]? = some (74, z_il 10 2) := rfl
theorem c37_76 : (zT 37)[39]? = some (76, z_dup2) := rfl
theorem c37_77 : (zT 37)[40]? = some (77, z_lald) := rfl
theorem c37_78 : (zT 37)[41]? = some (78, z_al 3 1) := rfl
theorem c37_79 : (zT 37)[42]? = some (79, z_gR 2 1) := rfl
theorem c37_82 : (zT 37)[43]? = some (82, z_il 9 2) := rfl
theorem c37_84 : (zT 37)[44]? = some (84, z_lald) := rfl
theorem c37_85 : (zT 37)[45]? = some (85, z_ladd) := rfl
theorem c37_86 : (zT 37)[46]? = some (86, z_last) := rfl
theorem c37_87 : (zT 37)[47]? = some (87, z_ll 7 2) := rfl
theorem c37_89 : (zT 37)[48]? = some (89, z_al 0 1) := rfl
theorem c37_90 : (zT 37)[49]? = some (90, z_gR 6 0) := rfl
theorem c37_93 : (zT 37)[50]? = some (93, z_il 10 2) := rfl
theorem c37_95 : (zT 37)[51]? = some (95, z_lald) := rfl
theorem c37_96 : (zT 37)[52]? = some (96, z_mmaxl) := rfl
theorem c37_99 : (zT 37)[53]? = some (99, z_ls 7 2) := rfl
theorem c37_101 : (zT 37)[54]? = some (101, z_inc 9 1) := rfl
theorem c37_104 : (zT 37)[55]? = some (104, z_goto 30) := rfl
theorem c37_107 : (zT 37)[56]? = some (107, z_ll 7 2) := rfl
theorem c37_109 : (zT 37)[57]? = some (109, z_lr) := rfl
theorem c40_0 : (zT 40)[0]? = some (0, z_il 1 1) := rfl
theorem c40_1 : (zT 40)[1]? = some (1, z_ic 400 3) := rfl
theorem c40_4 : (zT 40)[2]? = some (4, z_al 0 1) := rfl
theorem c40_5 : (zT 40)[3]? = some (5, z_gI 8 1) := rfl
theorem c40_8 : (zT 40)[4]? = some (8, z_isub) := rfl
theorem c40_9 : (zT 40)[5]? = some (9, z_igt 16) := rfl
theorem c40_12 : (zT 40)[6]? = some (12, z_ic 1 1) := rfl
theorem c40_13 : (zT 40)[7]? = some (13, z_goto 17) := rfl
theorem c40_16 : (zT 40)[8]? = some (16, z_ic 0 1) := rfl
theorem c40_17 : (zT 40)[9]? = some (17, z_zr) := rfl
theorem c41_0 : (zT 41)[0]? = some (0, z_il 1 1) := rfl
theorem c41_1 : (zT 41)[1]? = some (1, z_ic 1 1) := rfl
theorem c41_2 : (zT 41)[2]? = some (2, z_isub) := rfl
theorem c41_3 : (zT 41)[3]? = some (3, z_is 4 2) := rfl
theorem c41_5 : (zT 41)[4]? = some (5, z_il 4 2) := rfl
theorem c41_7 : (zT 41)[5]? = some (7, z_iflt 54) := rfl
theorem c41_10 : (zT 41)[6]? = some (10, z_al 0 1) := rfl
theorem c41_11 : (zT 41)[7]? = some (11, z_gI 8 1) := rfl
theorem c41_14 : (zT 41)[8]? = some (14, z_ic 400 3) := rfl
theorem c41_17 : (zT 41)[9]? = some (17, z_ige 54) := rfl
theorem c41_20 : (zT 41)[10]? = some (20, z_al 0 1) := rfl
theorem c41_21 : (zT 41)[11]? = some (21, z_gR 8 0) := rfl
theorem c41_24 : (zT 41)[12]? = some (24, z_al 0 1) := rfl
theorem c41_25 : (zT 41)[13]? = some (25, z_gI 8 1) := rfl
theorem c41_28 : (zT 41)[14]? = some (28, z_ll 2 1) := rfl
theorem c41_29 : (zT 41)[15]? = some (29, z_ic 8 2) := rfl
theorem c41_31 : (zT 41)[16]? = some (31, z_il 4 2) := rfl
theorem c41_33 : (zT 41)[17]? = some (33, z_imul) := rfl
theorem c41_34 : (zT 41)[18]? = some (34, z_lushr) := rfl
theorem c41_35 : (zT 41)[19]? = some (35, z_l2i) := rfl
theorem c41_36 : (zT 41)[20]? = some (36, z_i2b) := rfl
theorem c41_37 : (zT 41)[21]? = some (37, z_bast) := rfl
theorem c41_38 : (zT 41)[22]? = some (38, z_al 0 1) := rfl
theorem c41_39 : (zT 41)[23]? = some (39, z_dup) := rfl
theorem c41_40 : (zT 41)[24]? = some (40, z_gI 8 1) := rfl
theorem c41_43 : (zT 41)[25]? = some (43, z_ic 1 1) := rfl
theorem c41_44 : (zT 41)[26]? = some (44, z_iadd) := rfl
theorem c41_45 : (zT 41)[27]? = some (45, z_pI 8 1) := rfl
theorem c41_48 : (zT 41)[28]? = some (48, z_inc 4 (-1)) := rfl
theorem c41_51 : (zT 41)[29]? = some (51, z_goto 5) := rfl
theorem c41_54 : (zT 41)[30]? = some (54, z_vr) := rfl
theorem c42_0 : (zT 42)[0]? = some (0, z_il 1 1) := rfl
theorem c42_1 : (zT 42)[1]? = some (1, z_iflt 25) := rfl
theorem c42_4 : (zT 42)[2]? = some (4, z_il 1 1) := rfl
theorem c42_5 : (zT 42)[3]? = some (5, z_al 0 1) := rfl
theorem c42_6 : (zT 42)[4]? = some (6, z_gI 8 1) := rfl
theorem c42_9 : (zT 42)[5]? = some (9, z_ige 25) := rfl
theorem c42_12 : (zT 42)[6]? = some (12, z_al 0 1) := rfl
theorem c42_13 : (zT 42)[7]? = some (13, z_gR 8 0) := rfl
theorem c42_16 : (zT 42)[8]? = some (16, z_il 1 1) := rfl
theorem c42_17 : (zT 42)[9]? = some (17, z_iald 22) := rfl
theorem c42_18 : (zT 42)[10]? = some (18, z_ic 255 3) := rfl
theorem c42_21 : (zT 42)[11]? = some (21, z_iand) := rfl
theorem c42_22 : (zT 42)[12]? = some (22, z_goto 26) := rfl
theorem c42_25 : (zT 42)[13]? = some (25, z_ic (-1) 1) := rfl
theorem c42_26 : (zT 42)[14]? = some (26, z_ir) := rfl
theorem c45_0 : (zT 45)[0]? = some (0, z_al 0 1) := rfl
theorem c45_1 : (zT 45)[1]? = some (1, z_ic 0 1) := rfl
theorem c45_2 : (zT 45)[2]? = some (2, z_pI 10 5) := rfl
theorem c45_5 : (zT 45)[3]? = some (5, z_al 0 1) := rfl
theorem c45_6 : (zT 45)[4]? = some (6, z_ic 0 1) := rfl
theorem c45_7 : (zT 45)[5]? = some (7, z_pI 10 6) := rfl
theorem c45_10 : (zT 45)[6]? = some (10, z_al 0 1) := rfl
theorem c45_11 : (zT 45)[7]? = some (11, z_ic 0 1) := rfl
theorem c45_12 : (zT 45)[8]? = some (12, z_pI 10 7) := rfl
theorem c45_15 : (zT 45)[9]? = some (15, z_al 0 1) := rfl
theorem c45_16 : (zT 45)[10]? = some (16, z_ic 0 1) := rfl
theorem c45_17 : (zT 45)[11]? = some (17, z_pI 10 8) := rfl
theorem c45_20 : (zT 45)[12]? = some (20, z_al 0 1) := rfl
theorem c45_21 : (zT 45)[13]? = some (21, z_ic 0 1) := rfl
theorem c45_22 : (zT 45)[14]? = some (22, z_pI 10 9) := rfl
theorem c45_25 : (zT 45)[15]? = some (25, z_ic 0 1) := rfl
theorem c45_26 : (zT 45)[16]? = some (26, z_is 1 1) := rfl
theorem c45_27 : (zT 45)[17]? = some (27, z_il 1 1) := rfl
theorem c45_28 : (zT 45)[18]? = some (28, z_ic 3 1) := rfl
theorem c45_29 : (zT 45)[19]? = some (29, z_ige 46) := rfl
theorem c45_32 : (zT 45)[20]? = some (32, z_al 0 1) := rfl
theorem c45_33 : (zT 45)[21]? = some (33, z_gR 10 3) := rfl
theorem c45_36 : (zT 45)[22]? = some (36, z_il 1 1) := rfl
theorem c45_37 : (zT 45)[23]? = some (37, z_ic 20 2) := rfl
theorem c45_39 : (zT 45)[24]? = some (39, z_iast) := rfl
theorem c45_40 : (zT 45)[25]? = some (40, z_inc 1 1) := rfl
theorem c45_43 : (zT 45)[26]? = some (43, z_goto 27) := rfl
theorem c45_46 : (zT 45)[27]? = some (46, z_ic 0 1) := rfl
theorem c45_47 : (zT 45)[28]? = some (47, z_is 1 1) := rfl
theorem c45_48 : (zT 45)[29]? = some (48, z_il 1 1) := rfl
theorem c45_49 : (zT 45)[30]? = some (49, z_ic 5 1) := rfl
theorem c45_50 : (zT 45)[31]? = some (50, z_ige 66) := rfl
theorem c45_53 : (zT 45)[32]? = some (53, z_al 0 1) := rfl
theorem c45_54 : (zT 45)[33]? = some (54, z_gR 10 4) := rfl
theorem c45_57 : (zT 45)[34]? = some (57, z_il 1 1) := rfl
theorem c45_58 : (zT 45)[35]? = some (58, z_ic 5 1) := rfl
theorem c45_59 : (zT 45)[36]? = some (59, z_iast) := rfl
theorem c45_60 : (zT 45)[37]? = some (60, z_inc 1 1) := rfl
theorem c45_63 : (zT 45)[38]? = some (63, z_goto 48) := rfl
theorem c45_66 : (zT 45)[39]? = some (66, z_vr) := rfl
theorem c46_0 : (zT 46)[0]? = some (0, z_il 1 1) := rfl
theorem c46_1 : (zT 46)[1]? = some (1, z_iflt 16) := rfl
theorem c46_4 : (zT 46)[2]? = some (4, z_il 1 1) := rfl
theorem c46_5 : (zT 46)[3]? = some (5, z_al 0 1) := rfl
theorem c46_6 : (zT 46)[4]? = some (6, z_gI 10 5) := rfl
theorem c46_9 : (zT 46)[5]? = some (9, z_ige 16) := rfl
theorem c46_12 : (zT 46)[6]? = some (12, z_ic 1 1) := rfl
theorem c46_13 : (zT 46)[7]? = some (13, z_goto 17) := rfl
theorem c46_16 : (zT 46)[8]? = some (16, z_ic 0 1) := rfl
theorem c46_17 : (zT 46)[9]? = some (17, z_zr) := rfl
theorem c47_0 : (zT 47)[0]? = some (0, z_il 1 1) := rfl
theorem c47_1 : (zT 47)[1]? = some (1, z_iflt 16) := rfl
theorem c47_4 : (zT 47)[2]? = some (4, z_il 1 1) := rfl
theorem c47_5 : (zT 47)[3]? = some (5, z_al 0 1) := rfl
theorem c47_6 : (zT 47)[4]? = some (6, z_gI 10 6) := rfl
theorem c47_9 : (zT 47)[5]? = some (9, z_ige 16) := rfl
theorem c47_12 : (zT 47)[6]? = some (12, z_ic 1 1) := rfl
theorem c47_13 : (zT 47)[7]? = some (13, z_goto 17) := rfl
theorem c47_16 : (zT 47)[8]? = some (16, z_ic 0 1) := rfl
theorem c47_17 : (zT 47)[9]? = some (17, z_zr) := rfl
theorem c48_0 : (zT 48)[0]? = some (0, z_il 1 1) := rfl
theorem c48_1 : (zT 48)[1]? = some (1, z_iflt 18) := rfl
theorem c48_4 : (zT 48)[2]? = some (4, z_il 1 1) := rfl
theorem c48_5 : (zT 48)[3]? = some (5, z_ic 1 1) := rfl
theorem c48_6 : (zT 48)[4]? = some (6, z_al 0 1) := rfl
theorem c48_7 : (zT 48)[5]? = some (7, z_gI 10 6) := rfl
theorem c48_10 : (zT 48)[6]? = some (10, z_ishl) := rfl
theorem c48_11 : (zT 48)[7]? = some (11, z_ige 18) := rfl
theorem c48_14 : (zT 48)[8]? = some (14, z_ic 1 1) := rfl
theorem c48_15 : (zT 48)[9]? = some (15, z_goto 19) := rfl
theorem c48_18 : (zT 48)[10]? = some (18, z_ic 0 1) := rfl
theorem c48_19 : (zT 48)[11]? = some (19, z_zr) := rfl
theorem c49_0 : (zT 49)[0]? = some (0, z_il 1 1) := rfl
theorem c49_1 : (zT 49)[1]? = some (1, z_ic 0 1) := rfl
theorem c49_2 : (zT 49)[2]? = some (2, z_ic 4 1) := rfl
theorem c49_3 : (zT 49)[3]? = some (3, z_cS 100 3 3) := rfl
theorem c49_6 : (zT 49)[4]? = some (6, z_ifeq 26) := rfl
theorem c49_9 : (zT 49)[5]? = some (9, z_il 2 1) := rfl
theorem c49_10 : (zT 49)[6]? = some (10, z_iflt 26) := rfl
theorem c49_13 : (zT 49)[7]? = some (13, z_il 2 1) := rfl
theorem c49_14 : (zT 49)[8]? = some (14, z_al 0 1) := rfl
theorem c49_15 : (zT 49)[9]? = some (15, z_il 1 1) := rfl
theorem c49_16 : (zT 49)[10]? = some (16, z_cV 10 50 2 1) := rfl
theorem c49_19 : (zT 49)[11]? = some (19, z_ige 26) := rfl
theorem c49_22 : (zT 49)[12]? = some (22, z_ic 1 1) := rfl
theorem c49_23 : (zT 49)[13]? = some (23, z_goto 27) := rfl
theorem c49_26 : (zT 49)[14]? = some (26, z_ic 0 1) := rfl
theorem c49_27 : (zT 49)[15]? = some (27, z_zr) := rfl
theorem c50_0 : (zT 50)[0]? = some (0, z_il 1 1) := rfl
theorem c50_1 : (zT 50)[1]? = some (1, z_ifne 6) := rfl
theorem c50_4 : (zT 50)[2]? = some (4, z_ic 1 1) := rfl
theorem c50_5 : (zT 50)[3]? = some (5, z_ir) := rfl
theorem c50_6 : (zT 50)[4]? = some (6, z_il 1 1) := rfl
theorem c50_7 : (zT 50)[5]? = some (7, z_ic 3 1) := rfl
theorem c50_8 : (zT 50)[6]? = some (8, z_ine 18) := rfl
theorem c50_11 : (zT 50)[7]? = some (11, z_al 0 1) := rfl
theorem c50_12 : (zT 50)[8]? = some (12, z_gI 10 6) := rfl
theorem c50_15 : (zT 50)[9]? = some (15, z_goto 22) := rfl
theorem c50_18 : (zT 50)[10]? = some (18, z_al 0 1) := rfl
theorem c50_19 : (zT 50)[11]? = some (19, z_gI 10 5) := rfl
theorem c50_22 : (zT 50)[12]? = some (22, z_ir) := rfl
theorem c51_0 : (zT 51)[0]? = some (0, z_al 0 1) := rfl
theorem c51_1 : (zT 51)[1]? = some (1, z_gI 10 5) := rfl
theorem c51_4 : (zT 51)[2]? = some (4, z_ic 6 2) := rfl
theorem c51_6 : (zT 51)[3]? = some (6, z_ige 29) := rfl
theorem c51_9 : (zT 51)[4]? = some (9, z_il 1 1) := rfl
theorem c51_10 : (zT 51)[5]? = some (10, z_ic 1 1) := rfl
theorem c51_11 : (zT 51)[6]? = some (11, z_ic 50 2) := rfl
theorem c51_13 : (zT 51)[7]? = some (13, z_cS 100 3 3) := rfl
theorem c51_16 : (zT 51)[8]? = some (16, z_ifeq 29) := rfl
theorem c51_19 : (zT 51)[9]? = some (19, z_il 2 1) := rfl
theorem c51_20 : (zT 51)[10]? = some (20, z_ic 1 1) := rfl
theorem c51_21 : (zT 51)[11]? = some (21, z_ic 99 2) := rfl
theorem c51_23 : (zT 51)[12]? = some (23, z_cS 100 3 3) := rfl
theorem c51_26 : (zT 51)[13]? = some (26, z_ifne 31) := rfl
theorem c51_29 : (zT 51)[14]? = some (29, z_ic 0 1) := rfl
theorem c51_30 : (zT 51)[15]? = some (30, z_zr) := rfl
theorem c51_31 : (zT 51)[16]? = some (31, z_al 0 1) := rfl
theorem c51_32 : (zT 51)[17]? = some (32, z_gR 10 0) := rfl
theorem c51_35 : (zT 51)[18]? = some (35, z_al 0 1) := rfl
theorem c51_36 : (zT 51)[19]? = some (36, z_gI 10 5) := rfl
theorem c51_39 : (zT 51)[20]? = some (39, z_aald 24) := rfl
theorem c51_40 : (zT 51)[21]? = some (40, z_as 3 1) := rfl
theorem c51_41 : (zT 51)[22]? = some (41, z_al 3 1) := rfl
theorem c51_42 : (zT 51)[23]? = some (42, z_il 1 1) := rfl
theorem c51_43 : (zT 51)[24]? = some (43, z_pI 7 1) := rfl
theorem c51_46 : (zT 51)[25]? = some (46, z_al 3 1) := rfl
theorem c51_47 : (zT 51)[26]? = some (47, z_il 2 1) := rfl
theorem c51_48 : (zT 51)[27]? = some (48, z_pI 7 2) := rfl
theorem c51_51 : (zT 51)[28]? = some (51, z_ic 0 1) := rfl
theorem c51_52 : (zT 51)[29]? = some (52, z_is 4 2) := rfl
theorem c51_54 : (zT 51)[30]? = some (54, z_il 4 2) := rfl
theorem c51_56 : (zT 51)[31]? = some (56, z_ic 3 1) := rfl
theorem c51_57 : (zT 51)[32]? = some (57, z_ige 74) := rfl
theorem c51_60 : (zT 51)[33]? = some (60, z_al 3 1) := rfl
theorem c51_61 : (zT 51)[34]? = some (61, z_gR 7 0) := rfl
theorem c51_64 : (zT 51)[35]? = some (64, z_il 4 2) := rfl
theorem c51_66 : (zT 51)[36]? = some (66, z_ic 0 1) := rfl
theorem c51_67 : (zT 51)[37]? = some (67, z_iast) := rfl
theorem c51_68 : (zT 51)[38]? = some (68, z_inc 4 1) := rfl
theorem c51_71 : (zT 51)[39]? = some (71, z_goto 54) := rfl
theorem c51_74 : (zT 51)[40]? = some (74, z_al 0 1) := rfl
theorem c51_75 : (zT 51)[41]? = some (75, z_dup) := rfl
theorem c51_76 : (zT 51)[42]? = some (76, z_gI 10 5) := rfl
theorem c51_79 : (zT 51)[43]? = some (79, z_ic 1 1) := rfl
theorem c51_80 : (zT 51)[44]? = some (80, z_iadd) := rfl
theorem c51_81 : (zT 51)[45]? = some (81, z_pI 10 5) := rfl
theorem c51_84 : (zT 51)[46]? = some (84, z_ic 1 1) := rfl
theorem c51_85 : (zT 51)[47]? = some (85, z_zr) := rfl
theorem c52_0 : (zT 52)[0]? = some (0, z_al 0 1) := rfl
theorem c52_1 : (zT 52)[1]? = some (1, z_gI 10 6) := rfl
theorem c52_4 : (zT 52)[2]? = some (4, z_ic 8 2) := rfl
theorem c52_6 : (zT 52)[3]? = some (6, z_ige 58) := rfl
theorem c52_9 : (zT 52)[4]? = some (9, z_al 0 1) := rfl
theorem c52_10 : (zT 52)[5]? = some (10, z_il 1 1) := rfl
theorem c52_11 : (zT 52)[6]? = some (11, z_cV 10 46 2 1) := rfl
theorem c52_14 : (zT 52)[7]? = some (14, z_ifeq 58) := rfl
theorem c52_17 : (zT 52)[8]? = some (17, z_il 2 1) := rfl
theorem c52_18 : (zT 52)[9]? = some (18, z_ic 0 1) := rfl
theorem c52_19 : (zT 52)[10]? = some (19, z_ic 4 1) := rfl
theorem c52_20 : (zT 52)[11]? = some (20, z_cS 100 3 3) := rfl
theorem c52_23 : (zT 52)[12]? = some (23, z_ifeq 58) := rfl
theorem c52_26 : (zT 52)[13]? = some (26, z_il 3 1) := rfl
theorem c52_27 : (zT 52)[14]? = some (27, z_ic 0 1) := rfl
theorem c52_28 : (zT 52)[15]? = some (28, z_ic 99 2) := rfl
theorem c52_30 : (zT 52)[16]? = some (30, z_cS 100 3 3) := rfl
theorem c52_33 : (zT 52)[17]? = some (33, z_ifeq 58) := rfl
theorem c52_36 : (zT 52)[18]? = some (36, z_il 4 2) := rfl
theorem c52_38 : (zT 52)[19]? = some (38, z_ic 0 1) := rfl
theorem c52_39 : (zT 52)[20]? = some (39, z_ic 9 2) := rfl
theorem c52_41 : (zT 52)[21]? = some (41, z_cS 100 3 3) := rfl
theorem c52_44 : (zT 52)[22]? = some (44, z_ifeq 58) := rfl
theorem c52_47 : (zT 52)[23]? = some (47, z_il 5 2) := rfl
theorem c52_49 : (zT 52)[24]? = some (49, z_ic 0 1) := rfl
theorem c52_50 : (zT 52)[25]? = some (50, z_ic 30 2) := rfl
theorem c52_52 : (zT 52)[26]? = some (52, z_cS 100 3 3) := rfl
theorem c52_55 : (zT 52)[27]? = some (55, z_ifne 60) := rfl
theorem c52_58 : (zT 52)[28]? = some (58, z_ic 0 1) := rfl
theorem c52_59 : (zT 52)[29]? = some (59, z_zr) := rfl
theorem c52_60 : (zT 52)[30]? = some (60, z_al 0 1) := rfl
theorem c52_61 : (zT 52)[31]? = some (61, z_gR 10 1) := rfl
theorem c52_64 : (zT 52)[32]? = some (64, z_al 0 1) := rfl
theorem c52_65 : (zT 52)[33]? = some (65, z_gI 10 6) := rfl
theorem c52_68 : (zT 52)[34]? = some (68, z_aald 25) := rfl
theorem c52_69 : (zT 52)[35]? = some (69, z_as 6 2) := rfl
theorem c52_71 : (zT 52)[36]? = some (71, z_al 6 2) := rfl
theorem c52_73 : (zT 52)[37]? = some (73, z_il 1 1) := rfl
theorem c52_74 : (zT 52)[38]? = some (74, z_pI 3 1) := rfl
theorem c52_77 : (zT 52)[39]? = some (77, z_al 6 2) := rfl
theorem c52_79 : (zT 52)[40]? = some (79, z_il 2 1) := rfl
theorem c52_80 : (zT 52)[41]? = some (80, z_pI 3 2) := rfl
theorem c52_83 : (zT 52)[42]? = some (83, z_al 6 2) := rfl
theorem c52_85 : (zT 52)[43]? = some (85, z_il 3 1) := rfl
theorem c52_86 : (zT 52)[44]? = some (86, z_pI 3 3) := rfl
theorem c52_89 : (zT 52)[45]? = some (89, z_al 6 2) := rfl
theorem c52_91 : (zT 52)[46]? = some (91, z_il 4 2) := rfl
theorem c52_93 : (zT 52)[47]? = some (93, z_pI 3 4) := rfl
theorem c52_96 : (zT 52)[48]? = some (96, z_al 6 2) := rfl
theorem c52_98 : (zT 52)[49]? = some (98, z_il 5 2) := rfl
theorem c52_100 : (zT 52)[50]? = some (100, z_pI 3 5) := rfl
theorem c52_103 : (zT 52)[51]? = some (103, z_al 6 2) := rfl
theorem c52_105 : (zT 52)[52]? = some (105, z_ic 10 2) := rfl
theorem c52_107 : (zT 52)[53]? = some (107, z_pI 3 6) := rfl
theorem c52_110 : (zT 52)[54]? = some (110, z_al 6 2) := rfl
theorem c52_112 : (zT 52)[55]? = some (112, z_ic 0 1) := rfl
theorem c52_113 : (zT 52)[56]? = some (113, z_pI 3 7) := rfl
theorem c52_116 : (zT 52)[57]? = some (116, z_al 6 2) := rfl
theorem c52_118 : (zT 52)[58]? = some (118, z_ic 1 1) := rfl
theorem c52_119 : (zT 52)[59]? = some (119, z_pI 3 8) := rfl
theorem c52_122 : (zT 52)[60]? = some (122, z_ic 0 1) := rfl
theorem c52_123 : (zT 52)[61]? = some (123, z_is 7 2) := rfl
theorem c52_125 : (zT 52)[62]? = some (125, z_il 7 2) := rfl
theorem c52_127 : (zT 52)[63]? = some (127, z_ic 3 1) := rfl
theorem c52_128 : (zT 52)[64]? = some (128, z_ige 146) := rfl
theorem c52_131 : (zT 52)[65]? = some (131, z_al 6 2) := rfl
theorem c52_133 : (zT 52)[66]? = some (133, z_gR 3 0) := rfl
theorem c52_136 : (zT 52)[67]? = some (136, z_il 7 2) := rfl
theorem c52_138 : (zT 52)[68]? = some (138, z_ic 0 1) := rfl
theorem c52_139 : (zT 52)[69]? = some (139, z_iast) := rfl
theorem c52_140 : (zT 52)[70]? = some (140, z_inc 7 1) := rfl
theorem c52_143 : (zT 52)[71]? = some (143, z_goto 125) := rfl
theorem c52_146 : (zT 52)[72]? = some (146, z_al 0 1) := rfl
theorem c52_147 : (zT 52)[73]? = some (147, z_dup) := rfl
theorem c52_148 : (zT 52)[74]? = some (148, z_gI 10 6) := rfl
theorem c52_151 : (zT 52)[75]? = some (151, z_ic 1 1) := rfl
theorem c52_152 : (zT 52)[76]? = some (152, z_iadd) := rfl
theorem c52_153 : (zT 52)[77]? = some (153, z_pI 10 6) := rfl
theorem c52_156 : (zT 52)[78]? = some (156, z_ic 1 1) := rfl
theorem c52_157 : (zT 52)[79]? = some (157, z_zr) := rfl
theorem c53_0 : (zT 53)[0]? = some (0, z_al 0 1) := rfl
theorem c53_1 : (zT 53)[1]? = some (1, z_gI 10 8) := rfl
theorem c53_4 : (zT 53)[2]? = some (4, z_ic 16 2) := rfl
theorem c53_6 : (zT 53)[3]? = some (6, z_ige 35) := rfl
theorem c53_9 : (zT 53)[4]? = some (9, z_al 0 1) := rfl
theorem c53_10 : (zT 53)[5]? = some (10, z_il 1 1) := rfl
theorem c53_11 : (zT 53)[6]? = some (11, z_cV 10 47 2 1) := rfl
theorem c53_14 : (zT 53)[7]? = some (14, z_ifeq 35) := rfl
theorem c53_17 : (zT 53)[8]? = some (17, z_il 2 1) := rfl
theorem c53_18 : (zT 53)[9]? = some (18, z_cS 101 1 1) := rfl
theorem c53_21 : (zT 53)[10]? = some (21, z_ifeq 35) := rfl
theorem c53_24 : (zT 53)[11]? = some (24, z_il 3 1) := rfl
theorem c53_25 : (zT 53)[12]? = some (25, z_ic (-50) 2) := rfl
theorem c53_27 : (zT 53)[13]? = some (27, z_ic 50 2) := rfl
theorem c53_29 : (zT 53)[14]? = some (29, z_cS 100 3 3) := rfl
theorem c53_32 : (zT 53)[15]? = some (32, z_ifne 37) := rfl
theorem c53_35 : (zT 53)[16]? = some (35, z_ic 0 1) := rfl
theorem c53_36 : (zT 53)[17]? = some (36, z_zr) := rfl
theorem c53_37 : (zT 53)[18]? = some (37, z_al 0 1) := rfl
theorem c53_38 : (zT 53)[19]? = some (38, z_gR 10 1) := rfl
theorem c53_41 : (zT 53)[20]? = some (41, z_il 1 1) := rfl
theorem c53_42 : (zT 53)[21]? = some (42, z_aald 25) := rfl
theorem c53_43 : (zT 53)[22]? = some (43, z_gR 3 0) := rfl
theorem c53_46 : (zT 53)[23]? = some (46, z_il 2 1) := rfl
theorem c53_47 : (zT 53)[24]? = some (47, z_dup2) := rfl
theorem c53_48 : (zT 53)[25]? = some (48, z_iald 20) := rfl
theorem c53_49 : (zT 53)[26]? = some (49, z_il 3 1) := rfl
theorem c53_50 : (zT 53)[27]? = some (50, z_iadd) := rfl
theorem c53_51 : (zT 53)[28]? = some (51, z_iast) := rfl
theorem c53_52 : (zT 53)[29]? = some (52, z_al 0 1) := rfl
theorem c53_53 : (zT 53)[30]? = some (53, z_dup) := rfl
theorem c53_54 : (zT 53)[31]? = some (54, z_gI 10 8) := rfl
theorem c53_57 : (zT 53)[32]? = some (57, z_ic 1 1) := rfl
theorem c53_58 : (zT 53)[33]? = some (58, z_iadd) := rfl
theorem c53_59 : (zT 53)[34]? = some (59, z_pI 10 8) := rfl
theorem c53_62 : (zT 53)[35]? = some (62, z_ic 1 1) := rfl
theorem c53_63 : (zT 53)[36]? = some (63, z_zr) := rfl
theorem c54_0 : (zT 54)[0]? = some (0, z_al 0 1) := rfl
theorem c54_1 : (zT 54)[1]? = some (1, z_gI 10 9) := rfl
theorem c54_4 : (zT 54)[2]? = some (4, z_ic 6 2) := rfl
theorem c54_6 : (zT 54)[3]? = some (6, z_ige 35) := rfl
theorem c54_9 : (zT 54)[4]? = some (9, z_al 0 1) := rfl
theorem c54_10 : (zT 54)[5]? = some (10, z_il 1 1) := rfl
theorem c54_11 : (zT 54)[6]? = some (11, z_cV 10 46 2 1) := rfl
theorem c54_14 : (zT 54)[7]? = some (14, z_ifeq 35) := rfl
theorem c54_17 : (zT 54)[8]? = some (17, z_il 2 1) := rfl
theorem c54_18 : (zT 54)[9]? = some (18, z_cS 101 1 1) := rfl
theorem c54_21 : (zT 54)[10]? = some (21, z_ifeq 35) := rfl
theorem c54_24 : (zT 54)[11]? = some (24, z_il 3 1) := rfl
theorem c54_25 : (zT 54)[12]? = some (25, z_ic (-50) 2) := rfl
theorem c54_27 : (zT 54)[13]? = some (27, z_ic 50 2) := rfl
theorem c54_29 : (zT 54)[14]? = some (29, z_cS 100 3 3) := rfl
theorem c54_32 : (zT 54)[15]? = some (32, z_ifne 37) := rfl
theorem c54_35 : (zT 54)[16]? = some (35, z_ic 0 1) := rfl
theorem c54_36 : (zT 54)[17]? = some (36, z_zr) := rfl
theorem c54_37 : (zT 54)[18]? = some (37, z_al 0 1) := rfl
theorem c54_38 : (zT 54)[19]? = some (38, z_gR 10 0) := rfl
theorem c54_41 : (zT 54)[20]? = some (41, z_il 1 1) := rfl
theorem c54_42 : (zT 54)[21]? = some (42, z_aald 24) := rfl
theorem c54_43 : (zT 54)[22]? = some (43, z_gR 7 0) := rfl
theorem c54_46 : (zT 54)[23]? = some (46, z_il 2 1) := rfl
theorem c54_47 : (zT 54)[24]? = some (47, z_dup2) := rfl
theorem c54_48 : (zT 54)[25]? = some (48, z_iald 20) := rfl
theorem c54_49 : (zT 54)[26]? = some (49, z_il 3 1) := rfl
theorem c54_50 : (zT 54)[27]? = some (50, z_iadd) := rfl
theorem c54_51 : (zT 54)[28]? = some (51, z_iast) := rfl
theorem c54_52 : (zT 54)[29]? = some (52, z_al 0 1) := rfl
theorem c54_53 : (zT 54)[30]? = some (53, z_dup) := rfl
theorem c54_54 : (zT 54)[31]? = some (54, z_gI 10 9) := rfl
theorem c54_57 : (zT 54)[32]? = some (57, z_ic 1 1) := rfl
theorem c54_58 : (zT 54)[33]? = some (58, z_iadd) := rfl
theorem c54_59 : (zT 54)[34]? = some (59, z_pI 10 9) := rfl
theorem c54_62 : (zT 54)[35]? = some (62, z_ic 1 1) := rfl
theorem c54_63 : (zT 54)[36]? = some (63, z_zr) := rfl
theorem c55_0 : (zT 55)[0]? = some (0, z_al 0 1) := rfl
theorem c55_1 : (zT 55)[1]? = some (1, z_il 1 1) := rfl
theorem c55_2 : (zT 55)[2]? = some (2, z_cV 10 47 2 1) := rfl
theorem c55_5 : (zT 55)[3]? = some (5, z_ifeq 18) := rfl
theorem c55_8 : (zT 55)[4]? = some (8, z_il 2 1) := rfl
theorem c55_9 : (zT 55)[5]? = some (9, z_ic 1 1) := rfl
theorem c55_10 : (zT 55)[6]? = some (10, z_ic 99 2) := rfl
theorem c55_12 : (zT 55)[7]? = some (12, z_cS 100 3 3) := rfl
theorem c55_15 : (zT 55)[8]? = some (15, z_ifne 20) := rfl
theorem c55_18 : (zT 55)[9]? = some (18, z_ic 0 1) := rfl
theorem c55_19 : (zT 55)[10]? = some (19, z_zr) := rfl
theorem c55_20 : (zT 55)[11]? = some (20, z_al 0 1) := rfl
theorem c55_21 : (zT 55)[12]? = some (21, z_gR 10 1) := rfl
theorem c55_24 : (zT 55)[13]? = some (24, z_il 1 1) := rfl
theorem c55_25 : (zT 55)[14]? = some (25, z_aald 25) := rfl
theorem c55_26 : (zT 55)[15]? = some (26, z_il 2 1) := rfl
theorem c55_27 : (zT 55)[16]? = some (27, z_pI 3 6) := rfl
theorem c55_30 : (zT 55)[17]? = some (30, z_ic 1 1) := rfl
theorem c55_31 : (zT 55)[18]? = some (31, z_zr) := rfl
theorem c56_0 : (zT 56)[0]? = some (0, z_al 0 1) := rfl
theorem c56_1 : (zT 56)[1]? = some (1, z_gI 10 7) := rfl
theorem c56_4 : (zT 56)[2]? = some (4, z_ic 6 2) := rfl
theorem c56_6 : (zT 56)[3]? = some (6, z_ige 37) := rfl
theorem c56_9 : (zT 56)[4]? = some (9, z_al 0 1) := rfl
theorem c56_10 : (zT 56)[5]? = some (10, z_il 1 1) := rfl
theorem c56_11 : (zT 56)[6]? = some (11, z_cV 10 46 2 1) := rfl
theorem c56_14 : (zT 56)[7]? = some (14, z_ifeq 37) := rfl
theorem c56_17 : (zT 56)[8]? = some (17, z_il 2 1) := rfl
theorem c56_18 : (zT 56)[9]? = some (18, z_cS 101 1 1) := rfl
theorem c56_21 : (zT 56)[10]? = some (21, z_ifeq 37) := rfl
theorem c56_24 : (zT 56)[11]? = some (24, z_il 3 1) := rfl
theorem c56_25 : (zT 56)[12]? = some (25, z_ic (-200) 3) := rfl
theorem c56_28 : (zT 56)[13]? = some (28, z_ic 200 3) := rfl
theorem c56_31 : (zT 56)[14]? = some (31, z_cS 100 3 3) := rfl
theorem c56_34 : (zT 56)[15]? = some (34, z_ifne 39) := rfl
theorem c56_37 : (zT 56)[16]? = some (37, z_ic 0 1) := rfl
theorem c56_38 : (zT 56)[17]? = some (38, z_zr) := rfl
theorem c56_39 : (zT 56)[18]? = some (39, z_al 0 1) := rfl
theorem c56_40 : (zT 56)[19]? = some (40, z_gR 10 2) := rfl
theorem c56_43 : (zT 56)[20]? = some (43, z_al 0 1) := rfl
theorem c56_44 : (zT 56)[21]? = some (44, z_gI 10 7) := rfl
theorem c56_47 : (zT 56)[22]? = some (47, z_aald 26) := rfl
theorem c56_48 : (zT 56)[23]? = some (48, z_as 4 2) := rfl
theorem c56_50 : (zT 56)[24]? = some (50, z_al 4 2) := rfl
theorem c56_52 : (zT 56)[25]? = some (52, z_il 1 1) := rfl
theorem c56_53 : (zT 56)[26]? = some (53, z_pI 9 0) := rfl
theorem c56_56 : (zT 56)[27]? = some (56, z_al 4 2) := rfl
theorem c56_58 : (zT 56)[28]? = some (58, z_il 2 1) := rfl
theorem c56_59 : (zT 56)[29]? = some (59, z_pI 9 1) := rfl
theorem c56_62 : (zT 56)[30]? = some (62, z_al 4 2) := rfl
theorem c56_64 : (zT 56)[31]? = some (64, z_il 3 1) := rfl
theorem c56_65 : (zT 56)[32]? = some (65, z_pI 9 2) := rfl
theorem c56_68 : (zT 56)[33]? = some (68, z_al 0 1) := rfl
theorem c56_69 : (zT 56)[34]? = some (69, z_dup) := rfl
theorem c56_70 : (zT 56)[35]? = some (70, z_gI 10 7) := rfl
theorem c56_73 : (zT 56)[36]? = some (73, z_ic 1 1) := rfl
theorem c56_74 : (zT 56)[37]? = some (74, z_iadd) := rfl
theorem c56_75 : (zT 56)[38]? = some (75, z_pI 10 7) := rfl
theorem c56_78 : (zT 56)[39]? = some (78, z_ic 1 1) := rfl
theorem c56_79 : (zT 56)[40]? = some (79, z_zr) := rfl
theorem c57_0 : (zT 57)[0]? = some (0, z_il 1 1) := rfl
theorem c57_1 : (zT 57)[1]? = some (1, z_cS 101 1 1) := rfl
theorem c57_4 : (zT 57)[2]? = some (4, z_ifeq 18) := rfl
theorem c57_7 : (zT 57)[3]? = some (7, z_il 2 1) := rfl
theorem c57_8 : (zT 57)[4]? = some (8, z_ic 0 1) := rfl
theorem c57_9 : (zT 57)[5]? = some (9, z_ic 999 3) := rfl
theorem c57_12 : (zT 57)[6]? = some (12, z_cS 100 3 3) := rfl
theorem c57_15 : (zT 57)[7]? = some (15, z_ifne 20) := rfl
theorem c57_18 : (zT 57)[8]? = some (18, z_ic 0 1) := rfl
theorem c57_19 : (zT 57)[9]? = some (19, z_zr) := rfl
theorem c57_20 : (zT 57)[10]? = some (20, z_al 0 1) := rfl
theorem c57_21 : (zT 57)[11]? = some (21, z_gR 10 3) := rfl
theorem c57_24 : (zT 57)[12]? = some (24, z_il 1 1) := rfl
theorem c57_25 : (zT 57)[13]? = some (25, z_il 2 1) := rfl
theorem c57_26 : (zT 57)[14]? = some (26, z_iast) := rfl
theorem c57_27 : (zT 57)[15]? = some (27, z_ic 1 1) := rfl
theorem c57_28 : (zT 57)[16]? = some (28, z_zr) := rfl
theorem c58_0 : (zT 58)[0]? = some (0, z_il 1 1) := rfl
theorem c58_1 : (zT 58)[1]? = some (1, z_ic 0 1) := rfl
theorem c58_2 : (zT 58)[2]? = some (2, z_ic 4 1) := rfl
theorem c58_3 : (zT 58)[3]? = some (3, z_cS 100 3 3) := rfl
theorem c58_6 : (zT 58)[4]? = some (6, z_ifeq 19) := rfl
theorem c58_9 : (zT 58)[5]? = some (9, z_il 2 1) := rfl
theorem c58_10 : (zT 58)[6]? = some (10, z_ic 0 1) := rfl
theorem c58_11 : (zT 58)[7]? = some (11, z_ic 50 2) := rfl
theorem c58_13 : (zT 58)[8]? = some (13, z_cS 100 3 3) := rfl
theorem c58_16 : (zT 58)[9]? = some (16, z_ifne 21) := rfl
theorem c58_19 : (zT 58)[10]? = some (19, z_ic 0 1) := rfl
theorem c58_20 : (zT 58)[11]? = some (20, z_zr) := rfl
theorem c58_21 : (zT 58)[12]? = some (21, z_al 0 1) := rfl
theorem c58_22 : (zT 58)[13]? = some (22, z_gR 10 4) := rfl
theorem c58_25 : (zT 58)[14]? = some (25, z_il 1 1) := rfl
theorem c58_26 : (zT 58)[15]? = some (26, z_il 2 1) := rfl
theorem c58_27 : (zT 58)[16]? = some (27, z_iast) := rfl
theorem c58_28 : (zT 58)[17]? = some (28, z_ic 1 1) := rfl
theorem c58_29 : (zT 58)[18]? = some (29, z_zr) := rfl
theorem c59_0 : (zT 59)[0]? = some (0, z_al 0 1) := rfl
theorem c59_1 : (zT 59)[1]? = some (1, z_il 1 1) := rfl
theorem c59_2 : (zT 59)[2]? = some (2, z_cV 10 47 2 1) := rfl
theorem c59_5 : (zT 59)[3]? = some (5, z_ifeq 29) := rfl
theorem c59_8 : (zT 59)[4]? = some (8, z_il 2 1) := rfl
theorem c59_9 : (zT 59)[5]? = some (9, z_ic 0 1) := rfl
theorem c59_10 : (zT 59)[6]? = some (10, z_ic 900 3) := rfl
theorem c59_13 : (zT 59)[7]? = some (13, z_cS 100 3 3) := rfl
theorem c59_16 : (zT 59)[8]? = some (16, z_ifeq 29) := rfl
theorem c59_19 : (zT 59)[9]? = some (19, z_il 3 1) := rfl
theorem c59_20 : (zT 59)[10]? = some (20, z_ic 1 1) := rfl
theorem c59_21 : (zT 59)[11]? = some (21, z_ic 99 2) := rfl
theorem c59_23 : (zT 59)[12]? = some (23, z_cS 100 3 3) := rfl
theorem c59_26 : (zT 59)[13]? = some (26, z_ifne 31) := rfl
theorem c59_29 : (zT 59)[14]? = some (29, z_ic 0 1) := rfl
theorem c59_30 : (zT 59)[15]? = some (30, z_zr) := rfl
theorem c59_31 : (zT 59)[16]? = some (31, z_al 0 1) := rfl
theorem c59_32 : (zT 59)[17]? = some (32, z_gR 10 1) := rfl
theorem c59_35 : (zT 59)[18]? = some (35, z_il 1 1) := rfl
theorem c59_36 : (zT 59)[19]? = some (36, z_aald 25) := rfl
theorem c59_37 : (zT 59)[20]? = some (37, z_il 2 1) := rfl
theorem c59_38 : (zT 59)[21]? = some (38, z_pI 3 7) := rfl
theorem c59_41 : (zT 59)[22]? = some (41, z_al 0 1) := rfl
theorem c59_42 : (zT 59)[23]? = some (42, z_gR 10 1) := rfl
theorem c59_45 : (zT 59)[24]? = some (45, z_il 1 1) := rfl
theorem c59_46 : (zT 59)[25]? = some (46, z_aald 25) := rfl
theorem c59_47 : (zT 59)[26]? = some (47, z_il 3 1) := rfl
theorem c59_48 : (zT 59)[27]? = some (48, z_pI 3 8) := rfl
theorem c59_51 : (zT 59)[28]? = some (51, z_ic 1 1) := rfl
theorem c59_52 : (zT 59)[29]? = some (52, z_zr) := rfl
theorem c60_0 : (zT 60)[0]? = some (0, z_il 1 1) := rfl
theorem c60_1 : (zT 60)[1]? = some (1, z_ic 1 1) := rfl
theorem c60_2 : (zT 60)[2]? = some (2, z_ine 19) := rfl
theorem c60_5 : (zT 60)[3]? = some (5, z_al 0 1) := rfl
theorem c60_6 : (zT 60)[4]? = some (6, z_il 2 1) := rfl
theorem c60_7 : (zT 60)[5]? = some (7, z_cV 10 61 5 1) := rfl
theorem c60_10 : (zT 60)[6]? = some (10, z_ifeq 17) := rfl
theorem c60_13 : (zT 60)[7]? = some (13, z_ic 1 1) := rfl
theorem c60_14 : (zT 60)[8]? = some (14, z_goto 18) := rfl
theorem c60_17 : (zT 60)[9]? = some (17, z_ic 0 1) := rfl
theorem c60_18 : (zT 60)[10]? = some (18, z_ir) := rfl
theorem c60_19 : (zT 60)[11]? = some (19, z_il 1 1) := rfl
theorem c60_20 : (zT 60)[12]? = some (20, z_ic 2 1) := rfl
theorem c60_21 : (zT 60)[13]? = some (21, z_ieq 29) := rfl
theorem c60_24 : (zT 60)[14]? = some (24, z_il 1 1) := rfl
theorem c60_25 : (zT 60)[15]? = some (25, z_ic 4 1) := rfl
theorem c60_26 : (zT 60)[16]? = some (26, z_ine 43) := rfl
theorem c60_29 : (zT 60)[17]? = some (29, z_al 0 1) := rfl
theorem c60_30 : (zT 60)[18]? = some (30, z_il 2 1) := rfl
theorem c60_31 : (zT 60)[19]? = some (31, z_cV 10 62 3 1) := rfl
theorem c60_34 : (zT 60)[20]? = some (34, z_ifeq 41) := rfl
theorem c60_37 : (zT 60)[21]? = some (37, z_ic 1 1) := rfl
theorem c60_38 : (zT 60)[22]? = some (38, z_goto 42) := rfl
theorem c60_41 : (zT 60)[23]? = some (41, z_ic 0 1) := rfl
theorem c60_42 : (zT 60)[24]? = some (42, z_ir) := rfl
theorem c60_43 : (zT 60)[25]? = some (43, z_ic 0 1) := rfl
theorem c60_44 : (zT 60)[26]? = some (44, z_ir) := rfl
theorem c61_0 : (zT 61)[0]? = some (0, z_al 0 1) := rfl
theorem c61_1 : (zT 61)[1]? = some (1, z_gI 10 5) := rfl
theorem c61_4 : (zT 61)[2]? = some (4, z_ic 1 1) := rfl
theorem c61_5 : (zT 61)[3]? = some (5, z_isub) := rfl
theorem c61_6 : (zT 61)[4]? = some (6, z_is 2 1) := rfl
theorem c61_7 : (zT 61)[5]? = some (7, z_il 2 1) := rfl
theorem c61_8 : (zT 61)[6]? = some (8, z_ifle 19) := rfl
theorem c61_11 : (zT 61)[7]? = some (11, z_al 0 1) := rfl
theorem c61_12 : (zT 61)[8]? = some (12, z_il 1 1) := rfl
theorem c61_13 : (zT 61)[9]? = some (13, z_cV 10 46 2 1) := rfl
theorem c61_16 : (zT 61)[10]? = some (16, z_ifne 21) := rfl
theorem c61_19 : (zT 61)[11]? = some (19, z_ic 0 1) := rfl
theorem c61_20 : (zT 61)[12]? = some (20, z_zr) := rfl
theorem c61_21 : (zT 61)[13]? = some (21, z_al 0 1) := rfl
theorem c61_22 : (zT 61)[14]? = some (22, z_gR 10 0) := rfl
theorem c61_25 : (zT 61)[15]? = some (25, z_il 1 1) := rfl
theorem c61_26 : (zT 61)[16]? = some (26, z_aald 24) := rfl
theorem c61_27 : (zT 61)[17]? = some (27, z_gI 7 1) := rfl
theorem c61_30 : (zT 61)[18]? = some (30, z_il 2 1) := rfl
theorem c61_31 : (zT 61)[19]? = some (31, z_idiv) := rfl
theorem c61_32 : (zT 61)[20]? = some (32, z_is 3 1) := rfl
theorem c61_33 : (zT 61)[21]? = some (33, z_ic 0 1) := rfl
theorem c61_34 : (zT 61)[22]? = some (34, z_is 4 2) := rfl
theorem c61_36 : (zT 61)[23]? = some (36, z_il 4 2) := rfl
theorem c61_38 : (zT 61)[24]? = some (38, z_al 0 1) := rfl
theorem c61_39 : (zT 61)[25]? = some (39, z_gI 10 5) := rfl
theorem c61_42 : (zT 61)[26]? = some (42, z_ige 84) := rfl
theorem c61_45 : (zT 61)[27]? = some (45, z_il 4 2) := rfl
theorem c61_47 : (zT 61)[28]? = some (47, z_il 1 1) := rfl
theorem c61_48 : (zT 61)[29]? = some (48, z_ieq 78) := rfl
theorem c61_51 : (zT 61)[30]? = some (51, z_al 0 1) := rfl
theorem c61_52 : (zT 61)[31]? = some (52, z_gR 10 0) := rfl
theorem c61_55 : (zT 61)[32]? = some (55, z_il 4 2) := rfl
theorem c61_57 : (zT 61)[33]? = some (57, z_aald 24) := rfl
theorem c61_58 : (zT 61)[34]? = some (58, z_gI 7 1) := rfl
theorem c61_61 : (zT 61)[35]? = some (61, z_il 3 1) := rfl
theorem c61_62 : (zT 61)[36]? = some (62, z_iadd) := rfl
theorem c61_63 : (zT 61)[37]? = some (63, z_al 0 1) := rfl
theorem c61_64 : (zT 61)[38]? = some (64, z_gR 10 0) := rfl
theorem c61_67 : (zT 61)[39]? = some (67, z_il 4 2) := rfl
theorem c61_69 : (zT 61)[40]? = some (69, z_aald 24) := rfl
theorem c61_70 : (zT 61)[41]? = some (70, z_gI 7 2) := rfl
theorem c61_73 : (zT 61)[42]? = some (73, z_ile 78) := rfl
theorem c61_76 : (zT 61)[43]? = some (76, z_ic 1 1) := rfl
theorem c61_77 : (zT 61)[44]? = some (77, z_zr) := rfl
theorem c61_78 : (zT 61)[45]? = some (78, z_inc 4 1) := rfl
theorem c61_81 : (zT 61)[46]? = some (81, z_goto 36) := rfl
theorem c61_84 : (zT 61)[47]? = some (84, z_ic 0 1) := rfl
theorem c61_85 : (zT 61)[48]? = some (85, z_zr) := rfl
theorem c62_0 : (zT 62)[0]? = some (0, z_ic 0 1) := rfl
theorem c62_1 : (zT 62)[1]? = some (1, z_is 2 1) := rfl
theorem c62_2 : (zT 62)[2]? = some (2, z_il 2 1) := rfl
theorem c62_3 : (zT 62)[3]? = some (3, z_al 0 1) := rfl
theorem c62_4 : (zT 62)[4]? = some (4, z_gI 10 6) := rfl
theorem c62_7 : (zT 62)[5]? = some (7, z_ige 46) := rfl
theorem c62_10 : (zT 62)[6]? = some (10, z_al 0 1) := rfl
theorem c62_11 : (zT 62)[7]? = some (11, z_gR 10 1) := rfl
theorem c62_14 : (zT 62)[8]? = some (14, z_il 2 1) := rfl
theorem c62_15 : (zT 62)[9]? = some (15, z_aald 25) := rfl
theorem c62_16 : (zT 62)[10]? = some (16, z_gI 3 1) := rfl
theorem c62_19 : (zT 62)[11]? = some (19, z_il 1 1) := rfl
theorem c62_20 : (zT 62)[12]? = some (20, z_ine 40) := rfl
theorem c62_23 : (zT 62)[13]? = some (23, z_al 0 1) := rfl
theorem c62_24 : (zT 62)[14]? = some (24, z_gR 10 1) := rfl
theorem c62_27 : (zT 62)[15]? = some (27, z_il 2 1) := rfl
theorem c62_28 : (zT 62)[16]? = some (28, z_aald 25) := rfl
theorem c62_29 : (zT 62)[17]? = some (29, z_gI 3 7) := rfl
theorem c62_32 : (zT 62)[18]? = some (32, z_ic 300 3) := rfl
theorem c62_35 : (zT 62)[19]? = some (35, z_ilt 40) := rfl
theorem c62_38 : (zT 62)[20]? = some (38, z_ic 1 1) := rfl
theorem c62_39 : (zT 62)[21]? = some (39, z_zr) := rfl
theorem c62_40 : (zT 62)[22]? = some (40, z_inc 2 1) := rfl
theorem c62_43 : (zT 62)[23]? = some (43, z_goto 2) := rfl
theorem c62_46 : (zT 62)[24]? = some (46, z_ic 0 1) := rfl
theorem c62_47 : (zT 62)[25]? = some (47, z_zr) := rfl
theorem c63_0 : (zT 63)[0]? = some (0, z_ic 0 1) := rfl
theorem c63_1 : (zT 63)[1]? = some (1, z_is 1 1) := rfl
theorem c63_2 : (zT 63)[2]? = some (2, z_ic 0 1) := rfl
theorem c63_3 : (zT 63)[3]? = some (3, z_is 2 1) := rfl
theorem c63_4 : (zT 63)[4]? = some (4, z_il 2 1) := rfl
theorem c63_5 : (zT 63)[5]? = some (5, z_al 0 1) := rfl
theorem c63_6 : (zT 63)[6]? = some (6, z_gI 10 6) := rfl
theorem c63_9 : (zT 63)[7]? = some (9, z_ige 32) := rfl
theorem c63_12 : (zT 63)[8]? = some (12, z_il 1 1) := rfl
theorem c63_13 : (zT 63)[9]? = some (13, z_al 0 1) := rfl
theorem c63_14 : (zT 63)[10]? = some (14, z_gR 10 1) := rfl
theorem c63_17 : (zT 63)[11]? = some (17, z_il 2 1) := rfl
theorem c63_18 : (zT 63)[12]? = some (18, z_aald 25) := rfl
theorem c63_19 : (zT 63)[13]? = some (19, z_cV 3 20 3 0) := rfl
theorem c63_22 : (zT 63)[14]? = some (22, z_mmax) := rfl
theorem c63_25 : (zT 63)[15]? = some (25, z_is 1 1) := rfl
theorem c63_26 : (zT 63)[16]? = some (26, z_inc 2 1) := rfl
theorem c63_29 : (zT 63)[17]? = some (29, z_goto 4) := rfl
theorem c63_32 : (zT 63)[18]? = some (32, z_il 1 1) := rfl
theorem c63_33 : (zT 63)[19]? = some (33, z_ic 999 3) := rfl
theorem c63_36 : (zT 63)[20]? = some (36, z_igt 43) := rfl
theorem c63_39 : (zT 63)[21]? = some (39, z_il 1 1) := rfl
theorem c63_40 : (zT 63)[22]? = some (40, z_goto 45) := rfl
theorem c63_43 : (zT 63)[23]? = some (43, z_ic (-4) 2) := rfl
theorem c63_45 : (zT 63)[24]? = some (45, z_ir) := rfl
theorem c64_0 : (zT 64)[0]? = some (0, z_lc 1 1) := rfl
theorem c64_1 : (zT 64)[1]? = some (1, z_ls 2 1) := rfl
theorem c64_2 : (zT 64)[2]? = some (2, z_ic 0 1) := rfl
theorem c64_3 : (zT 64)[3]? = some (3, z_is 4 2) := rfl
theorem c64_5 : (zT 64)[4]? = some (5, z_il 4 2) := rfl
theorem c64_7 : (zT 64)[5]? = some (7, z_al 0 1) := rfl
theorem c64_8 : (zT 64)[6]? = some (8, z_gI 10 6) := rfl
theorem c64_11 : (zT 64)[7]? = some (11, z_ige 56) := rfl
theorem c64_14 : (zT 64)[8]? = some (14, z_al 0 1) := rfl
theorem c64_15 : (zT 64)[9]? = some (15, z_gR 10 1) := rfl
theorem c64_18 : (zT 64)[10]? = some (18, z_il 4 2) := rfl
theorem c64_20 : (zT 64)[11]? = some (20, z_aald 25) := rfl
theorem c64_21 : (zT 64)[12]? = some (21, z_gI 3 4) := rfl
theorem c64_24 : (zT 64)[13]? = some (24, z_is 5 2) := rfl
theorem c64_26 : (zT 64)[14]? = some (26, z_ll 2 1) := rfl
theorem c64_27 : (zT 64)[15]? = some (27, z_il 1 1) := rfl
theorem c64_28 : (zT 64)[16]? = some (28, z_ic 1 1) := rfl
theorem c64_29 : (zT 64)[17]? = some (29, z_il 4 2) := rfl
theorem c64_31 : (zT 64)[18]? = some (31, z_ishl) := rfl
theorem c64_32 : (zT 64)[19]? = some (32, z_iand) := rfl
theorem c64_33 : (zT 64)[20]? = some (33, z_ifeq 42) := rfl
theorem c64_36 : (zT 64)[21]? = some (36, z_il 5 2) := rfl
theorem c64_38 : (zT 64)[22]? = some (38, z_i2l) := rfl
theorem c64_39 : (zT 64)[23]? = some (39, z_goto 48) := rfl
theorem c64_42 : (zT 64)[24]? = some (42, z_ic 10 2) := rfl
theorem c64_44 : (zT 64)[25]? = some (44, z_il 5 2) := rfl
theorem c64_46 : (zT 64)[26]? = some (46, z_isub) := rfl
theorem c64_47 : (zT 64)[27]? = some (47, z_i2l) := rfl
theorem c64_48 : (zT 64)[28]? = some (48, z_lmul) := rfl
theorem c64_49 : (zT 64)[29]? = some (49, z_ls 2 1) := rfl
theorem c64_50 : (zT 64)[30]? = some (50, z_inc 4 1) := rfl
theorem c64_53 : (zT 64)[31]? = some (53, z_goto 5) := rfl
theorem c64_56 : (zT 64)[32]? = some (56, z_ll 2 1) := rfl
theorem c64_57 : (zT 64)[33]? = some (57, z_lr) := rfl
theorem c65_0 : (zT 65)[0]? = some (0, z_ic 0 1) := rfl
theorem c65_1 : (zT 65)[1]? = some (1, z_is 2 1) := rfl
theorem c65_2 : (zT 65)[2]? = some (2, z_ic 0 1) := rfl
theorem c65_3 : (zT 65)[3]? = some (3, z_is 3 1) := rfl
theorem c65_4 : (zT 65)[4]? = some (4, z_il 3 1) := rfl
theorem c65_5 : (zT 65)[5]? = some (5, z_al 0 1) := rfl
theorem c65_6 : (zT 65)[6]? = some (6, z_gI 10 6) := rfl
theorem c65_9 : (zT 65)[7]? = some (9, z_ige 38) := rfl
theorem c65_12 : (zT 65)[8]? = some (12, z_il 1 1) := rfl
theorem c65_13 : (zT 65)[9]? = some (13, z_ic 1 1) := rfl
theorem c65_14 : (zT 65)[10]? = some (14, z_il 3 1) := rfl
theorem c65_15 : (zT 65)[11]? = some (15, z_ishl) := rfl
theorem c65_16 : (zT 65)[12]? = some (16, z_iand) := rfl
theorem c65_17 : (zT 65)[13]? = some (17, z_ifeq 32) := rfl
theorem c65_20 : (zT 65)[14]? = some (20, z_il 2 1) := rfl
theorem c65_21 : (zT 65)[15]? = some (21, z_al 0 1) := rfl
theorem c65_22 : (zT 65)[16]? = some (22, z_gR 10 1) := rfl
theorem c65_25 : (zT 65)[17]? = some (25, z_il 3 1) := rfl
theorem c65_26 : (zT 65)[18]? = some (26, z_aald 25) := rfl
theorem c65_27 : (zT 65)[19]? = some (27, z_gI 3 6) := rfl
theorem c65_30 : (zT 65)[20]? = some (30, z_iadd) := rfl
theorem c65_31 : (zT 65)[21]? = some (31, z_is 2 1) := rfl
theorem c65_32 : (zT 65)[22]? = some (32, z_inc 3 1) := rfl
theorem c65_35 : (zT 65)[23]? = some (35, z_goto 4) := rfl
theorem c65_38 : (zT 65)[24]? = some (38, z_il 2 1) := rfl
theorem c65_39 : (zT 65)[25]? = some (39, z_ir) := rfl
theorem c66_0 : (zT 66)[0]? = some (0, z_ic 0 1) := rfl
theorem c66_1 : (zT 66)[1]? = some (1, z_is 1 1) := rfl
theorem c66_2 : (zT 66)[2]? = some (2, z_ic 0 1) := rfl
theorem c66_3 : (zT 66)[3]? = some (3, z_is 2 1) := rfl
theorem c66_4 : (zT 66)[4]? = some (4, z_il 2 1) := rfl
theorem c66_5 : (zT 66)[5]? = some (5, z_al 0 1) := rfl
theorem c66_6 : (zT 66)[6]? = some (6, z_gI 10 7) := rfl
theorem c66_9 : (zT 66)[7]? = some (9, z_ige 45) := rfl
theorem c66_12 : (zT 66)[8]? = some (12, z_al 0 1) := rfl
theorem c66_13 : (zT 66)[9]? = some (13, z_al 0 1) := rfl
theorem c66_14 : (zT 66)[10]? = some (14, z_gR 10 2) := rfl
theorem c66_17 : (zT 66)[11]? = some (17, z_il 2 1) := rfl
theorem c66_18 : (zT 66)[12]? = some (18, z_aald 26) := rfl
theorem c66_19 : (zT 66)[13]? = some (19, z_cV 10 67 7 1) := rfl
theorem c66_22 : (zT 66)[14]? = some (22, z_ifeq 39) := rfl
theorem c66_25 : (zT 66)[15]? = some (25, z_il 1 1) := rfl
theorem c66_26 : (zT 66)[16]? = some (26, z_ic 1 1) := rfl
theorem c66_27 : (zT 66)[17]? = some (27, z_al 0 1) := rfl
theorem c66_28 : (zT 66)[18]? = some (28, z_gR 10 2) := rfl
theorem c66_31 : (zT 66)[19]? = some (31, z_il 2 1) := rfl
theorem c66_32 : (zT 66)[20]? = some (32, z_aald 26) := rfl
theorem c66_33 : (zT 66)[21]? = some (33, z_gI 9 1) := rfl
theorem c66_36 : (zT 66)[22]? = some (36, z_ishl) := rfl
theorem c66_37 : (zT 66)[23]? = some (37, z_ior) := rfl
theorem c66_38 : (zT 66)[24]? = some (38, z_is 1 1) := rfl
theorem c66_39 : (zT 66)[25]? = some (39, z_inc 2 1) := rfl
theorem c66_42 : (zT 66)[26]? = some (42, z_goto 4) := rfl
theorem c66_45 : (zT 66)[27]? = some (45, z_il 1 1) := rfl
theorem c66_46 : (zT 66)[28]? = some (46, z_ir) := rfl
theorem c67_0 : (zT 67)[0]? = some (0, z_al 1 1) := rfl
theorem c67_1 : (zT 67)[1]? = some (1, z_gI 9 2) := rfl
theorem c67_4 : (zT 67)[2]? = some (4, z_i2l) := rfl
theorem c67_5 : (zT 67)[3]? = some (5, z_ls 2 1) := rfl
theorem c67_6 : (zT 67)[4]? = some (6, z_lc 100 3) := rfl
theorem c67_9 : (zT 67)[5]? = some (9, z_ls 4 2) := rfl
theorem c67_11 : (zT 67)[6]? = some (11, z_al 1 1) := rfl
theorem c67_12 : (zT 67)[7]? = some (12, z_gI 9 0) := rfl
theorem c67_15 : (zT 67)[8]? = some (15, z_is 6 2) := rfl
theorem c67_17 : (zT 67)[9]? = some (17, z_il 6 2) := rfl
theorem c67_19 : (zT 67)[10]? = some (19, z_al 0 1) := rfl
theorem c67_20 : (zT 67)[11]? = some (20, z_gI 10 5) := rfl
theorem c67_23 : (zT 67)[12]? = some (23, z_ige 54) := rfl
theorem c67_26 : (zT 67)[13]? = some (26, z_ll 2 1) := rfl
theorem c67_27 : (zT 67)[14]? = some (27, z_al 0 1) := rfl
theorem c67_28 : (zT 67)[15]? = some (28, z_gR 10 0) := rfl
theorem c67_31 : (zT 67)[16]? = some (31, z_il 6 2) := rfl
theorem c67_33 : (zT 67)[17]? = some (33, z_aald 24) := rfl
theorem c67_34 : (zT 67)[18]? = some (34, z_gI 7 1) := rfl
theorem c67_37 : (zT 67)[19]? = some (37, z_i2l) := rfl
theorem c67_38 : (zT 67)[20]? = some (38, z_lmul) := rfl
theorem c67_39 : (zT 67)[21]? = some (39, z_ls 2 1) := rfl
theorem c67_40 : (zT 67)[22]? = some (40, z_ll 4 2) := rfl
theorem c67_42 : (zT 67)[23]? = some (42, z_lc 10 3) := rfl
theorem c67_45 : (zT 67)[24]? = some (45, z_lmul) := rfl
theorem c67_46 : (zT 67)[25]? = some (46, z_ls 4 2) := rfl
theorem c67_48 : (zT 67)[26]? = some (48, z_inc 6 1) := rfl
theorem c67_51 : (zT 67)[27]? = some (51, z_goto 17) := rfl
theorem c67_54 : (zT 67)[28]? = some (54, z_ll 2 1) := rfl
theorem c67_55 : (zT 67)[29]? = some (55, z_ll 4 2) := rfl
theorem c67_57 : (zT 67)[30]? = some (57, z_lcmp) := rfl
theorem c67_58 : (zT 67)[31]? = some (58, z_iflt 65) := rfl
theorem c67_61 : (zT 67)[32]? = some (61, z_ic 1 1) := rfl
theorem c67_62 : (zT 67)[33]? = some (62, z_goto 66) := rfl
theorem c67_65 : (zT 67)[34]? = some (65, z_ic 0 1) := rfl
theorem c67_66 : (zT 67)[35]? = some (66, z_zr) := rfl
theorem c68_0 : (zT 68)[0]? = some (0, z_al 0 1) := rfl
theorem c68_1 : (zT 68)[1]? = some (1, z_il 1 1) := rfl
theorem c68_2 : (zT 68)[2]? = some (2, z_cV 10 47 2 1) := rfl
theorem c68_5 : (zT 68)[3]? = some (5, z_ifeq 25) := rfl
theorem c68_8 : (zT 68)[4]? = some (8, z_al 0 1) := rfl
theorem c68_9 : (zT 68)[5]? = some (9, z_gR 10 1) := rfl
theorem c68_12 : (zT 68)[6]? = some (12, z_il 1 1) := rfl
theorem c68_13 : (zT 68)[7]? = some (13, z_aald 25) := rfl
theorem c68_14 : (zT 68)[8]? = some (14, z_gI 3 2) := rfl
theorem c68_17 : (zT 68)[9]? = some (17, z_ic 0 1) := rfl
theorem c68_18 : (zT 68)[10]? = some (18, z_ic 4 1) := rfl
theorem c68_19 : (zT 68)[11]? = some (19, z_cS 100 3 3) := rfl
theorem c68_22 : (zT 68)[12]? = some (22, z_ifne 27) := rfl
theorem c68_25 : (zT 68)[13]? = some (25, z_ic 0 1) := rfl
theorem c68_26 : (zT 68)[14]? = some (26, z_ir) := rfl
theorem c68_27 : (zT 68)[15]? = some (27, z_ic 1000000 2) := rfl
theorem c68_29 : (zT 68)[16]? = some (29, z_is 3 1) := rfl
theorem c68_30 : (zT 68)[17]? = some (30, z_al 0 1) := rfl
theorem c68_31 : (zT 68)[18]? = some (31, z_gR 10 1) := rfl
theorem c68_34 : (zT 68)[19]? = some (34, z_il 1 1) := rfl
theorem c68_35 : (zT 68)[20]? = some (35, z_aald 25) := rfl
theorem c68_36 : (zT 68)[21]? = some (36, z_gI 3 3) := rfl
theorem c68_39 : (zT 68)[22]? = some (39, z_is 4 2) := rfl
theorem c68_41 : (zT 68)[23]? = some (41, z_al 0 1) := rfl
theorem c68_42 : (zT 68)[24]? = some (42, z_gR 10 4) := rfl
theorem c68_45 : (zT 68)[25]? = some (45, z_al 0 1) := rfl
theorem c68_46 : (zT 68)[26]? = some (46, z_gR 10 1) := rfl
theorem c68_49 : (zT 68)[27]? = some (49, z_il 1 1) := rfl
theorem c68_50 : (zT 68)[28]? = some (50, z_aald 25) := rfl
theorem c68_51 : (zT 68)[29]? = some (51, z_gI 3 2) := rfl
theorem c68_54 : (zT 68)[30]? = some (54, z_iald 20) := rfl
theorem c68_55 : (zT 68)[31]? = some (55, z_is 5 2) := rfl
theorem c68_57 : (zT 68)[32]? = some (57, z_ic 0 1) := rfl
theorem c68_58 : (zT 68)[33]? = some (58, z_is 6 2) := rfl
theorem c68_60 : (zT 68)[34]? = some (60, z_il 6 2) := rfl
theorem c68_62 : (zT 68)[35]? = some (62, z_il 2 1) := rfl
theorem c68_63 : (zT 68)[36]? = some (63, z_ige 98) := rfl
theorem c68_66 : (zT 68)[37]? = some (66, z_il 3 1) := rfl
theorem c68_67 : (zT 68)[38]? = some (67, z_il 3 1) := rfl
theorem c68_68 : (zT 68)[39]? = some (68, z_ic 999 3) := rfl
theorem c68_71 : (zT 68)[40]? = some (71, z_il 5 2) := rfl
theorem c68_73 : (zT 68)[41]? = some (73, z_il 4 2) := rfl
theorem c68_75 : (zT 68)[42]? = some (75, z_imul) := rfl
theorem c68_76 : (zT 68)[43]? = some (76, z_ic 10 2) := rfl
theorem c68_78 : (zT 68)[44]? = some (78, z_idiv) := rfl
theorem c68_79 : (zT 68)[45]? = some (79, z_mmin) := rfl
theorem c68_82 : (zT 68)[46]? = some (82, z_imul) := rfl
theorem c68_83 : (zT 68)[47]? = some (83, z_ic 1000 3) := rfl
theorem c68_86 : (zT 68)[48]? = some (86, z_idiv) := rfl
theorem c68_87 : (zT 68)[49]? = some (87, z_isub) := rfl
theorem c68_88 : (zT 68)[50]? = some (88, z_is 3 1) := rfl
theorem c68_89 : (zT 68)[51]? = some (89, z_inc 4 1) := rfl
theorem c68_92 : (zT 68)[52]? = some (92, z_inc 6 1) := rfl
theorem c68_95 : (zT 68)[53]? = some (95, z_goto 60) := rfl
theorem c68_98 : (zT 68)[54]? = some (98, z_ic 1000000 2) := rfl
theorem c68_100 : (zT 68)[55]? = some (100, z_il 3 1) := rfl
theorem c68_101 : (zT 68)[56]? = some (101, z_isub) := rfl
theorem c68_102 : (zT 68)[57]? = some (102, z_ir) := rfl
theorem c70_0 : (zT 70)[0]? = some (0, z_il 1 1) := rfl
theorem c70_1 : (zT 70)[1]? = some (1, z_ic 1 1) := rfl
theorem c70_2 : (zT 70)[2]? = some (2, z_ic 8 2) := rfl
theorem c70_4 : (zT 70)[3]? = some (4, z_cS 100 3 3) := rfl
theorem c70_7 : (zT 70)[4]? = some (7, z_ifne 12) := rfl
theorem c70_10 : (zT 70)[5]? = some (10, z_ic (-1) 1) := rfl
theorem c70_11 : (zT 70)[6]? = some (11, z_ir) := rfl
theorem c70_12 : (zT 70)[7]? = some (12, z_al 0 1) := rfl
theorem c70_13 : (zT 70)[8]? = some (13, z_gR 11 0) := rfl
theorem c70_16 : (zT 70)[9]? = some (16, z_il 1 1) := rfl
theorem c70_17 : (zT 70)[10]? = some (17, z_cV 8 40 2 1) := rfl
theorem c70_20 : (zT 70)[11]? = some (20, z_ifne 26) := rfl
theorem c70_23 : (zT 70)[12]? = some (23, z_ic (-3) 2) := rfl
theorem c70_25 : (zT 70)[13]? = some (25, z_ir) := rfl
theorem c70_26 : (zT 70)[14]? = some (26, z_al 0 1) := rfl
theorem c70_27 : (zT 70)[15]? = some (27, z_gR 11 0) := rfl
theorem c70_30 : (zT 70)[16]? = some (30, z_il 1 1) := rfl
theorem c70_31 : (zT 70)[17]? = some (31, z_ll 2 1) := rfl
theorem c70_32 : (zT 70)[18]? = some (32, z_cV 8 41 5 2) := rfl
theorem c70_35 : (zT 70)[19]? = some (35, z_al 0 1) := rfl
theorem c70_36 : (zT 70)[20]? = some (36, z_gR 11 0) := rfl
theorem c70_39 : (zT 70)[21]? = some (39, z_gI 8 1) := rfl
theorem c70_42 : (zT 70)[22]? = some (42, z_ir) := rfl
theorem c71_0 : (zT 71)[0]? = some (0, z_al 0 1) := rfl
theorem c71_1 : (zT 71)[1]? = some (1, z_gR 11 0) := rfl
theorem c71_4 : (zT 71)[2]? = some (4, z_gI 8 1) := rfl
theorem c71_7 : (zT 71)[3]? = some (7, z_is 1 1) := rfl
theorem c71_8 : (zT 71)[4]? = some (8, z_al 0 1) := rfl
theorem c71_9 : (zT 71)[5]? = some (9, z_gR 11 0) := rfl
theorem c71_12 : (zT 71)[6]? = some (12, z_ic 0 1) := rfl
theorem c71_13 : (zT 71)[7]? = some (13, z_pI 8 1) := rfl
theorem c71_16 : (zT 71)[8]? = some (16, z_il 1 1) := rfl
theorem c71_17 : (zT 71)[9]? = some (17, z_ir) := rfl
theorem c72_0 : (zT 72)[0]? = some (0, z_al 0 1) := rfl
theorem c72_1 : (zT 72)[1]? = some (1, z_gR 11 1) := rfl
theorem c72_4 : (zT 72)[2]? = some (4, z_al 0 1) := rfl
theorem c72_5 : (zT 72)[3]? = some (5, z_gR 11 0) := rfl
theorem c72_8 : (zT 72)[4]? = some (8, z_al 0 1) := rfl
theorem c72_9 : (zT 72)[5]? = some (9, z_gR 11 10) := rfl
theorem c72_12 : (zT 72)[6]? = some (12, z_cV 5 28 5 2) := rfl
theorem c72_15 : (zT 72)[7]? = some (15, z_ir) := rfl
theorem c73_0 : (zT 73)[0]? = some (0, z_al 0 1) := rfl
theorem c73_1 : (zT 73)[1]? = some (1, z_gR 11 1) := rfl
theorem c73_4 : (zT 73)[2]? = some (4, z_al 0 1) := rfl
theorem c73_5 : (zT 73)[3]? = some (5, z_gR 11 0) := rfl
theorem c73_8 : (zT 73)[4]? = some (8, z_al 0 1) := rfl
theorem c73_9 : (zT 73)[5]? = some (9, z_gR 11 10) := rfl
theorem c73_12 : (zT 73)[6]? = some (12, z_cV 5 28 5 2) := rfl
theorem c73_15 : (zT 73)[7]? = some (15, z_ic (-4) 2) := rfl
theorem c73_17 : (zT 73)[8]? = some (17, z_ine 40) := rfl
theorem c73_20 : (zT 73)[9]? = some (20, z_al 0 1) := rfl
theorem c73_21 : (zT 73)[10]? = some (21, z_gR 11 10) := rfl
theorem c73_24 : (zT 73)[11]? = some (24, z_gI 10 5) := rfl
theorem c73_27 : (zT 73)[12]? = some (27, z_ifeq 40) := rfl
theorem c73_30 : (zT 73)[13]? = some (30, z_al 0 1) := rfl
theorem c73_31 : (zT 73)[14]? = some (31, z_gR 11 10) := rfl
theorem c73_34 : (zT 73)[15]? = some (34, z_gI 10 6) := rfl
theorem c73_37 : (zT 73)[16]? = some (37, z_ifne 43) := rfl
theorem c73_40 : (zT 73)[17]? = some (40, z_ic (-2) 2) := rfl
theorem c73_42 : (zT 73)[18]? = some (42, z_ir) := rfl
theorem c73_43 : (zT 73)[19]? = some (43, z_al 0 1) := rfl
theorem c73_44 : (zT 73)[20]? = some (44, z_gR 11 9) := rfl
theorem c73_47 : (zT 73)[21]? = some (47, z_as 1 1) := rfl
theorem c73_48 : (zT 73)[22]? = some (48, z_al 0 1) := rfl
theorem c73_49 : (zT 73)[23]? = some (49, z_al 0 1) := rfl
theorem c73_50 : (zT 73)[24]? = some (50, z_gR 11 10) := rfl
theorem c73_53 : (zT 73)[25]? = some (53, z_pR 11 9) := rfl
theorem c73_56 : (zT 73)[26]? = some (56, z_al 0 1) := rfl
theorem c73_57 : (zT 73)[27]? = some (57, z_al 1 1) := rfl
theorem c73_58 : (zT 73)[28]? = some (58, z_pR 11 10) := rfl
theorem c73_61 : (zT 73)[29]? = some (61, z_al 0 1) := rfl
theorem c73_62 : (zT 73)[30]? = some (62, z_gR 11 3) := rfl
theorem c73_65 : (zT 73)[31]? = some (65, z_ic 0 1) := rfl
theorem c73_66 : (zT 73)[32]? = some (66, z_pI 0 4) := rfl
theorem c73_69 : (zT 73)[33]? = some (69, z_al 0 1) := rfl
theorem c73_70 : (zT 73)[34]? = some (70, z_ic 0 1) := rfl
theorem c73_71 : (zT 73)[35]? = some (71, z_pI 11 11) := rfl
theorem c73_74 : (zT 73)[36]? = some (74, z_al 0 1) := rfl
theorem c73_75 : (zT 73)[37]? = some (75, z_gR 11 8) := rfl
theorem c73_78 : (zT 73)[38]? = some (78, z_al 0 1) := rfl
theorem c73_79 : (zT 73)[39]? = some (79, z_gR 11 9) := rfl
theorem c73_82 : (zT 73)[40]? = some (82, z_al 0 1) := rfl
theorem c73_83 : (zT 73)[41]? = some (83, z_gR 11 2) := rfl
theorem c73_86 : (zT 73)[42]? = some (86, z_cV 4 22 4 2) := rfl
theorem c73_89 : (zT 73)[43]? = some (89, z_al 0 1) := rfl
theorem c73_90 : (zT 73)[44]? = some (90, z_cV 11 98 2 0) := rfl
theorem c73_93 : (zT 73)[45]? = some (93, z_al 0 1) := rfl
theorem c73_94 : (zT 73)[46]? = some (94, z_gR 11 9) := rfl
theorem c73_97 : (zT 73)[47]? = some (97, z_gI 10 6) := rfl
theorem c73_100 : (zT 73)[48]? = some (100, z_ir) := rfl
theorem c74_0 : (zT 74)[0]? = some (0, z_al 0 1) := rfl
theorem c74_1 : (zT 74)[1]? = some (1, z_gR 11 9) := rfl
theorem c74_4 : (zT 74)[2]? = some (4, z_il 1 1) := rfl
theorem c74_5 : (zT 74)[3]? = some (5, z_cV 10 47 2 1) := rfl
theorem c74_8 : (zT 74)[4]? = some (8, z_ifne 13) := rfl
theorem c74_11 : (zT 74)[5]? = some (11, z_ic (-1) 1) := rfl
theorem c74_12 : (zT 74)[6]? = some (12, z_ir) := rfl
theorem c74_13 : (zT 74)[7]? = some (13, z_al 0 1) := rfl
theorem c74_14 : (zT 74)[8]? = some (14, z_gR 11 9) := rfl
theorem c74_17 : (zT 74)[9]? = some (17, z_gR 10 1) := rfl
theorem c74_20 : (zT 74)[10]? = some (20, z_il 1 1) := rfl
theorem c74_21 : (zT 74)[11]? = some (21, z_aald 25) := rfl
theorem c74_22 : (zT 74)[12]? = some (22, z_as 3 1) := rfl
theorem c74_23 : (zT 74)[13]? = some (23, z_il 2 1) := rfl
theorem c74_24 : (zT 74)[14]? = some (24, z_sw 94 [(0, 64), (1, 69), (2, 74), (3, 79), (4, 84), (5, 89)]) := rfl
theorem c74_64 : (zT 74)[15]? = some (64, z_al 3 1) := rfl
theorem c74_65 : (zT 74)[16]? = some (65, z_gI 3 1) := rfl
theorem c74_68 : (zT 74)[17]? = some (68, z_ir) := rfl
theorem c74_69 : (zT 74)[18]? = some (69, z_al 3 1) := rfl
theorem c74_70 : (zT 74)[19]? = some (70, z_gI 3 2) := rfl
theorem c74_73 : (zT 74)[20]? = some (73, z_ir) := rfl
theorem c74_74 : (zT 74)[21]? = some (74, z_al 3 1) := rfl
theorem c74_75 : (zT 74)[22]? = some (75, z_gI 3 3) := rfl
theorem c74_78 : (zT 74)[23]? = some (78, z_ir) := rfl
theorem c74_79 : (zT 74)[24]? = some (79, z_al 3 1) := rfl
theorem c74_80 : (zT 74)[25]? = some (80, z_gI 3 4) := rfl
theorem c74_83 : (zT 74)[26]? = some (83, z_ir) := rfl
theorem c74_84 : (zT 74)[27]? = some (84, z_al 3 1) := rfl
theorem c74_85 : (zT 74)[28]? = some (85, z_gI 3 5) := rfl
theorem c74_88 : (zT 74)[29]? = some (88, z_ir) := rfl
theorem c74_89 : (zT 74)[30]? = some (89, z_al 3 1) := rfl
theorem c74_90 : (zT 74)[31]? = some (90, z_gI 3 6) := rfl
theorem c74_93 : (zT 74)[32]? = some (93, z_ir) := rfl
theorem c74_94 : (zT 74)[33]? = some (94, z_ic (-1) 1) := rfl
theorem c74_95 : (zT 74)[34]? = some (95, z_ir) := rfl
theorem c75_0 : (zT 75)[0]? = some (0, z_al 0 1) := rfl
theorem c75_1 : (zT 75)[1]? = some (1, z_gR 11 9) := rfl
theorem c75_4 : (zT 75)[2]? = some (4, z_il 1 1) := rfl
theorem c75_5 : (zT 75)[3]? = some (5, z_cV 10 48 2 1) := rfl
theorem c75_8 : (zT 75)[4]? = some (8, z_ifeq 25) := rfl
theorem c75_11 : (zT 75)[5]? = some (11, z_il 2 1) := rfl
theorem c75_12 : (zT 75)[6]? = some (12, z_cS 101 1 1) := rfl
theorem c75_15 : (zT 75)[7]? = some (15, z_ifeq 25) := rfl
theorem c75_18 : (zT 75)[8]? = some (18, z_il 3 1) := rfl
theorem c75_19 : (zT 75)[9]? = some (19, z_cS 102 1 1) := rfl
theorem c75_22 : (zT 75)[10]? = some (22, z_ifne 28) := rfl
theorem c75_25 : (zT 75)[11]? = some (25, z_ic (-2147483648) 2) := rfl
theorem c75_27 : (zT 75)[12]? = some (27, z_ir) := rfl
theorem c75_28 : (zT 75)[13]? = some (28, z_al 0 1) := rfl
theorem c75_29 : (zT 75)[14]? = some (29, z_gR 11 2) := rfl
theorem c75_32 : (zT 75)[15]? = some (32, z_al 0 1) := rfl
theorem c75_33 : (zT 75)[16]? = some (33, z_gR 11 9) := rfl
theorem c75_36 : (zT 75)[17]? = some (36, z_il 1 1) := rfl
theorem c75_37 : (zT 75)[18]? = some (37, z_il 3 1) := rfl
theorem c75_38 : (zT 75)[19]? = some (38, z_ic (-1) 1) := rfl
theorem c75_39 : (zT 75)[20]? = some (39, z_ic (-1) 1) := rfl
theorem c75_40 : (zT 75)[21]? = some (40, z_cV 1 4 9 5) := rfl
theorem c75_43 : (zT 75)[22]? = some (43, z_al 0 1) := rfl
theorem c75_44 : (zT 75)[23]? = some (44, z_gR 11 2) := rfl
theorem c75_47 : (zT 75)[24]? = some (47, z_gR 1 1) := rfl
theorem c75_50 : (zT 75)[25]? = some (50, z_il 2 1) := rfl
theorem c75_51 : (zT 75)[26]? = some (51, z_iald 20) := rfl
theorem c75_52 : (zT 75)[27]? = some (52, z_ir) := rfl
theorem c76_0 : (zT 76)[0]? = some (0, z_al 0 1) := rfl
theorem c76_1 : (zT 76)[1]? = some (1, z_gR 11 9) := rfl
theorem c76_4 : (zT 76)[2]? = some (4, z_il 1 1) := rfl
theorem c76_5 : (zT 76)[3]? = some (5, z_cV 10 48 2 1) := rfl
theorem c76_8 : (zT 76)[4]? = some (8, z_ifeq 37) := rfl
theorem c76_11 : (zT 76)[5]? = some (11, z_al 0 1) := rfl
theorem c76_12 : (zT 76)[6]? = some (12, z_gR 11 9) := rfl
theorem c76_15 : (zT 76)[7]? = some (15, z_il 2 1) := rfl
theorem c76_16 : (zT 76)[8]? = some (16, z_cV 10 46 2 1) := rfl
theorem c76_19 : (zT 76)[9]? = some (19, z_ifeq 37) := rfl
theorem c76_22 : (zT 76)[10]? = some (22, z_il 3 1) := rfl
theorem c76_23 : (zT 76)[11]? = some (23, z_cS 101 1 1) := rfl
theorem c76_26 : (zT 76)[12]? = some (26, z_ifeq 37) := rfl
theorem c76_29 : (zT 76)[13]? = some (29, z_il 4 2) := rfl
theorem c76_31 : (zT 76)[14]? = some (31, z_cS 102 1 1) := rfl
theorem c76_34 : (zT 76)[15]? = some (34, z_ifne 40) := rfl
theorem c76_37 : (zT 76)[16]? = some (37, z_ic (-2147483648) 2) := rfl
theorem c76_39 : (zT 76)[17]? = some (39, z_ir) := rfl
theorem c76_40 : (zT 76)[18]? = some (40, z_al 0 1) := rfl
theorem c76_41 : (zT 76)[19]? = some (41, z_gR 11 2) := rfl
theorem c76_44 : (zT 76)[20]? = some (44, z_al 0 1) := rfl
theorem c76_45 : (zT 76)[21]? = some (45, z_gR 11 9) := rfl
theorem c76_48 : (zT 76)[22]? = some (48, z_il 1 1) := rfl
theorem c76_49 : (zT 76)[23]? = some (49, z_il 4 2) := rfl
theorem c76_51 : (zT 76)[24]? = some (51, z_ic (-1) 1) := rfl
theorem c76_52 : (zT 76)[25]? = some (52, z_ic (-1) 1) := rfl
theorem c76_53 : (zT 76)[26]? = some (53, z_cV 1 4 9 5) := rfl
theorem c76_56 : (zT 76)[27]? = some (56, z_al 0 1) := rfl
theorem c76_57 : (zT 76)[28]? = some (57, z_gR 11 2) := rfl
theorem c76_60 : (zT 76)[29]? = some (60, z_gR 1 0) := rfl
theorem c76_63 : (zT 76)[30]? = some (63, z_il 2 1) := rfl
theorem c76_64 : (zT 76)[31]? = some (64, z_aald 27) := rfl
theorem c76_65 : (zT 76)[32]? = some (65, z_il 3 1) := rfl
theorem c76_66 : (zT 76)[33]? = some (66, z_iald 20) := rfl
theorem c76_67 : (zT 76)[34]? = some (67, z_ir) := rfl
theorem c77_0 : (zT 77)[0]? = some (0, z_al 0 1) := rfl
theorem c77_1 : (zT 77)[1]? = some (1, z_gR 11 9) := rfl
theorem c77_4 : (zT 77)[2]? = some (4, z_il 1 1) := rfl
theorem c77_5 : (zT 77)[3]? = some (5, z_cV 10 48 2 1) := rfl
theorem c77_8 : (zT 77)[4]? = some (8, z_ifeq 27) := rfl
theorem c77_11 : (zT 77)[5]? = some (11, z_il 2 1) := rfl
theorem c77_12 : (zT 77)[6]? = some (12, z_cS 102 1 1) := rfl
theorem c77_15 : (zT 77)[7]? = some (15, z_ifeq 27) := rfl
theorem c77_18 : (zT 77)[8]? = some (18, z_il 3 1) := rfl
theorem c77_19 : (zT 77)[9]? = some (19, z_ic 0 1) := rfl
theorem c77_20 : (zT 77)[10]? = some (20, z_ic 1 1) := rfl
theorem c77_21 : (zT 77)[11]? = some (21, z_cS 100 3 3) := rfl
theorem c77_24 : (zT 77)[12]? = some (24, z_ifne 29) := rfl
theorem c77_27 : (zT 77)[13]? = some (27, z_ic (-1) 1) := rfl
theorem c77_28 : (zT 77)[14]? = some (28, z_ir) := rfl
theorem c77_29 : (zT 77)[15]? = some (29, z_al 0 1) := rfl
theorem c77_30 : (zT 77)[16]? = some (30, z_gR 11 2) := rfl
theorem c77_33 : (zT 77)[17]? = some (33, z_al 0 1) := rfl
theorem c77_34 : (zT 77)[18]? = some (34, z_gR 11 9) := rfl
theorem c77_37 : (zT 77)[19]? = some (37, z_il 1 1) := rfl
theorem c77_38 : (zT 77)[20]? = some (38, z_il 2 1) := rfl
theorem c77_39 : (zT 77)[21]? = some (39, z_ic (-1) 1) := rfl
theorem c77_40 : (zT 77)[22]? = some (40, z_ic (-1) 1) := rfl
theorem c77_41 : (zT 77)[23]? = some (41, z_cV 1 4 9 5) := rfl
theorem c77_44 : (zT 77)[24]? = some (44, z_il 3 1) := rfl
theorem c77_45 : (zT 77)[25]? = some (45, z_ifne 62) := rfl
theorem c77_48 : (zT 77)[26]? = some (48, z_al 0 1) := rfl
theorem c77_49 : (zT 77)[27]? = some (49, z_gR 11 2) := rfl
theorem c77_52 : (zT 77)[28]? = some (52, z_al 0 1) := rfl
theorem c77_53 : (zT 77)[29]? = some (53, z_gR 11 9) := rfl
theorem c77_56 : (zT 77)[30]? = some (56, z_cV 1 6 4 1) := rfl
theorem c77_59 : (zT 77)[31]? = some (59, z_goto 69) := rfl
theorem c77_62 : (zT 77)[32]? = some (62, z_al 0 1) := rfl
theorem c77_63 : (zT 77)[33]? = some (63, z_gR 11 2) := rfl
theorem c77_66 : (zT 77)[34]? = some (66, z_cV 1 7 1 0) := rfl
theorem c77_69 : (zT 77)[35]? = some (69, z_ir) := rfl
theorem c78_0 : (zT 78)[0]? = some (0, z_al 0 1) := rfl
theorem c78_1 : (zT 78)[1]? = some (1, z_gR 11 9) := rfl
theorem c78_4 : (zT 78)[2]? = some (4, z_il 1 1) := rfl
theorem c78_5 : (zT 78)[3]? = some (5, z_cV 10 48 2 1) := rfl
theorem c78_8 : (zT 78)[4]? = some (8, z_ifeq 31) := rfl
theorem c78_11 : (zT 78)[5]? = some (11, z_al 0 1) := rfl
theorem c78_12 : (zT 78)[6]? = some (12, z_gR 11 9) := rfl
theorem c78_15 : (zT 78)[7]? = some (15, z_il 2 1) := rfl
theorem c78_16 : (zT 78)[8]? = some (16, z_il 3 1) := rfl
theorem c78_17 : (zT 78)[9]? = some (17, z_cV 10 49 3 2) := rfl
theorem c78_20 : (zT 78)[10]? = some (20, z_ifeq 31) := rfl
theorem c78_23 : (zT 78)[11]? = some (23, z_il 4 2) := rfl
theorem c78_25 : (zT 78)[12]? = some (25, z_cS 102 1 1) := rfl
theorem c78_28 : (zT 78)[13]? = some (28, z_ifne 33) := rfl
theorem c78_31 : (zT 78)[14]? = some (31, z_ic (-1) 1) := rfl
theorem c78_32 : (zT 78)[15]? = some (32, z_ir) := rfl
theorem c78_33 : (zT 78)[16]? = some (33, z_al 0 1) := rfl
theorem c78_34 : (zT 78)[17]? = some (34, z_gR 11 2) := rfl
theorem c78_37 : (zT 78)[18]? = some (37, z_al 0 1) := rfl
theorem c78_38 : (zT 78)[19]? = some (38, z_gR 11 9) := rfl
theorem c78_41 : (zT 78)[20]? = some (41, z_il 1 1) := rfl
theorem c78_42 : (zT 78)[21]? = some (42, z_il 2 1) := rfl
theorem c78_43 : (zT 78)[22]? = some (43, z_il 3 1) := rfl
theorem c78_44 : (zT 78)[23]? = some (44, z_il 4 2) := rfl
theorem c78_46 : (zT 78)[24]? = some (46, z_cV 1 9 7 5) := rfl
theorem c78_49 : (zT 78)[25]? = some (49, z_ir) := rfl
theorem c79_0 : (zT 79)[0]? = some (0, z_al 0 1) := rfl
theorem c79_1 : (zT 79)[1]? = some (1, z_gR 11 9) := rfl
theorem c79_4 : (zT 79)[2]? = some (4, z_il 1 1) := rfl
theorem c79_5 : (zT 79)[3]? = some (5, z_il 2 1) := rfl
theorem c79_6 : (zT 79)[4]? = some (6, z_cV 10 49 3 2) := rfl
theorem c79_9 : (zT 79)[5]? = some (9, z_ifne 14) := rfl
theorem c79_12 : (zT 79)[6]? = some (12, z_ic (-1) 1) := rfl
theorem c79_13 : (zT 79)[7]? = some (13, z_ir) := rfl
theorem c79_14 : (zT 79)[8]? = some (14, z_al 0 1) := rfl
theorem c79_15 : (zT 79)[9]? = some (15, z_gR 11 9) := rfl
theorem c79_18 : (zT 79)[10]? = some (18, z_il 1 1) := rfl
theorem c79_19 : (zT 79)[11]? = some (19, z_il 2 1) := rfl
theorem c79_20 : (zT 79)[12]? = some (20, z_cV 10 60 3 2) := rfl
theorem c79_23 : (zT 79)[13]? = some (23, z_ir) := rfl
theorem c80_0 : (zT 80)[0]? = some (0, z_al 0 1) := rfl
theorem c80_1 : (zT 80)[1]? = some (1, z_gR 11 9) := rfl
theorem c80_4 : (zT 80)[2]? = some (4, z_il 1 1) := rfl
theorem c80_5 : (zT 80)[3]? = some (5, z_cV 10 47 2 1) := rfl
theorem c80_8 : (zT 80)[4]? = some (8, z_ifeq 22) := rfl
theorem c80_11 : (zT 80)[5]? = some (11, z_il 2 1) := rfl
theorem c80_12 : (zT 80)[6]? = some (12, z_ic 0 1) := rfl
theorem c80_13 : (zT 80)[7]? = some (13, z_ic 999 3) := rfl
theorem c80_16 : (zT 80)[8]? = some (16, z_cS 100 3 3) := rfl
theorem c80_19 : (zT 80)[9]? = some (19, z_ifne 24) := rfl
theorem c80_22 : (zT 80)[10]? = some (22, z_ic (-1) 1) := rfl
theorem c80_23 : (zT 80)[11]? = some (23, z_ir) := rfl
theorem c80_24 : (zT 80)[12]? = some (24, z_al 0 1) := rfl
theorem c80_25 : (zT 80)[13]? = some (25, z_gR 11 9) := rfl
theorem c80_28 : (zT 80)[14]? = some (28, z_gR 10 1) := rfl
theorem c80_31 : (zT 80)[15]? = some (31, z_il 1 1) := rfl
theorem c80_32 : (zT 80)[16]? = some (32, z_aald 25) := rfl
theorem c80_33 : (zT 80)[17]? = some (33, z_il 2 1) := rfl
theorem c80_34 : (zT 80)[18]? = some (34, z_cV 3 19 4 1) := rfl
theorem c80_37 : (zT 80)[19]? = some (37, z_ir) := rfl
theorem c81_0 : (zT 81)[0]? = some (0, z_al 0 1) := rfl
theorem c81_1 : (zT 81)[1]? = some (1, z_gR 11 9) := rfl
theorem c81_4 : (zT 81)[2]? = some (4, z_cV 10 63 3 0) := rfl
theorem c81_7 : (zT 81)[3]? = some (7, z_ir) := rfl
theorem c82_0 : (zT 82)[0]? = some (0, z_al 0 1) := rfl
theorem c82_1 : (zT 82)[1]? = some (1, z_gR 11 9) := rfl
theorem c82_4 : (zT 82)[2]? = some (4, z_il 1 1) := rfl
theorem c82_5 : (zT 82)[3]? = some (5, z_il 2 1) := rfl
theorem c82_6 : (zT 82)[4]? = some (6, z_cV 10 49 3 2) := rfl
theorem c82_9 : (zT 82)[5]? = some (9, z_ifeq 30) := rfl
theorem c82_12 : (zT 82)[6]? = some (12, z_il 3 1) := rfl
theorem c82_13 : (zT 82)[7]? = some (13, z_cS 102 1 1) := rfl
theorem c82_16 : (zT 82)[8]? = some (16, z_ifeq 30) := rfl
theorem c82_19 : (zT 82)[9]? = some (19, z_il 4 2) := rfl
theorem c82_21 : (zT 82)[10]? = some (21, z_ic 0 1) := rfl
theorem c82_22 : (zT 82)[11]? = some (22, z_ic 9 2) := rfl
theorem c82_24 : (zT 82)[12]? = some (24, z_cS 100 3 3) := rfl
theorem c82_27 : (zT 82)[13]? = some (27, z_ifne 32) := rfl
theorem c82_30 : (zT 82)[14]? = some (30, z_ic (-1) 1) := rfl
theorem c82_31 : (zT 82)[15]? = some (31, z_ir) := rfl
theorem c82_32 : (zT 82)[16]? = some (32, z_al 0 1) := rfl
theorem c82_33 : (zT 82)[17]? = some (33, z_gR 11 3) := rfl
theorem c82_36 : (zT 82)[18]? = some (36, z_gI 0 4) := rfl
theorem c82_39 : (zT 82)[19]? = some (39, z_ic 10 2) := rfl
theorem c82_41 : (zT 82)[20]? = some (41, z_ilt 47) := rfl
theorem c82_44 : (zT 82)[21]? = some (44, z_ic (-3) 2) := rfl
theorem c82_46 : (zT 82)[22]? = some (46, z_ir) := rfl
theorem c82_47 : (zT 82)[23]? = some (47, z_al 0 1) := rfl
theorem c82_48 : (zT 82)[24]? = some (48, z_gR 11 3) := rfl
theorem c82_51 : (zT 82)[25]? = some (51, z_il 1 1) := rfl
theorem c82_52 : (zT 82)[26]? = some (52, z_il 2 1) := rfl
theorem c82_53 : (zT 82)[27]? = some (53, z_il 3 1) := rfl
theorem c82_54 : (zT 82)[28]? = some (54, z_il 4 2) := rfl
theorem c82_56 : (zT 82)[29]? = some (56, z_cV 0 1 5 4) := rfl
theorem c82_59 : (zT 82)[30]? = some (59, z_al 0 1) := rfl
theorem c82_60 : (zT 82)[31]? = some (60, z_gR 11 6) := rfl
theorem c82_63 : (zT 82)[32]? = some (63, z_al 0 1) := rfl
theorem c82_64 : (zT 82)[33]? = some (64, z_gR 11 9) := rfl
theorem c82_67 : (zT 82)[34]? = some (67, z_al 0 1) := rfl
theorem c82_68 : (zT 82)[35]? = some (68, z_gR 11 2) := rfl
theorem c82_71 : (zT 82)[36]? = some (71, z_al 0 1) := rfl
theorem c82_72 : (zT 82)[37]? = some (72, z_gR 11 3) := rfl
theorem c82_75 : (zT 82)[38]? = some (75, z_al 0 1) := rfl
theorem c82_76 : (zT 82)[39]? = some (76, z_gR 11 3) := rfl
theorem c82_79 : (zT 82)[40]? = some (79, z_gI 0 4) := rfl
theorem c82_82 : (zT 82)[41]? = some (82, z_ic 1 1) := rfl
theorem c82_83 : (zT 82)[42]? = some (83, z_isub) := rfl
theorem c82_84 : (zT 82)[43]? = some (84, z_cV 2 14 8 4) := rfl
theorem c82_87 : (zT 82)[44]? = some (87, z_al 0 1) := rfl
theorem c82_88 : (zT 82)[45]? = some (88, z_gR 11 3) := rfl
theorem c82_91 : (zT 82)[46]? = some (91, z_gI 0 4) := rfl
theorem c82_94 : (zT 82)[47]? = some (94, z_ir) := rfl
theorem c83_0 : (zT 83)[0]? = some (0, z_al 0 1) := rfl
theorem c83_1 : (zT 83)[1]? = some (1, z_gR 11 3) := rfl
theorem c83_4 : (zT 83)[2]? = some (4, z_gI 0 4) := rfl
theorem c83_7 : (zT 83)[3]? = some (7, z_is 1 1) := rfl
theorem c83_8 : (zT 83)[4]? = some (8, z_al 0 1) := rfl
theorem c83_9 : (zT 83)[5]? = some (9, z_gR 11 3) := rfl
theorem c83_12 : (zT 83)[6]? = some (12, z_ic 0 1) := rfl
theorem c83_13 : (zT 83)[7]? = some (13, z_pI 0 4) := rfl
theorem c83_16 : (zT 83)[8]? = some (16, z_al 0 1) := rfl
theorem c83_17 : (zT 83)[9]? = some (17, z_cV 11 98 2 0) := rfl
theorem c83_20 : (zT 83)[10]? = some (20, z_il 1 1) := rfl
theorem c83_21 : (zT 83)[11]? = some (21, z_ir) := rfl
theorem c84_0 : (zT 84)[0]? = some (0, z_il 1 1) := rfl
theorem c84_1 : (zT 84)[1]? = some (1, z_ic 0 1) := rfl
theorem c84_2 : (zT 84)[2]? = some (2, z_ic 1 1) := rfl
theorem c84_3 : (zT 84)[3]? = some (3, z_cS 100 3 3) := rfl
theorem c84_6 : (zT 84)[4]? = some (6, z_ifne 13) := rfl
theorem c84_9 : (zT 84)[5]? = some (9, z_lc (-1) 3) := rfl
theorem c84_12 : (zT 84)[6]? = some (12, z_lr) := rfl
theorem c84_13 : (zT 84)[7]? = some (13, z_il 1 1) := rfl
theorem c84_14 : (zT 84)[8]? = some (14, z_ifne 28) := rfl
theorem c84_17 : (zT 84)[9]? = some (17, z_al 0 1) := rfl
theorem c84_18 : (zT 84)[10]? = some (18, z_gR 11 6) := rfl
theorem c84_21 : (zT 84)[11]? = some (21, z_gI 2 2) := rfl
theorem c84_24 : (zT 84)[12]? = some (24, z_i2l) := rfl
theorem c84_25 : (zT 84)[13]? = some (25, z_goto 35) := rfl
theorem c84_28 : (zT 84)[14]? = some (28, z_al 0 1) := rfl
theorem c84_29 : (zT 84)[15]? = some (29, z_gR 11 6) := rfl
theorem c84_32 : (zT 84)[16]? = some (32, z_gL 2 3) := rfl
theorem c84_35 : (zT 84)[17]? = some (35, z_lr) := rfl
theorem c85_0 : (zT 85)[0]? = some (0, z_al 0 1) := rfl
theorem c85_1 : (zT 85)[1]? = some (1, z_gR 11 9) := rfl
theorem c85_4 : (zT 85)[2]? = some (4, z_il 1 1) := rfl
theorem c85_5 : (zT 85)[3]? = some (5, z_cV 10 47 2 1) := rfl
theorem c85_8 : (zT 85)[4]? = some (8, z_ifeq 20) := rfl
theorem c85_11 : (zT 85)[5]? = some (11, z_il 2 1) := rfl
theorem c85_12 : (zT 85)[6]? = some (12, z_ic 0 1) := rfl
theorem c85_13 : (zT 85)[7]? = some (13, z_ic 1 1) := rfl
theorem c85_14 : (zT 85)[8]? = some (14, z_cS 100 3 3) := rfl
theorem c85_17 : (zT 85)[9]? = some (17, z_ifne 24) := rfl
theorem c85_20 : (zT 85)[10]? = some (20, z_lc (-1) 3) := rfl
theorem c85_23 : (zT 85)[11]? = some (23, z_lr) := rfl
theorem c85_24 : (zT 85)[12]? = some (24, z_al 0 1) := rfl
theorem c85_25 : (zT 85)[13]? = some (25, z_gR 11 6) := rfl
theorem c85_28 : (zT 85)[14]? = some (28, z_gI 2 2) := rfl
theorem c85_31 : (zT 85)[15]? = some (31, z_ifne 38) := rfl
theorem c85_34 : (zT 85)[16]? = some (34, z_lc (-4) 3) := rfl
theorem c85_37 : (zT 85)[17]? = some (37, z_lr) := rfl
theorem c85_38 : (zT 85)[18]? = some (38, z_al 0 1) := rfl
theorem c85_39 : (zT 85)[19]? = some (39, z_gR 11 6) := rfl
theorem c85_42 : (zT 85)[20]? = some (42, z_il 1 1) := rfl
theorem c85_43 : (zT 85)[21]? = some (43, z_cV 2 15 5 1) := rfl
theorem c85_46 : (zT 85)[22]? = some (46, z_ls 3 1) := rfl
theorem c85_47 : (zT 85)[23]? = some (47, z_al 0 1) := rfl
theorem c85_48 : (zT 85)[24]? = some (48, z_gR 11 6) := rfl
theorem c85_51 : (zT 85)[25]? = some (51, z_gL 2 3) := rfl
theorem c85_54 : (zT 85)[26]? = some (54, z_ls 5 2) := rfl
theorem c85_56 : (zT 85)[27]? = some (56, z_ll 3 1) := rfl
theorem c85_57 : (zT 85)[28]? = some (57, z_ll 5 2) := rfl
theorem c85_59 : (zT 85)[29]? = some (59, z_cS 103 11 2) := rfl
theorem c85_62 : (zT 85)[30]? = some (62, z_ls 7 2) := rfl
theorem c85_64 : (zT 85)[31]? = some (64, z_ll 7 2) := rfl
theorem c85_66 : (zT 85)[32]? = some (66, z_lc 0 1) := rfl
theorem c85_67 : (zT 85)[33]? = some (67, z_lcmp) := rfl
theorem c85_68 : (zT 85)[34]? = some (68, z_ifne 75) := rfl
theorem c85_71 : (zT 85)[35]? = some (71, z_lc (-4) 3) := rfl
theorem c85_74 : (zT 85)[36]? = some (74, z_lr) := rfl
theorem c85_75 : (zT 85)[37]? = some (75, z_il 2 1) := rfl
theorem c85_76 : (zT 85)[38]? = some (76, z_ifne 86) := rfl
theorem c85_79 : (zT 85)[39]? = some (79, z_ll 3 1) := rfl
theorem c85_80 : (zT 85)[40]? = some (80, z_ll 7 2) := rfl
theorem c85_82 : (zT 85)[41]? = some (82, z_ldiv) := rfl
theorem c85_83 : (zT 85)[42]? = some (83, z_goto 91) := rfl
theorem c85_86 : (zT 85)[43]? = some (86, z_ll 5 2) := rfl
theorem c85_88 : (zT 85)[44]? = some (88, z_ll 7 2) := rfl
theorem c85_90 : (zT 85)[45]? = some (90, z_ldiv) := rfl
theorem c85_91 : (zT 85)[46]? = some (91, z_lr) := rfl
theorem c86_0 : (zT 86)[0]? = some (0, z_al 0 1) := rfl
theorem c86_1 : (zT 86)[1]? = some (1, z_gR 11 6) := rfl
theorem c86_4 : (zT 86)[2]? = some (4, z_cV 2 16 5 0) := rfl
theorem c86_7 : (zT 86)[3]? = some (7, z_ir) := rfl
theorem c87_0 : (zT 87)[0]? = some (0, z_il 1 1) := rfl
theorem c87_1 : (zT 87)[1]? = some (1, z_cS 102 1 1) := rfl
theorem c87_4 : (zT 87)[2]? = some (4, z_ifeq 16) := rfl
theorem c87_7 : (zT 87)[3]? = some (7, z_il 2 1) := rfl
theorem c87_8 : (zT 87)[4]? = some (8, z_ic 0 1) := rfl
theorem c87_9 : (zT 87)[5]? = some (9, z_ic 2 1) := rfl
theorem c87_10 : (zT 87)[6]? = some (10, z_cS 100 3 3) := rfl
theorem c87_13 : (zT 87)[7]? = some (13, z_ifne 20) := rfl
theorem c87_16 : (zT 87)[8]? = some (16, z_lc (-1) 3) := rfl
theorem c87_19 : (zT 87)[9]? = some (19, z_lr) := rfl
theorem c87_20 : (zT 87)[10]? = some (20, z_al 0 1) := rfl
theorem c87_21 : (zT 87)[11]? = some (21, z_gR 11 6) := rfl
theorem c87_24 : (zT 87)[12]? = some (24, z_gI 2 2) := rfl
theorem c87_27 : (zT 87)[13]? = some (27, z_ifne 34) := rfl
theorem c87_30 : (zT 87)[14]? = some (30, z_lc (-4) 3) := rfl
theorem c87_33 : (zT 87)[15]? = some (33, z_lr) := rfl
theorem c87_34 : (zT 87)[16]? = some (34, z_al 0 1) := rfl
theorem c87_35 : (zT 87)[17]? = some (35, z_gR 11 7) := rfl
theorem c87_38 : (zT 87)[18]? = some (38, z_al 0 1) := rfl
theorem c87_39 : (zT 87)[19]? = some (39, z_gR 11 9) := rfl
theorem c87_42 : (zT 87)[20]? = some (42, z_al 0 1) := rfl
theorem c87_43 : (zT 87)[21]? = some (43, z_gR 11 2) := rfl
theorem c87_46 : (zT 87)[22]? = some (46, z_al 0 1) := rfl
theorem c87_47 : (zT 87)[23]? = some (47, z_gR 11 6) := rfl
theorem c87_50 : (zT 87)[24]? = some (50, z_il 1 1) := rfl
theorem c87_51 : (zT 87)[25]? = some (51, z_cV 6 34 10 4) := rfl
theorem c87_54 : (zT 87)[26]? = some (54, z_il 2 1) := rfl
theorem c87_55 : (zT 87)[27]? = some (55, z_sw 98 [(0, 80), (1, 89)]) := rfl
theorem c87_80 : (zT 87)[28]? = some (80, z_al 0 1) := rfl
theorem c87_81 : (zT 87)[29]? = some (81, z_gR 11 7) := rfl
theorem c87_84 : (zT 87)[30]? = some (84, z_gI 6 1) := rfl
theorem c87_87 : (zT 87)[31]? = some (87, z_i2l) := rfl
theorem c87_88 : (zT 87)[32]? = some (88, z_lr) := rfl
theorem c87_89 : (zT 87)[33]? = some (89, z_al 0 1) := rfl
theorem c87_90 : (zT 87)[34]? = some (90, z_gR 11 7) := rfl
theorem c87_93 : (zT 87)[35]? = some (93, z_gI 6 2) := rfl
theorem c87_96 : (zT 87)[36]? = some (96, z_i2l) := rfl
theorem c87_97 : (zT 87)[37]? = some (97, z_lr) := rfl
theorem c87_98 : (zT 87)[38]? = some (98, z_al 0 1) := rfl
theorem c87_99 : (zT 87)[39]? = some (99, z_gR 11 7) := rfl
theorem c87_102 : (zT 87)[40]? = some (102, z_gL 6 3) := rfl
theorem c87_105 : (zT 87)[41]? = some (105, z_lr) := rfl
theorem c88_0 : (zT 88)[0]? = some (0, z_il 1 1) := rfl
theorem c88_1 : (zT 88)[1]? = some (1, z_ic 0 1) := rfl
theorem c88_2 : (zT 88)[2]? = some (2, z_ic 100 2) := rfl
theorem c88_4 : (zT 88)[3]? = some (4, z_cS 100 3 3) := rfl
theorem c88_7 : (zT 88)[4]? = some (7, z_ifeq 19) := rfl
theorem c88_10 : (zT 88)[5]? = some (10, z_il 2 1) := rfl
theorem c88_11 : (zT 88)[6]? = some (11, z_ic 0 1) := rfl
theorem c88_12 : (zT 88)[7]? = some (12, z_ic 1 1) := rfl
theorem c88_13 : (zT 88)[8]? = some (13, z_cS 100 3 3) := rfl
theorem c88_16 : (zT 88)[9]? = some (16, z_ifne 21) := rfl
theorem c88_19 : (zT 88)[10]? = some (19, z_ic (-1) 1) := rfl
theorem c88_20 : (zT 88)[11]? = some (20, z_ir) := rfl
theorem c88_21 : (zT 88)[12]? = some (21, z_al 0 1) := rfl
theorem c88_22 : (zT 88)[13]? = some (22, z_gR 11 6) := rfl
theorem c88_25 : (zT 88)[14]? = some (25, z_gI 2 2) := rfl
theorem c88_28 : (zT 88)[15]? = some (28, z_ifne 34) := rfl
theorem c88_31 : (zT 88)[16]? = some (31, z_ic (-4) 2) := rfl
theorem c88_33 : (zT 88)[17]? = some (33, z_ir) := rfl
theorem c88_34 : (zT 88)[18]? = some (34, z_al 0 1) := rfl
theorem c88_35 : (zT 88)[19]? = some (35, z_gR 11 8) := rfl
theorem c88_38 : (zT 88)[20]? = some (38, z_al 0 1) := rfl
theorem c88_39 : (zT 88)[21]? = some (39, z_gR 11 9) := rfl
theorem c88_42 : (zT 88)[22]? = some (42, z_al 0 1) := rfl
theorem c88_43 : (zT 88)[23]? = some (43, z_gR 11 6) := rfl
theorem c88_46 : (zT 88)[24]? = some (46, z_il 1 1) := rfl
theorem c88_47 : (zT 88)[25]? = some (47, z_cV 4 24 8 3) := rfl
theorem c88_50 : (zT 88)[26]? = some (50, z_is 3 1) := rfl
theorem c88_51 : (zT 88)[27]? = some (51, z_il 3 1) := rfl
theorem c88_52 : (zT 88)[28]? = some (52, z_ic (-4) 2) := rfl
theorem c88_54 : (zT 88)[29]? = some (54, z_ine 60) := rfl
theorem c88_57 : (zT 88)[30]? = some (57, z_ic (-4) 2) := rfl
theorem c88_59 : (zT 88)[31]? = some (59, z_ir) := rfl
theorem c88_60 : (zT 88)[32]? = some (60, z_il 2 1) := rfl
theorem c88_61 : (zT 88)[33]? = some (61, z_ifne 68) := rfl
theorem c88_64 : (zT 88)[34]? = some (64, z_il 3 1) := rfl
theorem c88_65 : (zT 88)[35]? = some (65, z_goto 76) := rfl
theorem c88_68 : (zT 88)[36]? = some (68, z_al 0 1) := rfl
theorem c88_69 : (zT 88)[37]? = some (69, z_gR 11 9) := rfl
theorem c88_72 : (zT 88)[38]? = some (72, z_il 3 1) := rfl
theorem c88_73 : (zT 88)[39]? = some (73, z_cV 10 65 4 1) := rfl
theorem c88_76 : (zT 88)[40]? = some (76, z_ir) := rfl
theorem c89_0 : (zT 89)[0]? = some (0, z_il 1 1) := rfl
theorem c89_1 : (zT 89)[1]? = some (1, z_ic 0 1) := rfl
theorem c89_2 : (zT 89)[2]? = some (2, z_ic 1 1) := rfl
theorem c89_3 : (zT 89)[3]? = some (3, z_cS 100 3 3) := rfl
theorem c89_6 : (zT 89)[4]? = some (6, z_ifne 13) := rfl
theorem c89_9 : (zT 89)[5]? = some (9, z_lc (-1) 3) := rfl
theorem c89_12 : (zT 89)[6]? = some (12, z_lr) := rfl
theorem c89_13 : (zT 89)[7]? = some (13, z_al 0 1) := rfl
theorem c89_14 : (zT 89)[8]? = some (14, z_gR 11 8) := rfl
theorem c89_17 : (zT 89)[9]? = some (17, z_al 0 1) := rfl
theorem c89_18 : (zT 89)[10]? = some (18, z_gR 11 9) := rfl
theorem c89_21 : (zT 89)[11]? = some (21, z_al 0 1) := rfl
theorem c89_22 : (zT 89)[12]? = some (22, z_gR 11 6) := rfl
theorem c89_25 : (zT 89)[13]? = some (25, z_cV 4 25 7 2) := rfl
theorem c89_28 : (zT 89)[14]? = some (28, z_il 1 1) := rfl
theorem c89_29 : (zT 89)[15]? = some (29, z_ifne 44) := rfl
theorem c89_32 : (zT 89)[16]? = some (32, z_al 0 1) := rfl
theorem c89_33 : (zT 89)[17]? = some (33, z_gR 11 8) := rfl
theorem c89_36 : (zT 89)[18]? = some (36, z_gR 4 1) := rfl
theorem c89_39 : (zT 89)[19]? = some (39, z_ic 0 1) := rfl
theorem c89_40 : (zT 89)[20]? = some (40, z_lald) := rfl
theorem c89_41 : (zT 89)[21]? = some (41, z_goto 52) := rfl
theorem c89_44 : (zT 89)[22]? = some (44, z_al 0 1) := rfl
theorem c89_45 : (zT 89)[23]? = some (45, z_gR 11 8) := rfl
theorem c89_48 : (zT 89)[24]? = some (48, z_gI 4 2) := rfl
theorem c89_51 : (zT 89)[25]? = some (51, z_i2l) := rfl
theorem c89_52 : (zT 89)[26]? = some (52, z_lr) := rfl
theorem c90_0 : (zT 90)[0]? = some (0, z_al 0 1) := rfl
theorem c90_1 : (zT 90)[1]? = some (1, z_gR 11 9) := rfl
theorem c90_4 : (zT 90)[2]? = some (4, z_il 1 1) := rfl
theorem c90_5 : (zT 90)[3]? = some (5, z_cV 10 48 2 1) := rfl
theorem c90_8 : (zT 90)[4]? = some (8, z_ifne 13) := rfl
theorem c90_11 : (zT 90)[5]? = some (11, z_ic (-1) 1) := rfl
theorem c90_12 : (zT 90)[6]? = some (12, z_ir) := rfl
theorem c90_13 : (zT 90)[7]? = some (13, z_al 0 1) := rfl
theorem c90_14 : (zT 90)[8]? = some (14, z_il 1 1) := rfl
theorem c90_15 : (zT 90)[9]? = some (15, z_cV 11 99 2 1) := rfl
theorem c90_18 : (zT 90)[10]? = some (18, z_is 2 1) := rfl
theorem c90_19 : (zT 90)[11]? = some (19, z_ic 0 1) := rfl
theorem c90_20 : (zT 90)[12]? = some (20, z_is 3 1) := rfl
theorem c90_21 : (zT 90)[13]? = some (21, z_ic 0 1) := rfl
theorem c90_22 : (zT 90)[14]? = some (22, z_is 4 2) := rfl
theorem c90_24 : (zT 90)[15]? = some (24, z_il 4 2) := rfl
theorem c90_26 : (zT 90)[16]? = some (26, z_al 0 1) := rfl
theorem c90_27 : (zT 90)[17]? = some (27, z_gR 11 9) := rfl
theorem c90_30 : (zT 90)[18]? = some (30, z_gI 10 6) := rfl
theorem c90_33 : (zT 90)[19]? = some (33, z_ige 74) := rfl
theorem c90_36 : (zT 90)[20]? = some (36, z_ic 1 1) := rfl
theorem c90_37 : (zT 90)[21]? = some (37, z_il 4 2) := rfl
theorem c90_39 : (zT 90)[22]? = some (39, z_ishl) := rfl
theorem c90_40 : (zT 90)[23]? = some (40, z_is 5 2) := rfl
theorem c90_42 : (zT 90)[24]? = some (42, z_il 1 1) := rfl
theorem c90_43 : (zT 90)[25]? = some (43, z_il 5 2) := rfl
theorem c90_45 : (zT 90)[26]? = some (45, z_iand) := rfl
theorem c90_46 : (zT 90)[27]? = some (46, z_ifeq 68) := rfl
theorem c90_49 : (zT 90)[28]? = some (49, z_al 0 1) := rfl
theorem c90_50 : (zT 90)[29]? = some (50, z_il 1 1) := rfl
theorem c90_51 : (zT 90)[30]? = some (51, z_il 5 2) := rfl
theorem c90_53 : (zT 90)[31]? = some (53, z_ic (-1) 1) := rfl
theorem c90_54 : (zT 90)[32]? = some (54, z_ixor) := rfl
theorem c90_55 : (zT 90)[33]? = some (55, z_iand) := rfl
theorem c90_56 : (zT 90)[34]? = some (56, z_cV 11 99 2 1) := rfl
theorem c90_59 : (zT 90)[35]? = some (59, z_il 2 1) := rfl
theorem c90_60 : (zT 90)[36]? = some (60, z_ile 68) := rfl
theorem c90_63 : (zT 90)[37]? = some (63, z_il 3 1) := rfl
theorem c90_64 : (zT 90)[38]? = some (64, z_il 5 2) := rfl
theorem c90_66 : (zT 90)[39]? = some (66, z_ior) := rfl
theorem c90_67 : (zT 90)[40]? = some (67, z_is 3 1) := rfl
theorem c90_68 : (zT 90)[41]? = some (68, z_inc 4 1) := rfl
theorem c90_71 : (zT 90)[42]? = some (71, z_goto 24) := rfl
theorem c90_74 : (zT 90)[43]? = some (74, z_il 3 1) := rfl
theorem c90_75 : (zT 90)[44]? = some (75, z_ir) := rfl
theorem c91_0 : (zT 91)[0]? = some (0, z_al 0 1) := rfl
theorem c91_1 : (zT 91)[1]? = some (1, z_gR 11 9) := rfl
theorem c91_4 : (zT 91)[2]? = some (4, z_cV 10 66 3 0) := rfl
theorem c91_7 : (zT 91)[3]? = some (7, z_ir) := rfl
theorem c92_0 : (zT 92)[0]? = some (0, z_al 0 1) := rfl
theorem c92_1 : (zT 92)[1]? = some (1, z_gR 11 9) := rfl
theorem c92_4 : (zT 92)[2]? = some (4, z_il 1 1) := rfl
theorem c92_5 : (zT 92)[3]? = some (5, z_cV 10 47 2 1) := rfl
theorem c92_8 : (zT 92)[4]? = some (8, z_ifeq 21) := rfl
theorem c92_11 : (zT 92)[5]? = some (11, z_il 2 1) := rfl
theorem c92_12 : (zT 92)[6]? = some (12, z_ic 1 1) := rfl
theorem c92_13 : (zT 92)[7]? = some (13, z_ic 50 2) := rfl
theorem c92_15 : (zT 92)[8]? = some (15, z_cS 100 3 3) := rfl
theorem c92_18 : (zT 92)[9]? = some (18, z_ifne 23) := rfl
theorem c92_21 : (zT 92)[10]? = some (21, z_ic (-1) 1) := rfl
theorem c92_22 : (zT 92)[11]? = some (22, z_ir) := rfl
theorem c92_23 : (zT 92)[12]? = some (23, z_al 0 1) := rfl
theorem c92_24 : (zT 92)[13]? = some (24, z_gR 11 9) := rfl
theorem c92_27 : (zT 92)[14]? = some (27, z_il 1 1) := rfl
theorem c92_28 : (zT 92)[15]? = some (28, z_il 2 1) := rfl
theorem c92_29 : (zT 92)[16]? = some (29, z_cV 10 68 7 2) := rfl
theorem c92_32 : (zT 92)[17]? = some (32, z_ir) := rfl
theorem c93_0 : (zT 93)[0]? = some (0, z_il 1 1) := rfl
theorem c93_1 : (zT 93)[1]? = some (1, z_ic 1 1) := rfl
theorem c93_2 : (zT 93)[2]? = some (2, z_ic 50 2) := rfl
theorem c93_4 : (zT 93)[3]? = some (4, z_cS 100 3 3) := rfl
theorem c93_7 : (zT 93)[4]? = some (7, z_ifne 12) := rfl
theorem c93_10 : (zT 93)[5]? = some (10, z_ic (-1) 1) := rfl
theorem c93_11 : (zT 93)[6]? = some (11, z_ir) := rfl
theorem c93_12 : (zT 93)[7]? = some (12, z_ic 0 1) := rfl
theorem c93_13 : (zT 93)[8]? = some (13, z_is 2 1) := rfl
theorem c93_14 : (zT 93)[9]? = some (14, z_al 0 1) := rfl
theorem c93_15 : (zT 93)[10]? = some (15, z_gR 11 9) := rfl
theorem c93_18 : (zT 93)[11]? = some (18, z_ic 0 1) := rfl
theorem c93_19 : (zT 93)[12]? = some (19, z_il 1 1) := rfl
theorem c93_20 : (zT 93)[13]? = some (20, z_cV 10 68 7 2) := rfl
theorem c93_23 : (zT 93)[14]? = some (23, z_is 3 1) := rfl
theorem c93_24 : (zT 93)[15]? = some (24, z_ic 1 1) := rfl
theorem c93_25 : (zT 93)[16]? = some (25, z_is 4 2) := rfl
theorem c93_27 : (zT 93)[17]? = some (27, z_il 4 2) := rfl
theorem c93_29 : (zT 93)[18]? = some (29, z_al 0 1) := rfl
theorem c93_30 : (zT 93)[19]? = some (30, z_gR 11 9) := rfl
theorem c93_33 : (zT 93)[20]? = some (33, z_gI 10 6) := rfl
theorem c93_36 : (zT 93)[21]? = some (36, z_ige 69) := rfl
theorem c93_39 : (zT 93)[22]? = some (39, z_al 0 1) := rfl
theorem c93_40 : (zT 93)[23]? = some (40, z_gR 11 9) := rfl
theorem c93_43 : (zT 93)[24]? = some (43, z_il 4 2) := rfl
theorem c93_45 : (zT 93)[25]? = some (45, z_il 1 1) := rfl
theorem c93_46 : (zT 93)[26]? = some (46, z_cV 10 68 7 2) := rfl
theorem c93_49 : (zT 93)[27]? = some (49, z_is 5 2) := rfl
theorem c93_51 : (zT 93)[28]? = some (51, z_il 5 2) := rfl
theorem c93_53 : (zT 93)[29]? = some (53, z_il 3 1) := rfl
theorem c93_54 : (zT 93)[30]? = some (54, z_ile 63) := rfl
theorem c93_57 : (zT 93)[31]? = some (57, z_il 5 2) := rfl
theorem c93_59 : (zT 93)[32]? = some (59, z_is 3 1) := rfl
theorem c93_60 : (zT 93)[33]? = some (60, z_il 4 2) := rfl
theorem c93_62 : (zT 93)[34]? = some (62, z_is 2 1) := rfl
theorem c93_63 : (zT 93)[35]? = some (63, z_inc 4 1) := rfl
theorem c93_66 : (zT 93)[36]? = some (66, z_goto 27) := rfl
theorem c93_69 : (zT 93)[37]? = some (69, z_il 2 1) := rfl
theorem c93_70 : (zT 93)[38]? = some (70, z_ir) := rfl
theorem c94_0 : (zT 94)[0]? = some (0, z_il 1 1) := rfl
theorem c94_1 : (zT 94)[1]? = some (1, z_ic 0 1) := rfl
theorem c94_2 : (zT 94)[2]? = some (2, z_ic 9999 3) := rfl
theorem c94_5 : (zT 94)[3]? = some (5, z_cS 100 3 3) := rfl
theorem c94_8 : (zT 94)[4]? = some (8, z_ifne 13) := rfl
theorem c94_11 : (zT 94)[5]? = some (11, z_ic (-1) 1) := rfl
theorem c94_12 : (zT 94)[6]? = some (12, z_ir) := rfl
theorem c94_13 : (zT 94)[7]? = some (13, z_ic 0 1) := rfl
theorem c94_14 : (zT 94)[8]? = some (14, z_is 2 1) := rfl
theorem c94_15 : (zT 94)[9]? = some (15, z_ic 0 1) := rfl
theorem c94_16 : (zT 94)[10]? = some (16, z_is 3 1) := rfl
theorem c94_17 : (zT 94)[11]? = some (17, z_il 3 1) := rfl
theorem c94_18 : (zT 94)[12]? = some (18, z_al 0 1) := rfl
theorem c94_19 : (zT 94)[13]? = some (19, z_gR 11 9) := rfl
theorem c94_22 : (zT 94)[14]? = some (22, z_gI 10 6) := rfl
theorem c94_25 : (zT 94)[15]? = some (25, z_ige 87) := rfl
theorem c94_28 : (zT 94)[16]? = some (28, z_lc 7919 3) := rfl
theorem c94_31 : (zT 94)[17]? = some (31, z_il 1 1) := rfl
theorem c94_32 : (zT 94)[18]? = some (32, z_i2l) := rfl
theorem c94_33 : (zT 94)[19]? = some (33, z_lmul) := rfl
theorem c94_34 : (zT 94)[20]? = some (34, z_lc 6151 3) := rfl
theorem c94_37 : (zT 94)[21]? = some (37, z_il 3 1) := rfl
theorem c94_38 : (zT 94)[22]? = some (38, z_i2l) := rfl
theorem c94_39 : (zT 94)[23]? = some (39, z_lmul) := rfl
theorem c94_40 : (zT 94)[24]? = some (40, z_ladd) := rfl
theorem c94_41 : (zT 94)[25]? = some (41, z_lc 1 1) := rfl
theorem c94_42 : (zT 94)[26]? = some (42, z_ladd) := rfl
theorem c94_43 : (zT 94)[27]? = some (43, z_ls 4 2) := rfl
theorem c94_45 : (zT 94)[28]? = some (45, z_ll 4 2) := rfl
theorem c94_47 : (zT 94)[29]? = some (47, z_ll 4 2) := rfl
theorem c94_49 : (zT 94)[30]? = some (49, z_lmul) := rfl
theorem c94_50 : (zT 94)[31]? = some (50, z_lc 65521 3) := rfl
theorem c94_53 : (zT 94)[32]? = some (53, z_lrem) := rfl
theorem c94_54 : (zT 94)[33]? = some (54, z_lc 10 3) := rfl
theorem c94_57 : (zT 94)[34]? = some (57, z_lrem) := rfl
theorem c94_58 : (zT 94)[35]? = some (58, z_al 0 1) := rfl
theorem c94_59 : (zT 94)[36]? = some (59, z_gR 11 9) := rfl
theorem c94_62 : (zT 94)[37]? = some (62, z_gR 10 1) := rfl
theorem c94_65 : (zT 94)[38]? = some (65, z_il 3 1) := rfl
theorem c94_66 : (zT 94)[39]? = some (66, z_aald 25) := rfl
theorem c94_67 : (zT 94)[40]? = some (67, z_gI 3 4) := rfl
theorem c94_70 : (zT 94)[41]? = some (70, z_i2l) := rfl
theorem c94_71 : (zT 94)[42]? = some (71, z_lcmp) := rfl
theorem c94_72 : (zT 94)[43]? = some (72, z_ifge 81) := rfl
theorem c94_75 : (zT 94)[44]? = some (75, z_il 2 1) := rfl
theorem c94_76 : (zT 94)[45]? = some (76, z_ic 1 1) := rfl
theorem c94_77 : (zT 94)[46]? = some (77, z_il 3 1) := rfl
theorem c94_78 : (zT 94)[47]? = some (78, z_ishl) := rfl
theorem c94_79 : (zT 94)[48]? = some (79, z_ior) := rfl
theorem c94_80 : (zT 94)[49]? = some (80, z_is 2 1) := rfl
theorem c94_81 : (zT 94)[50]? = some (81, z_inc 3 1) := rfl
theorem c94_84 : (zT 94)[51]? = some (84, z_goto 17) := rfl
theorem c94_87 : (zT 94)[52]? = some (87, z_il 2 1) := rfl
theorem c94_88 : (zT 94)[53]? = some (88, z_ir) := rfl
theorem c95_0 : (zT 95)[0]? = some (0, z_al 0 1) := rfl
theorem c95_1 : (zT 95)[1]? = some (1, z_gI 11 11) := rfl
theorem c95_4 : (zT 95)[2]? = some (4, z_ic 2 1) := rfl
theorem c95_5 : (zT 95)[3]? = some (5, z_ilt 11) := rfl
theorem c95_8 : (zT 95)[4]? = some (8, z_ic (-3) 2) := rfl
theorem c95_10 : (zT 95)[5]? = some (10, z_ir) := rfl
theorem c95_11 : (zT 95)[6]? = some (11, z_al 0 1) := rfl
theorem c95_12 : (zT 95)[7]? = some (12, z_gI 11 11) := rfl
theorem c95_15 : (zT 95)[8]? = some (15, z_ifne 32) := rfl
theorem c95_18 : (zT 95)[9]? = some (18, z_al 0 1) := rfl
theorem c95_19 : (zT 95)[10]? = some (19, z_gR 11 4) := rfl
theorem c95_22 : (zT 95)[11]? = some (22, z_al 0 1) := rfl
theorem c95_23 : (zT 95)[12]? = some (23, z_gR 11 3) := rfl
theorem c95_26 : (zT 95)[13]? = some (26, z_cV 0 2 3 1) := rfl
theorem c95_29 : (zT 95)[14]? = some (29, z_goto 43) := rfl
theorem c95_32 : (zT 95)[15]? = some (32, z_al 0 1) := rfl
theorem c95_33 : (zT 95)[16]? = some (33, z_gR 11 5) := rfl
theorem c95_36 : (zT 95)[17]? = some (36, z_al 0 1) := rfl
theorem c95_37 : (zT 95)[18]? = some (37, z_gR 11 3) := rfl
theorem c95_40 : (zT 95)[19]? = some (40, z_cV 0 2 3 1) := rfl
theorem c95_43 : (zT 95)[20]? = some (43, z_al 0 1) := rfl
theorem c95_44 : (zT 95)[21]? = some (44, z_dup) := rfl
theorem c95_45 : (zT 95)[22]? = some (45, z_gI 11 11) := rfl
theorem c95_48 : (zT 95)[23]? = some (48, z_ic 1 1) := rfl
theorem c95_49 : (zT 95)[24]? = some (49, z_iadd) := rfl
theorem c95_50 : (zT 95)[25]? = some (50, z_pI 11 11) := rfl
theorem c95_53 : (zT 95)[26]? = some (53, z_al 0 1) := rfl
theorem c95_54 : (zT 95)[27]? = some (54, z_gI 11 11) := rfl
theorem c95_57 : (zT 95)[28]? = some (57, z_ir) := rfl
theorem c96_0 : (zT 96)[0]? = some (0, z_al 0 1) := rfl
theorem c96_1 : (zT 96)[1]? = some (1, z_gI 11 11) := rfl
theorem c96_4 : (zT 96)[2]? = some (4, z_ifgt 10) := rfl
theorem c96_7 : (zT 96)[3]? = some (7, z_ic (-2) 2) := rfl
theorem c96_9 : (zT 96)[4]? = some (9, z_ir) := rfl
theorem c96_10 : (zT 96)[5]? = some (10, z_al 0 1) := rfl
theorem c96_11 : (zT 96)[6]? = some (11, z_dup) := rfl
theorem c96_12 : (zT 96)[7]? = some (12, z_gI 11 11) := rfl
theorem c96_15 : (zT 96)[8]? = some (15, z_ic 1 1) := rfl
theorem c96_16 : (zT 96)[9]? = some (16, z_isub) := rfl
theorem c96_17 : (zT 96)[10]? = some (17, z_pI 11 11) := rfl
theorem c96_20 : (zT 96)[11]? = some (20, z_al 0 1) := rfl
theorem c96_21 : (zT 96)[12]? = some (21, z_gR 11 3) := rfl
theorem c96_24 : (zT 96)[13]? = some (24, z_al 0 1) := rfl
theorem c96_25 : (zT 96)[14]? = some (25, z_gI 11 11) := rfl
theorem c96_28 : (zT 96)[15]? = some (28, z_ifne 38) := rfl
theorem c96_31 : (zT 96)[16]? = some (31, z_al 0 1) := rfl
theorem c96_32 : (zT 96)[17]? = some (32, z_gR 11 4) := rfl
theorem c96_35 : (zT 96)[18]? = some (35, z_goto 42) := rfl
theorem c96_38 : (zT 96)[19]? = some (38, z_al 0 1) := rfl
theorem c96_39 : (zT 96)[20]? = some (39, z_gR 11 5) := rfl
theorem c96_42 : (zT 96)[21]? = some (42, z_cV 0 2 3 1) := rfl
theorem c96_45 : (zT 96)[22]? = some (45, z_al 0 1) := rfl
theorem c96_46 : (zT 96)[23]? = some (46, z_cV 11 98 2 0) := rfl
theorem c96_49 : (zT 96)[24]? = some (49, z_al 0 1) := rfl
theorem c96_50 : (zT 96)[25]? = some (50, z_gI 11 11) := rfl
theorem c96_53 : (zT 96)[26]? = some (53, z_ir) := rfl
theorem c97_0 : (zT 97)[0]? = some (0, z_il 1 1) := rfl
theorem c97_1 : (zT 97)[1]? = some (1, z_sw 73 [(0, 36), (1, 44), (2, 52), (3, 60), (4, 68)]) := rfl
theorem c97_36 : (zT 97)[2]? = some (36, z_al 0 1) := rfl
theorem c97_37 : (zT 97)[3]? = some (37, z_gR 11 9) := rfl
theorem c97_40 : (zT 97)[4]? = some (40, z_gI 10 5) := rfl
theorem c97_43 : (zT 97)[5]? = some (43, z_ir) := rfl
theorem c97_44 : (zT 97)[6]? = some (44, z_al 0 1) := rfl
theorem c97_45 : (zT 97)[7]? = some (45, z_gR 11 9) := rfl
theorem c97_48 : (zT 97)[8]? = some (48, z_gI 10 6) := rfl
theorem c97_51 : (zT 97)[9]? = some (51, z_ir) := rfl
theorem c97_52 : (zT 97)[10]? = some (52, z_al 0 1) := rfl
theorem c97_53 : (zT 97)[11]? = some (53, z_gR 11 0) := rfl
theorem c97_56 : (zT 97)[12]? = some (56, z_gI 8 1) := rfl
theorem c97_59 : (zT 97)[13]? = some (59, z_ir) := rfl
theorem c97_60 : (zT 97)[14]? = some (60, z_al 0 1) := rfl
theorem c97_61 : (zT 97)[15]? = some (61, z_gR 11 3) := rfl
theorem c97_64 : (zT 97)[16]? = some (64, z_gI 0 4) := rfl
theorem c97_67 : (zT 97)[17]? = some (67, z_ir) := rfl
theorem c97_68 : (zT 97)[18]? = some (68, z_al 0 1) := rfl
theorem c97_69 : (zT 97)[19]? = some (69, z_gI 11 11) := rfl
theorem c97_72 : (zT 97)[20]? = some (72, z_ir) := rfl
theorem c97_73 : (zT 97)[21]? = some (73, z_ic (-1) 1) := rfl
theorem c97_74 : (zT 97)[22]? = some (74, z_ir) := rfl
theorem c98_0 : (zT 98)[0]? = some (0, z_al 0 1) := rfl
theorem c98_1 : (zT 98)[1]? = some (1, z_gR 11 6) := rfl
theorem c98_4 : (zT 98)[2]? = some (4, z_al 0 1) := rfl
theorem c98_5 : (zT 98)[3]? = some (5, z_gR 11 9) := rfl
theorem c98_8 : (zT 98)[4]? = some (8, z_cV 2 12 3 1) := rfl
theorem c98_11 : (zT 98)[5]? = some (11, z_ic 0 1) := rfl
theorem c98_12 : (zT 98)[6]? = some (12, z_is 1 1) := rfl
theorem c98_13 : (zT 98)[7]? = some (13, z_il 1 1) := rfl
theorem c98_14 : (zT 98)[8]? = some (14, z_al 0 1) := rfl
theorem c98_15 : (zT 98)[9]? = some (15, z_gR 11 3) := rfl
theorem c98_18 : (zT 98)[10]? = some (18, z_gI 0 4) := rfl
theorem c98_21 : (zT 98)[11]? = some (21, z_ige 50) := rfl
theorem c98_24 : (zT 98)[12]? = some (24, z_al 0 1) := rfl
theorem c98_25 : (zT 98)[13]? = some (25, z_gR 11 6) := rfl
theorem c98_28 : (zT 98)[14]? = some (28, z_al 0 1) := rfl
theorem c98_29 : (zT 98)[15]? = some (29, z_gR 11 9) := rfl
theorem c98_32 : (zT 98)[16]? = some (32, z_al 0 1) := rfl
theorem c98_33 : (zT 98)[17]? = some (33, z_gR 11 2) := rfl
theorem c98_36 : (zT 98)[18]? = some (36, z_al 0 1) := rfl
theorem c98_37 : (zT 98)[19]? = some (37, z_gR 11 3) := rfl
theorem c98_40 : (zT 98)[20]? = some (40, z_il 1 1) := rfl
theorem c98_41 : (zT 98)[21]? = some (41, z_cV 2 14 8 4) := rfl
theorem c98_44 : (zT 98)[22]? = some (44, z_inc 1 1) := rfl
theorem c98_47 : (zT 98)[23]? = some (47, z_goto 13) := rfl
theorem c98_50 : (zT 98)[24]? = some (50, z_vr) := rfl
theorem c99_0 : (zT 99)[0]? = some (0, z_al 0 1) := rfl
theorem c99_1 : (zT 99)[1]? = some (1, z_gR 11 2) := rfl
theorem c99_4 : (zT 99)[2]? = some (4, z_al 0 1) := rfl
theorem c99_5 : (zT 99)[3]? = some (5, z_gR 11 9) := rfl
theorem c99_8 : (zT 99)[4]? = some (8, z_il 1 1) := rfl
theorem c99_9 : (zT 99)[5]? = some (9, z_ic 30 2) := rfl
theorem c99_11 : (zT 99)[6]? = some (11, z_ic (-1) 1) := rfl
theorem c99_12 : (zT 99)[7]? = some (12, z_ic (-1) 1) := rfl
theorem c99_13 : (zT 99)[8]? = some (13, z_cV 1 4 9 5) := rfl
theorem c99_16 : (zT 99)[9]? = some (16, z_al 0 1) := rfl
theorem c99_17 : (zT 99)[10]? = some (17, z_gR 11 2) := rfl
theorem c99_20 : (zT 99)[11]? = some (20, z_cV 1 7 1 0) := rfl
theorem c99_23 : (zT 99)[12]? = some (23, z_ir) := rfl
theorem c100_0 : (zT 100)[0]? = some (0, z_il 0 1) := rfl
theorem c100_1 : (zT 100)[1]? = some (1, z_il 1 1) := rfl
theorem c100_2 : (zT 100)[2]? = some (2, z_ilt 14) := rfl
theorem c100_5 : (zT 100)[3]? = some (5, z_il 0 1) := rfl
theorem c100_6 : (zT 100)[4]? = some (6, z_il 2 1) := rfl
theorem c100_7 : (zT 100)[5]? = some (7, z_igt 14) := rfl
theorem c100_10 : (zT 100)[6]? = some (10, z_ic 1 1) := rfl
theorem c100_11 : (zT 100)[7]? = some (11, z_goto 15) := rfl
theorem c100_14 : (zT 100)[8]? = some (14, z_ic 0 1) := rfl
theorem c100_15 : (zT 100)[9]? = some (15, z_zr) := rfl
theorem c101_0 : (zT 101)[0]? = some (0, z_il 0 1) := rfl
theorem c101_1 : (zT 101)[1]? = some (1, z_ic 0 1) := rfl
theorem c101_2 : (zT 101)[2]? = some (2, z_ic 2 1) := rfl
theorem c101_3 : (zT 101)[3]? = some (3, z_cS 100 3 3) := rfl
theorem c101_6 : (zT 101)[4]? = some (6, z_zr) := rfl
theorem c102_0 : (zT 102)[0]? = some (0, z_il 0 1) := rfl
theorem c102_1 : (zT 102)[1]? = some (1, z_ic 0 1) := rfl
theorem c102_2 : (zT 102)[2]? = some (2, z_ic 30 2) := rfl
theorem c102_4 : (zT 102)[3]? = some (4, z_cS 100 3 3) := rfl
theorem c102_7 : (zT 102)[4]? = some (7, z_zr) := rfl
theorem c103_0 : (zT 103)[0]? = some (0, z_ll 0 1) := rfl
theorem c103_1 : (zT 103)[1]? = some (1, z_ls 4 2) := rfl
theorem c103_3 : (zT 103)[2]? = some (3, z_ll 2 1) := rfl
theorem c103_4 : (zT 103)[3]? = some (4, z_ls 6 2) := rfl
theorem c103_6 : (zT 103)[4]? = some (6, z_ic 0 1) := rfl
theorem c103_7 : (zT 103)[5]? = some (7, z_is 8 2) := rfl
theorem c103_9 : (zT 103)[6]? = some (9, z_il 8 2) := rfl
theorem c103_11 : (zT 103)[7]? = some (11, z_ic 100 2) := rfl
theorem c103_13 : (zT 103)[8]? = some (13, z_ige 44) := rfl
theorem c103_16 : (zT 103)[9]? = some (16, z_ll 6 2) := rfl
theorem c103_18 : (zT 103)[10]? = some (18, z_lc 0 1) := rfl
theorem c103_19 : (zT 103)[11]? = some (19, z_lcmp) := rfl
theorem c103_20 : (zT 103)[12]? = some (20, z_ifeq 44) := rfl
theorem c103_23 : (zT 103)[13]? = some (23, z_ll 4 2) := rfl
theorem c103_25 : (zT 103)[14]? = some (25, z_ll 6 2) := rfl
theorem c103_27 : (zT 103)[15]? = some (27, z_lrem) := rfl
theorem c103_28 : (zT 103)[16]? = some (28, z_ls 9 2) := rfl
theorem c103_30 : (zT 103)[17]? = some (30, z_ll 6 2) := rfl
theorem c103_32 : (zT 103)[18]? = some (32, z_ls 4 2) := rfl
theorem c103_34 : (zT 103)[19]? = some (34, z_ll 9 2) := rfl
theorem c103_36 : (zT 103)[20]? = some (36, z_ls 6 2) := rfl
theorem c103_38 : (zT 103)[21]? = some (38, z_inc 8 1) := rfl
theorem c103_41 : (zT 103)[22]? = some (41, z_goto 9) := rfl
theorem c103_44 : (zT 103)[23]? = some (44, z_ll 4 2) := rfl
theorem c103_46 : (zT 103)[24]? = some (46, z_lr) := rfl
theorem c175_0 : (zT 175)[0]? = some (0, z_il 0 1) := rfl
theorem c175_1 : (zT 175)[1]? = some (1, z_il 0 1) := rfl
theorem c175_2 : (zT 175)[2]? = some (2, z_ic 1 1) := rfl
theorem c175_3 : (zT 175)[3]? = some (3, z_iushr) := rfl
theorem c175_4 : (zT 175)[4]? = some (4, z_ic 1431655765 3) := rfl
theorem c175_7 : (zT 175)[5]? = some (7, z_iand) := rfl
theorem c175_8 : (zT 175)[6]? = some (8, z_isub) := rfl
theorem c175_9 : (zT 175)[7]? = some (9, z_is 0 1) := rfl
theorem c175_10 : (zT 175)[8]? = some (10, z_il 0 1) := rfl
theorem c175_11 : (zT 175)[9]? = some (11, z_ic 858993459 3) := rfl
theorem c175_14 : (zT 175)[10]? = some (14, z_iand) := rfl
theorem c175_15 : (zT 175)[11]? = some (15, z_il 0 1) := rfl
theorem c175_16 : (zT 175)[12]? = some (16, z_ic 2 1) := rfl
theorem c175_17 : (zT 175)[13]? = some (17, z_iushr) := rfl
theorem c175_18 : (zT 175)[14]? = some (18, z_ic 858993459 3) := rfl
theorem c175_21 : (zT 175)[15]? = some (21, z_iand) := rfl
theorem c175_22 : (zT 175)[16]? = some (22, z_iadd) := rfl
theorem c175_23 : (zT 175)[17]? = some (23, z_is 0 1) := rfl
theorem c175_24 : (zT 175)[18]? = some (24, z_il 0 1) := rfl
theorem c175_25 : (zT 175)[19]? = some (25, z_il 0 1) := rfl
theorem c175_26 : (zT 175)[20]? = some (26, z_ic 4 1) := rfl
theorem c175_27 : (zT 175)[21]? = some (27, z_iushr) := rfl
theorem c175_28 : (zT 175)[22]? = some (28, z_iadd) := rfl
theorem c175_29 : (zT 175)[23]? = some (29, z_ic 252645135 3) := rfl
theorem c175_32 : (zT 175)[24]? = some (32, z_iand) := rfl
theorem c175_33 : (zT 175)[25]? = some (33, z_is 0 1) := rfl
theorem c175_34 : (zT 175)[26]? = some (34, z_il 0 1) := rfl
theorem c175_35 : (zT 175)[27]? = some (35, z_il 0 1) := rfl
theorem c175_36 : (zT 175)[28]? = some (36, z_ic 8 2) := rfl
theorem c175_38 : (zT 175)[29]? = some (38, z_iushr) := rfl
theorem c175_39 : (zT 175)[30]? = some (39, z_iadd) := rfl
theorem c175_40 : (zT 175)[31]? = some (40, z_is 0 1) := rfl
theorem c175_41 : (zT 175)[32]? = some (41, z_il 0 1) := rfl
theorem c175_42 : (zT 175)[33]? = some (42, z_il 0 1) := rfl
theorem c175_43 : (zT 175)[34]? = some (43, z_ic 16 2) := rfl
theorem c175_45 : (zT 175)[35]? = some (45, z_iushr) := rfl
theorem c175_46 : (zT 175)[36]? = some (46, z_iadd) := rfl
theorem c175_47 : (zT 175)[37]? = some (47, z_is 0 1) := rfl
theorem c175_48 : (zT 175)[38]? = some (48, z_il 0 1) := rfl
theorem c175_49 : (zT 175)[39]? = some (49, z_ic 63 2) := rfl
theorem c175_51 : (zT 175)[40]? = some (51, z_iand) := rfl
theorem c175_52 : (zT 175)[41]? = some (52, z_ir) := rfl
