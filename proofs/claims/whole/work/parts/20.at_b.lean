/-! ===== places of the code ===== -/
theorem c105_0 : (zT 105)[0]? = some (0, z_ll 0 1) := rfl
theorem c105_1 : (zT 105)[1]? = some (1, z_ll 2 1) := rfl
theorem c105_2 : (zT 105)[2]? = some (2, z_lcmp) := rfl
theorem c105_3 : (zT 105)[3]? = some (3, z_iflt 17) := rfl
theorem c105_6 : (zT 105)[4]? = some (6, z_ll 0 1) := rfl
theorem c105_7 : (zT 105)[5]? = some (7, z_ll 4 2) := rfl
theorem c105_9 : (zT 105)[6]? = some (9, z_lcmp) := rfl
theorem c105_10 : (zT 105)[7]? = some (10, z_ifgt 17) := rfl
theorem c105_13 : (zT 105)[8]? = some (13, z_ic 1 1) := rfl
theorem c105_14 : (zT 105)[9]? = some (14, z_goto 18) := rfl
theorem c105_17 : (zT 105)[10]? = some (17, z_ic 0 1) := rfl
theorem c105_18 : (zT 105)[11]? = some (18, z_zr) := rfl
theorem c106_0 : (zT 106)[0]? = some (0, z_il 0 1) := rfl
theorem c106_1 : (zT 106)[1]? = some (1, z_il 1 1) := rfl
theorem c106_2 : (zT 106)[2]? = some (2, z_ishr) := rfl
theorem c106_3 : (zT 106)[3]? = some (3, z_ic 1 1) := rfl
theorem c106_4 : (zT 106)[4]? = some (4, z_iand) := rfl
theorem c106_5 : (zT 106)[5]? = some (5, z_ic 1 1) := rfl
theorem c106_6 : (zT 106)[6]? = some (6, z_ine 13) := rfl
theorem c106_9 : (zT 106)[7]? = some (9, z_ic 1 1) := rfl
theorem c106_10 : (zT 106)[8]? = some (10, z_goto 14) := rfl
theorem c106_13 : (zT 106)[9]? = some (13, z_ic 0 1) := rfl
theorem c106_14 : (zT 106)[10]? = some (14, z_zr) := rfl
theorem c107_0 : (zT 107)[0]? = some (0, z_il 0 1) := rfl
theorem c107_1 : (zT 107)[1]? = some (1, z_ifge 9) := rfl
theorem c107_4 : (zT 107)[2]? = some (4, z_il 0 1) := rfl
theorem c107_5 : (zT 107)[3]? = some (5, z_ineg) := rfl
theorem c107_6 : (zT 107)[4]? = some (6, z_goto 10) := rfl
theorem c107_9 : (zT 107)[5]? = some (9, z_il 0 1) := rfl
theorem c107_10 : (zT 107)[6]? = some (10, z_ir) := rfl
theorem c108_0 : (zT 108)[0]? = some (0, z_al 0 1) := rfl
theorem c108_1 : (zT 108)[1]? = some (1, z_gR 12 11) := rfl
theorem c108_4 : (zT 108)[2]? = some (4, z_il 1 1) := rfl
theorem c108_5 : (zT 108)[3]? = some (5, z_ic 10 2) := rfl
theorem c108_7 : (zT 108)[4]? = some (7, z_iast) := rfl
theorem c108_8 : (zT 108)[5]? = some (8, z_al 0 1) := rfl
theorem c108_9 : (zT 108)[6]? = some (9, z_gR 12 12) := rfl
theorem c108_12 : (zT 108)[7]? = some (12, z_il 1 1) := rfl
theorem c108_13 : (zT 108)[8]? = some (13, z_ic 0 1) := rfl
theorem c108_14 : (zT 108)[9]? = some (14, z_iast) := rfl
theorem c108_15 : (zT 108)[10]? = some (15, z_al 0 1) := rfl
theorem c108_16 : (zT 108)[11]? = some (16, z_gR 12 13) := rfl
theorem c108_19 : (zT 108)[12]? = some (19, z_il 1 1) := rfl
theorem c108_20 : (zT 108)[13]? = some (20, z_ic 1 1) := rfl
theorem c108_21 : (zT 108)[14]? = some (21, z_iast) := rfl
theorem c108_22 : (zT 108)[15]? = some (22, z_ic 0 1) := rfl
theorem c108_23 : (zT 108)[16]? = some (23, z_is 2 1) := rfl
theorem c108_24 : (zT 108)[17]? = some (24, z_il 2 1) := rfl
theorem c108_25 : (zT 108)[18]? = some (25, z_ic 3 1) := rfl
theorem c108_26 : (zT 108)[19]? = some (26, z_ige 46) := rfl
theorem c108_29 : (zT 108)[20]? = some (29, z_al 0 1) := rfl
theorem c108_30 : (zT 108)[21]? = some (30, z_gR 12 15) := rfl
theorem c108_33 : (zT 108)[22]? = some (33, z_ic 3 1) := rfl
theorem c108_34 : (zT 108)[23]? = some (34, z_il 1 1) := rfl
theorem c108_35 : (zT 108)[24]? = some (35, z_imul) := rfl
theorem c108_36 : (zT 108)[25]? = some (36, z_il 2 1) := rfl
theorem c108_37 : (zT 108)[26]? = some (37, z_iadd) := rfl
theorem c108_38 : (zT 108)[27]? = some (38, z_ic 0 1) := rfl
theorem c108_39 : (zT 108)[28]? = some (39, z_iast) := rfl
theorem c108_40 : (zT 108)[29]? = some (40, z_inc 2 1) := rfl
theorem c108_43 : (zT 108)[30]? = some (43, z_goto 24) := rfl
theorem c108_46 : (zT 108)[31]? = some (46, z_vr) := rfl
theorem c109_0 : (zT 109)[0]? = some (0, z_al 0 1) := rfl
theorem c109_1 : (zT 109)[1]? = some (1, z_gR 12 2) := rfl
theorem c109_4 : (zT 109)[2]? = some (4, z_il 1 1) := rfl
theorem c109_5 : (zT 109)[3]? = some (5, z_ic 0 1) := rfl
theorem c109_6 : (zT 109)[4]? = some (6, z_iast) := rfl
theorem c109_7 : (zT 109)[5]? = some (7, z_al 0 1) := rfl
theorem c109_8 : (zT 109)[6]? = some (8, z_gR 12 5) := rfl
theorem c109_11 : (zT 109)[7]? = some (11, z_il 1 1) := rfl
theorem c109_12 : (zT 109)[8]? = some (12, z_ic 0 1) := rfl
theorem c109_13 : (zT 109)[9]? = some (13, z_iast) := rfl
theorem c109_14 : (zT 109)[10]? = some (14, z_al 0 1) := rfl
theorem c109_15 : (zT 109)[11]? = some (15, z_gR 12 14) := rfl
theorem c109_18 : (zT 109)[12]? = some (18, z_il 1 1) := rfl
theorem c109_19 : (zT 109)[13]? = some (19, z_ic 0 1) := rfl
theorem c109_20 : (zT 109)[14]? = some (20, z_iast) := rfl
theorem c109_21 : (zT 109)[15]? = some (21, z_al 0 1) := rfl
theorem c109_22 : (zT 109)[16]? = some (22, z_gR 12 16) := rfl
theorem c109_25 : (zT 109)[17]? = some (25, z_il 1 1) := rfl
theorem c109_26 : (zT 109)[18]? = some (26, z_ic 0 1) := rfl
theorem c109_27 : (zT 109)[19]? = some (27, z_iast) := rfl
theorem c109_28 : (zT 109)[20]? = some (28, z_al 0 1) := rfl
theorem c109_29 : (zT 109)[21]? = some (29, z_gR 12 18) := rfl
theorem c109_32 : (zT 109)[22]? = some (32, z_il 1 1) := rfl
theorem c109_33 : (zT 109)[23]? = some (33, z_ic 0 1) := rfl
theorem c109_34 : (zT 109)[24]? = some (34, z_iast) := rfl
theorem c109_35 : (zT 109)[25]? = some (35, z_ic 0 1) := rfl
theorem c109_36 : (zT 109)[26]? = some (36, z_is 2 1) := rfl
theorem c109_37 : (zT 109)[27]? = some (37, z_il 2 1) := rfl
theorem c109_38 : (zT 109)[28]? = some (38, z_ic 18 2) := rfl
theorem c109_40 : (zT 109)[29]? = some (40, z_ige 61) := rfl
theorem c109_43 : (zT 109)[30]? = some (43, z_al 0 1) := rfl
theorem c109_44 : (zT 109)[31]? = some (44, z_gR 12 17) := rfl
theorem c109_47 : (zT 109)[32]? = some (47, z_ic 18 2) := rfl
theorem c109_49 : (zT 109)[33]? = some (49, z_il 1 1) := rfl
theorem c109_50 : (zT 109)[34]? = some (50, z_imul) := rfl
theorem c109_51 : (zT 109)[35]? = some (51, z_il 2 1) := rfl
theorem c109_52 : (zT 109)[36]? = some (52, z_iadd) := rfl
theorem c109_53 : (zT 109)[37]? = some (53, z_ic 0 1) := rfl
theorem c109_54 : (zT 109)[38]? = some (54, z_iast) := rfl
theorem c109_55 : (zT 109)[39]? = some (55, z_inc 2 1) := rfl
theorem c109_58 : (zT 109)[40]? = some (58, z_goto 37) := rfl
theorem c109_61 : (zT 109)[41]? = some (61, z_ic 0 1) := rfl
theorem c109_62 : (zT 109)[42]? = some (62, z_is 2 1) := rfl
theorem c109_63 : (zT 109)[43]? = some (63, z_il 2 1) := rfl
theorem c109_64 : (zT 109)[44]? = some (64, z_ic 3 1) := rfl
theorem c109_65 : (zT 109)[45]? = some (65, z_ige 86) := rfl
theorem c109_68 : (zT 109)[46]? = some (68, z_al 0 1) := rfl
theorem c109_69 : (zT 109)[47]? = some (69, z_gR 12 22) := rfl
theorem c109_72 : (zT 109)[48]? = some (72, z_ic 3 1) := rfl
theorem c109_73 : (zT 109)[49]? = some (73, z_il 1 1) := rfl
theorem c109_74 : (zT 109)[50]? = some (74, z_imul) := rfl
theorem c109_75 : (zT 109)[51]? = some (75, z_il 2 1) := rfl
theorem c109_76 : (zT 109)[52]? = some (76, z_iadd) := rfl
theorem c109_77 : (zT 109)[53]? = some (77, z_ic 20 2) := rfl
theorem c109_79 : (zT 109)[54]? = some (79, z_iast) := rfl
theorem c109_80 : (zT 109)[55]? = some (80, z_inc 2 1) := rfl
theorem c109_83 : (zT 109)[56]? = some (83, z_goto 63) := rfl
theorem c109_86 : (zT 109)[57]? = some (86, z_ic 0 1) := rfl
theorem c109_87 : (zT 109)[58]? = some (87, z_is 2 1) := rfl
theorem c109_88 : (zT 109)[59]? = some (88, z_il 2 1) := rfl
theorem c109_89 : (zT 109)[60]? = some (89, z_ic 5 1) := rfl
theorem c109_90 : (zT 109)[61]? = some (90, z_ige 110) := rfl
theorem c109_93 : (zT 109)[62]? = some (93, z_al 0 1) := rfl
theorem c109_94 : (zT 109)[63]? = some (94, z_gR 12 23) := rfl
theorem c109_97 : (zT 109)[64]? = some (97, z_ic 5 1) := rfl
theorem c109_98 : (zT 109)[65]? = some (98, z_il 1 1) := rfl
theorem c109_99 : (zT 109)[66]? = some (99, z_imul) := rfl
theorem c109_100 : (zT 109)[67]? = some (100, z_il 2 1) := rfl
theorem c109_101 : (zT 109)[68]? = some (101, z_iadd) := rfl
theorem c109_102 : (zT 109)[69]? = some (102, z_ic 5 1) := rfl
theorem c109_103 : (zT 109)[70]? = some (103, z_iast) := rfl
theorem c109_104 : (zT 109)[71]? = some (104, z_inc 2 1) := rfl
theorem c109_107 : (zT 109)[72]? = some (107, z_goto 88) := rfl
theorem c109_110 : (zT 109)[73]? = some (110, z_vr) := rfl
theorem c110_0 : (zT 110)[0]? = some (0, z_il 1 1) := rfl
theorem c110_1 : (zT 110)[1]? = some (1, z_i2l) := rfl
theorem c110_2 : (zT 110)[2]? = some (2, z_lc 1 1) := rfl
theorem c110_3 : (zT 110)[3]? = some (3, z_lc 8 3) := rfl
theorem c110_6 : (zT 110)[4]? = some (6, z_cS 105 6 3) := rfl
theorem c110_9 : (zT 110)[5]? = some (9, z_ifne 14) := rfl
theorem c110_12 : (zT 110)[6]? = some (12, z_ic (-1) 1) := rfl
theorem c110_13 : (zT 110)[7]? = some (13, z_ir) := rfl
theorem c110_14 : (zT 110)[8]? = some (14, z_al 0 1) := rfl
theorem c110_15 : (zT 110)[9]? = some (15, z_gI 12 0) := rfl
theorem c110_18 : (zT 110)[10]? = some (18, z_il 1 1) := rfl
theorem c110_19 : (zT 110)[11]? = some (19, z_iadd) := rfl
theorem c110_20 : (zT 110)[12]? = some (20, z_ic 400 3) := rfl
theorem c110_23 : (zT 110)[13]? = some (23, z_ile 29) := rfl
theorem c110_26 : (zT 110)[14]? = some (26, z_ic (-3) 2) := rfl
theorem c110_28 : (zT 110)[15]? = some (28, z_ir) := rfl
theorem c110_29 : (zT 110)[16]? = some (29, z_il 1 1) := rfl
theorem c110_30 : (zT 110)[17]? = some (30, z_ic 1 1) := rfl
theorem c110_31 : (zT 110)[18]? = some (31, z_isub) := rfl
theorem c110_32 : (zT 110)[19]? = some (32, z_is 4 2) := rfl
theorem c110_34 : (zT 110)[20]? = some (34, z_il 4 2) := rfl
theorem c110_36 : (zT 110)[21]? = some (36, z_iflt 76) := rfl
theorem c110_39 : (zT 110)[22]? = some (39, z_al 0 1) := rfl
theorem c110_40 : (zT 110)[23]? = some (40, z_gR 12 1) := rfl
theorem c110_43 : (zT 110)[24]? = some (43, z_al 0 1) := rfl
theorem c110_44 : (zT 110)[25]? = some (44, z_gI 12 0) := rfl
theorem c110_47 : (zT 110)[26]? = some (47, z_ll 2 1) := rfl
theorem c110_48 : (zT 110)[27]? = some (48, z_ic 8 2) := rfl
theorem c110_50 : (zT 110)[28]? = some (50, z_il 4 2) := rfl
theorem c110_52 : (zT 110)[29]? = some (52, z_imul) := rfl
theorem c110_53 : (zT 110)[30]? = some (53, z_lshr) := rfl
theorem c110_54 : (zT 110)[31]? = some (54, z_lc 255 3) := rfl
theorem c110_57 : (zT 110)[32]? = some (57, z_land) := rfl
theorem c110_58 : (zT 110)[33]? = some (58, z_l2i) := rfl
theorem c110_59 : (zT 110)[34]? = some (59, z_iast) := rfl
theorem c110_60 : (zT 110)[35]? = some (60, z_al 0 1) := rfl
theorem c110_61 : (zT 110)[36]? = some (61, z_dup) := rfl
theorem c110_62 : (zT 110)[37]? = some (62, z_gI 12 0) := rfl
theorem c110_65 : (zT 110)[38]? = some (65, z_ic 1 1) := rfl
theorem c110_66 : (zT 110)[39]? = some (66, z_iadd) := rfl
theorem c110_67 : (zT 110)[40]? = some (67, z_pI 12 0) := rfl
theorem c110_70 : (zT 110)[41]? = some (70, z_inc 4 (-1)) := rfl
theorem c110_73 : (zT 110)[42]? = some (73, z_goto 34) := rfl
theorem c110_76 : (zT 110)[43]? = some (76, z_al 0 1) := rfl
theorem c110_77 : (zT 110)[44]? = some (77, z_gI 12 0) := rfl
theorem c110_80 : (zT 110)[45]? = some (80, z_ir) := rfl
theorem c111_0 : (zT 111)[0]? = some (0, z_al 0 1) := rfl
theorem c111_1 : (zT 111)[1]? = some (1, z_gI 12 0) := rfl
theorem c111_4 : (zT 111)[2]? = some (4, z_is 1 1) := rfl
theorem c111_5 : (zT 111)[3]? = some (5, z_al 0 1) := rfl
theorem c111_6 : (zT 111)[4]? = some (6, z_ic 0 1) := rfl
theorem c111_7 : (zT 111)[5]? = some (7, z_pI 12 0) := rfl
theorem c111_10 : (zT 111)[6]? = some (10, z_il 1 1) := rfl
theorem c111_11 : (zT 111)[7]? = some (11, z_ir) := rfl
theorem c112_0 : (zT 112)[0]? = some (0, z_il 1 1) := rfl
theorem c112_1 : (zT 112)[1]? = some (1, z_al 0 1) := rfl
theorem c112_2 : (zT 112)[2]? = some (2, z_gI 12 0) := rfl
theorem c112_5 : (zT 112)[3]? = some (5, z_ige 17) := rfl
theorem c112_8 : (zT 112)[4]? = some (8, z_al 0 1) := rfl
theorem c112_9 : (zT 112)[5]? = some (9, z_gR 12 1) := rfl
theorem c112_12 : (zT 112)[6]? = some (12, z_il 1 1) := rfl
theorem c112_13 : (zT 112)[7]? = some (13, z_iald 20) := rfl
theorem c112_14 : (zT 112)[8]? = some (14, z_goto 18) := rfl
theorem c112_17 : (zT 112)[9]? = some (17, z_ic 0 1) := rfl
theorem c112_18 : (zT 112)[10]? = some (18, z_ir) := rfl
theorem c113_0 : (zT 113)[0]? = some (0, z_ic 0 1) := rfl
theorem c113_1 : (zT 113)[1]? = some (1, z_is 2 1) := rfl
theorem c113_2 : (zT 113)[2]? = some (2, z_il 2 1) := rfl
theorem c113_3 : (zT 113)[3]? = some (3, z_il 1 1) := rfl
theorem c113_4 : (zT 113)[4]? = some (4, z_ige 195) := rfl
theorem c113_7 : (zT 113)[5]? = some (7, z_al 0 1) := rfl
theorem c113_8 : (zT 113)[6]? = some (8, z_al 0 1) := rfl
theorem c113_9 : (zT 113)[7]? = some (9, z_gI 12 30) := rfl
theorem c113_12 : (zT 113)[8]? = some (12, z_cV 12 112 2 1) := rfl
theorem c113_15 : (zT 113)[9]? = some (15, z_ic 45 2) := rfl
theorem c113_17 : (zT 113)[10]? = some (17, z_ine 24) := rfl
theorem c113_20 : (zT 113)[11]? = some (20, z_ic 1 1) := rfl
theorem c113_21 : (zT 113)[12]? = some (21, z_goto 25) := rfl
theorem c113_24 : (zT 113)[13]? = some (24, z_ic 0 1) := rfl
theorem c113_25 : (zT 113)[14]? = some (25, z_is 3 1) := rfl
theorem c113_26 : (zT 113)[15]? = some (26, z_al 0 1) := rfl
theorem c113_27 : (zT 113)[16]? = some (27, z_dup) := rfl
theorem c113_28 : (zT 113)[17]? = some (28, z_gI 12 30) := rfl
theorem c113_31 : (zT 113)[18]? = some (31, z_il 3 1) := rfl
theorem c113_32 : (zT 113)[19]? = some (32, z_ifeq 39) := rfl
theorem c113_35 : (zT 113)[20]? = some (35, z_ic 1 1) := rfl
theorem c113_36 : (zT 113)[21]? = some (36, z_goto 40) := rfl
theorem c113_39 : (zT 113)[22]? = some (39, z_ic 0 1) := rfl
theorem c113_40 : (zT 113)[23]? = some (40, z_iadd) := rfl
theorem c113_41 : (zT 113)[24]? = some (41, z_pI 12 30) := rfl
theorem c113_44 : (zT 113)[25]? = some (44, z_ic 0 1) := rfl
theorem c113_45 : (zT 113)[26]? = some (45, z_is 4 2) := rfl
theorem c113_47 : (zT 113)[27]? = some (47, z_ic 0 1) := rfl
theorem c113_48 : (zT 113)[28]? = some (48, z_is 5 2) := rfl
theorem c113_50 : (zT 113)[29]? = some (50, z_al 0 1) := rfl
theorem c113_51 : (zT 113)[30]? = some (51, z_al 0 1) := rfl
theorem c113_52 : (zT 113)[31]? = some (52, z_gI 12 30) := rfl
theorem c113_55 : (zT 113)[32]? = some (55, z_cV 12 112 2 1) := rfl
theorem c113_58 : (zT 113)[33]? = some (58, z_i2l) := rfl
theorem c113_59 : (zT 113)[34]? = some (59, z_lc 48 3) := rfl
theorem c113_62 : (zT 113)[35]? = some (62, z_lc 57 3) := rfl
theorem c113_65 : (zT 113)[36]? = some (65, z_cS 105 6 3) := rfl
theorem c113_68 : (zT 113)[37]? = some (68, z_ifeq 112) := rfl
theorem c113_71 : (zT 113)[38]? = some (71, z_il 4 2) := rfl
theorem c113_73 : (zT 113)[39]? = some (73, z_ic 4 1) := rfl
theorem c113_74 : (zT 113)[40]? = some (74, z_ige 112) := rfl
theorem c113_77 : (zT 113)[41]? = some (77, z_ic 10 2) := rfl
theorem c113_79 : (zT 113)[42]? = some (79, z_il 5 2) := rfl
theorem c113_81 : (zT 113)[43]? = some (81, z_imul) := rfl
theorem c113_82 : (zT 113)[44]? = some (82, z_al 0 1) := rfl
theorem c113_83 : (zT 113)[45]? = some (83, z_al 0 1) := rfl
theorem c113_84 : (zT 113)[46]? = some (84, z_gI 12 30) := rfl
theorem c113_87 : (zT 113)[47]? = some (87, z_cV 12 112 2 1) := rfl
theorem c113_90 : (zT 113)[48]? = some (90, z_iadd) := rfl
theorem c113_91 : (zT 113)[49]? = some (91, z_ic 48 2) := rfl
theorem c113_93 : (zT 113)[50]? = some (93, z_isub) := rfl
theorem c113_94 : (zT 113)[51]? = some (94, z_is 5 2) := rfl
theorem c113_96 : (zT 113)[52]? = some (96, z_inc 4 1) := rfl
theorem c113_99 : (zT 113)[53]? = some (99, z_al 0 1) := rfl
theorem c113_100 : (zT 113)[54]? = some (100, z_dup) := rfl
theorem c113_101 : (zT 113)[55]? = some (101, z_gI 12 30) := rfl
theorem c113_104 : (zT 113)[56]? = some (104, z_ic 1 1) := rfl
theorem c113_105 : (zT 113)[57]? = some (105, z_iadd) := rfl
theorem c113_106 : (zT 113)[58]? = some (106, z_pI 12 30) := rfl
theorem c113_109 : (zT 113)[59]? = some (109, z_goto 50) := rfl
theorem c113_112 : (zT 113)[60]? = some (112, z_il 4 2) := rfl
theorem c113_114 : (zT 113)[61]? = some (114, z_i2l) := rfl
theorem c113_115 : (zT 113)[62]? = some (115, z_lc 1 1) := rfl
theorem c113_116 : (zT 113)[63]? = some (116, z_lc 3 3) := rfl
theorem c113_119 : (zT 113)[64]? = some (119, z_cS 105 6 3) := rfl
theorem c113_122 : (zT 113)[65]? = some (122, z_ifeq 159) := rfl
theorem c113_125 : (zT 113)[66]? = some (125, z_il 3 1) := rfl
theorem c113_126 : (zT 113)[67]? = some (126, z_ifeq 134) := rfl
theorem c113_129 : (zT 113)[68]? = some (129, z_il 5 2) := rfl
theorem c113_131 : (zT 113)[69]? = some (131, z_ifeq 159) := rfl
theorem c113_134 : (zT 113)[70]? = some (134, z_al 0 1) := rfl
theorem c113_135 : (zT 113)[71]? = some (135, z_al 0 1) := rfl
theorem c113_136 : (zT 113)[72]? = some (136, z_gI 12 30) := rfl
theorem c113_139 : (zT 113)[73]? = some (139, z_cV 12 112 2 1) := rfl
theorem c113_142 : (zT 113)[74]? = some (142, z_il 2 1) := rfl
theorem c113_143 : (zT 113)[75]? = some (143, z_il 1 1) := rfl
theorem c113_144 : (zT 113)[76]? = some (144, z_ic 1 1) := rfl
theorem c113_145 : (zT 113)[77]? = some (145, z_isub) := rfl
theorem c113_146 : (zT 113)[78]? = some (146, z_ige 154) := rfl
theorem c113_149 : (zT 113)[79]? = some (149, z_ic 44 2) := rfl
theorem c113_151 : (zT 113)[80]? = some (151, z_goto 156) := rfl
theorem c113_154 : (zT 113)[81]? = some (154, z_ic 59 2) := rfl
theorem c113_156 : (zT 113)[82]? = some (156, z_ieq 161) := rfl
theorem c113_159 : (zT 113)[83]? = some (159, z_ic 0 1) := rfl
theorem c113_160 : (zT 113)[84]? = some (160, z_zr) := rfl
theorem c113_161 : (zT 113)[85]? = some (161, z_al 0 1) := rfl
theorem c113_162 : (zT 113)[86]? = some (162, z_gR 12 31) := rfl
theorem c113_165 : (zT 113)[87]? = some (165, z_il 2 1) := rfl
theorem c113_166 : (zT 113)[88]? = some (166, z_il 3 1) := rfl
theorem c113_167 : (zT 113)[89]? = some (167, z_ifeq 176) := rfl
theorem c113_170 : (zT 113)[90]? = some (170, z_il 5 2) := rfl
theorem c113_172 : (zT 113)[91]? = some (172, z_ineg) := rfl
theorem c113_173 : (zT 113)[92]? = some (173, z_goto 178) := rfl
theorem c113_176 : (zT 113)[93]? = some (176, z_il 5 2) := rfl
theorem c113_178 : (zT 113)[94]? = some (178, z_iast) := rfl
theorem c113_179 : (zT 113)[95]? = some (179, z_al 0 1) := rfl
theorem c113_180 : (zT 113)[96]? = some (180, z_dup) := rfl
theorem c113_181 : (zT 113)[97]? = some (181, z_gI 12 30) := rfl
theorem c113_184 : (zT 113)[98]? = some (184, z_ic 1 1) := rfl
theorem c113_185 : (zT 113)[99]? = some (185, z_iadd) := rfl
theorem c113_186 : (zT 113)[100]? = some (186, z_pI 12 30) := rfl
theorem c113_189 : (zT 113)[101]? = some (189, z_inc 2 1) := rfl
theorem c113_192 : (zT 113)[102]? = some (192, z_goto 2) := rfl
theorem c113_195 : (zT 113)[103]? = some (195, z_ic 1 1) := rfl
theorem c113_196 : (zT 113)[104]? = some (196, z_zr) := rfl
theorem c114_0 : (zT 114)[0]? = some (0, z_al 0 1) := rfl
theorem c114_1 : (zT 114)[1]? = some (1, z_gR 12 31) := rfl
theorem c114_4 : (zT 114)[2]? = some (4, z_ic 0 1) := rfl
theorem c114_5 : (zT 114)[3]? = some (5, z_iald 20) := rfl
theorem c114_6 : (zT 114)[4]? = some (6, z_i2l) := rfl
theorem c114_7 : (zT 114)[5]? = some (7, z_lc 0 1) := rfl
theorem c114_8 : (zT 114)[6]? = some (8, z_al 0 1) := rfl
theorem c114_9 : (zT 114)[7]? = some (9, z_gR 12 5) := rfl
theorem c114_12 : (zT 114)[8]? = some (12, z_ic 1 1) := rfl
theorem c114_13 : (zT 114)[9]? = some (13, z_iald 20) := rfl
theorem c114_14 : (zT 114)[10]? = some (14, z_ic 1 1) := rfl
theorem c114_15 : (zT 114)[11]? = some (15, z_isub) := rfl
theorem c114_16 : (zT 114)[12]? = some (16, z_i2l) := rfl
theorem c114_17 : (zT 114)[13]? = some (17, z_cS 105 6 3) := rfl
theorem c114_20 : (zT 114)[14]? = some (20, z_zr) := rfl
theorem c115_0 : (zT 115)[0]? = some (0, z_al 0 1) := rfl
theorem c115_1 : (zT 115)[1]? = some (1, z_gR 12 31) := rfl
theorem c115_4 : (zT 115)[2]? = some (4, z_ic 0 1) := rfl
theorem c115_5 : (zT 115)[3]? = some (5, z_iald 20) := rfl
theorem c115_6 : (zT 115)[4]? = some (6, z_i2l) := rfl
theorem c115_7 : (zT 115)[5]? = some (7, z_lc 0 1) := rfl
theorem c115_8 : (zT 115)[6]? = some (8, z_al 0 1) := rfl
theorem c115_9 : (zT 115)[7]? = some (9, z_gR 12 2) := rfl
theorem c115_12 : (zT 115)[8]? = some (12, z_ic 1 1) := rfl
theorem c115_13 : (zT 115)[9]? = some (13, z_iald 20) := rfl
theorem c115_14 : (zT 115)[10]? = some (14, z_ic 1 1) := rfl
theorem c115_15 : (zT 115)[11]? = some (15, z_isub) := rfl
theorem c115_16 : (zT 115)[12]? = some (16, z_i2l) := rfl
theorem c115_17 : (zT 115)[13]? = some (17, z_cS 105 6 3) := rfl
theorem c115_20 : (zT 115)[14]? = some (20, z_zr) := rfl
theorem c116_0 : (zT 116)[0]? = some (0, z_ic 6 2) := rfl
theorem c116_2 : (zT 116)[1]? = some (2, z_al 0 1) := rfl
theorem c116_3 : (zT 116)[2]? = some (3, z_gR 12 2) := rfl
theorem c116_6 : (zT 116)[3]? = some (6, z_ic 1 1) := rfl
theorem c116_7 : (zT 116)[4]? = some (7, z_iald 20) := rfl
theorem c116_8 : (zT 116)[5]? = some (8, z_iadd) := rfl
theorem c116_9 : (zT 116)[6]? = some (9, z_is 1 1) := rfl
theorem c116_10 : (zT 116)[7]? = some (10, z_al 0 1) := rfl
theorem c116_11 : (zT 116)[8]? = some (11, z_ic 2 1) := rfl
theorem c116_12 : (zT 116)[9]? = some (12, z_cV 12 113 6 1) := rfl
theorem c116_15 : (zT 116)[10]? = some (15, z_ifeq 63) := rfl
theorem c116_18 : (zT 116)[11]? = some (18, z_al 0 1) := rfl
theorem c116_19 : (zT 116)[12]? = some (19, z_gR 12 2) := rfl
theorem c116_22 : (zT 116)[13]? = some (22, z_ic 1 1) := rfl
theorem c116_23 : (zT 116)[14]? = some (23, z_iald 20) := rfl
theorem c116_24 : (zT 116)[15]? = some (24, z_ic 6 2) := rfl
theorem c116_26 : (zT 116)[16]? = some (26, z_ieq 63) := rfl
theorem c116_29 : (zT 116)[17]? = some (29, z_al 0 1) := rfl
theorem c116_30 : (zT 116)[18]? = some (30, z_gR 12 31) := rfl
theorem c116_33 : (zT 116)[19]? = some (33, z_ic 0 1) := rfl
theorem c116_34 : (zT 116)[20]? = some (34, z_iald 20) := rfl
theorem c116_35 : (zT 116)[21]? = some (35, z_i2l) := rfl
theorem c116_36 : (zT 116)[22]? = some (36, z_lc 1 1) := rfl
theorem c116_37 : (zT 116)[23]? = some (37, z_lc 50 3) := rfl
theorem c116_40 : (zT 116)[24]? = some (40, z_cS 105 6 3) := rfl
theorem c116_43 : (zT 116)[25]? = some (43, z_ifeq 63) := rfl
theorem c116_46 : (zT 116)[26]? = some (46, z_al 0 1) := rfl
theorem c116_47 : (zT 116)[27]? = some (47, z_gR 12 31) := rfl
theorem c116_50 : (zT 116)[28]? = some (50, z_ic 1 1) := rfl
theorem c116_51 : (zT 116)[29]? = some (51, z_iald 20) := rfl
theorem c116_52 : (zT 116)[30]? = some (52, z_i2l) := rfl
theorem c116_53 : (zT 116)[31]? = some (53, z_lc 1 1) := rfl
theorem c116_54 : (zT 116)[32]? = some (54, z_lc 99 3) := rfl
theorem c116_57 : (zT 116)[33]? = some (57, z_cS 105 6 3) := rfl
theorem c116_60 : (zT 116)[34]? = some (60, z_ifne 65) := rfl
theorem c116_63 : (zT 116)[35]? = some (63, z_ic 0 1) := rfl
theorem c116_64 : (zT 116)[36]? = some (64, z_zr) := rfl
theorem c116_65 : (zT 116)[37]? = some (65, z_al 0 1) := rfl
theorem c116_66 : (zT 116)[38]? = some (66, z_gR 12 3) := rfl
theorem c116_69 : (zT 116)[39]? = some (69, z_il 1 1) := rfl
theorem c116_70 : (zT 116)[40]? = some (70, z_al 0 1) := rfl
theorem c116_71 : (zT 116)[41]? = some (71, z_gR 12 31) := rfl
theorem c116_74 : (zT 116)[42]? = some (74, z_ic 0 1) := rfl
theorem c116_75 : (zT 116)[43]? = some (75, z_iald 20) := rfl
theorem c116_76 : (zT 116)[44]? = some (76, z_iast) := rfl
theorem c116_77 : (zT 116)[45]? = some (77, z_al 0 1) := rfl
theorem c116_78 : (zT 116)[46]? = some (78, z_gR 12 4) := rfl
theorem c116_81 : (zT 116)[47]? = some (81, z_il 1 1) := rfl
theorem c116_82 : (zT 116)[48]? = some (82, z_al 0 1) := rfl
theorem c116_83 : (zT 116)[49]? = some (83, z_gR 12 31) := rfl
theorem c116_86 : (zT 116)[50]? = some (86, z_ic 1 1) := rfl
theorem c116_87 : (zT 116)[51]? = some (87, z_iald 20) := rfl
theorem c116_88 : (zT 116)[52]? = some (88, z_iast) := rfl
theorem c116_89 : (zT 116)[53]? = some (89, z_al 0 1) := rfl
theorem c116_90 : (zT 116)[54]? = some (90, z_gR 12 2) := rfl
theorem c116_93 : (zT 116)[55]? = some (93, z_ic 1 1) := rfl
theorem c116_94 : (zT 116)[56]? = some (94, z_dup2) := rfl
theorem c116_95 : (zT 116)[57]? = some (95, z_iald 20) := rfl
theorem c116_96 : (zT 116)[58]? = some (96, z_ic 1 1) := rfl
theorem c116_97 : (zT 116)[59]? = some (97, z_iadd) := rfl
theorem c116_98 : (zT 116)[60]? = some (98, z_iast) := rfl
theorem c116_99 : (zT 116)[61]? = some (99, z_ic 1 1) := rfl
theorem c116_100 : (zT 116)[62]? = some (100, z_zr) := rfl
theorem c117_0 : (zT 117)[0]? = some (0, z_ic 8 2) := rfl
theorem c117_2 : (zT 117)[1]? = some (2, z_al 0 1) := rfl
theorem c117_3 : (zT 117)[2]? = some (3, z_gR 12 5) := rfl
theorem c117_6 : (zT 117)[3]? = some (6, z_ic 1 1) := rfl
theorem c117_7 : (zT 117)[4]? = some (7, z_iald 20) := rfl
theorem c117_8 : (zT 117)[5]? = some (8, z_iadd) := rfl
theorem c117_9 : (zT 117)[6]? = some (9, z_is 1 1) := rfl
theorem c117_10 : (zT 117)[7]? = some (10, z_al 0 1) := rfl
theorem c117_11 : (zT 117)[8]? = some (11, z_ic 5 1) := rfl
theorem c117_12 : (zT 117)[9]? = some (12, z_cV 12 113 6 1) := rfl
theorem c117_15 : (zT 117)[10]? = some (15, z_ifeq 104) := rfl
theorem c117_18 : (zT 117)[11]? = some (18, z_al 0 1) := rfl
theorem c117_19 : (zT 117)[12]? = some (19, z_gR 12 5) := rfl
theorem c117_22 : (zT 117)[13]? = some (22, z_ic 1 1) := rfl
theorem c117_23 : (zT 117)[14]? = some (23, z_iald 20) := rfl
theorem c117_24 : (zT 117)[15]? = some (24, z_ic 8 2) := rfl
theorem c117_26 : (zT 117)[16]? = some (26, z_ieq 104) := rfl
theorem c117_29 : (zT 117)[17]? = some (29, z_al 0 1) := rfl
theorem c117_30 : (zT 117)[18]? = some (30, z_cV 12 115 1 0) := rfl
theorem c117_33 : (zT 117)[19]? = some (33, z_ifeq 104) := rfl
theorem c117_36 : (zT 117)[20]? = some (36, z_al 0 1) := rfl
theorem c117_37 : (zT 117)[21]? = some (37, z_gR 12 31) := rfl
theorem c117_40 : (zT 117)[22]? = some (40, z_ic 1 1) := rfl
theorem c117_41 : (zT 117)[23]? = some (41, z_iald 20) := rfl
theorem c117_42 : (zT 117)[24]? = some (42, z_i2l) := rfl
theorem c117_43 : (zT 117)[25]? = some (43, z_lc 0 1) := rfl
theorem c117_44 : (zT 117)[26]? = some (44, z_lc 4 3) := rfl
theorem c117_47 : (zT 117)[27]? = some (47, z_cS 105 6 3) := rfl
theorem c117_50 : (zT 117)[28]? = some (50, z_ifeq 104) := rfl
theorem c117_53 : (zT 117)[29]? = some (53, z_al 0 1) := rfl
theorem c117_54 : (zT 117)[30]? = some (54, z_gR 12 31) := rfl
theorem c117_57 : (zT 117)[31]? = some (57, z_ic 2 1) := rfl
theorem c117_58 : (zT 117)[32]? = some (58, z_iald 20) := rfl
theorem c117_59 : (zT 117)[33]? = some (59, z_i2l) := rfl
theorem c117_60 : (zT 117)[34]? = some (60, z_lc 0 1) := rfl
theorem c117_61 : (zT 117)[35]? = some (61, z_lc 99 3) := rfl
theorem c117_64 : (zT 117)[36]? = some (64, z_cS 105 6 3) := rfl
theorem c117_67 : (zT 117)[37]? = some (67, z_ifeq 104) := rfl
theorem c117_70 : (zT 117)[38]? = some (70, z_al 0 1) := rfl
theorem c117_71 : (zT 117)[39]? = some (71, z_gR 12 31) := rfl
theorem c117_74 : (zT 117)[40]? = some (74, z_ic 3 1) := rfl
theorem c117_75 : (zT 117)[41]? = some (75, z_iald 20) := rfl
theorem c117_76 : (zT 117)[42]? = some (76, z_i2l) := rfl
theorem c117_77 : (zT 117)[43]? = some (77, z_lc 0 1) := rfl
theorem c117_78 : (zT 117)[44]? = some (78, z_lc 9 3) := rfl
theorem c117_81 : (zT 117)[45]? = some (81, z_cS 105 6 3) := rfl
theorem c117_84 : (zT 117)[46]? = some (84, z_ifeq 104) := rfl
theorem c117_87 : (zT 117)[47]? = some (87, z_al 0 1) := rfl
theorem c117_88 : (zT 117)[48]? = some (88, z_gR 12 31) := rfl
theorem c117_91 : (zT 117)[49]? = some (91, z_ic 4 1) := rfl
theorem c117_92 : (zT 117)[50]? = some (92, z_iald 20) := rfl
theorem c117_93 : (zT 117)[51]? = some (93, z_i2l) := rfl
theorem c117_94 : (zT 117)[52]? = some (94, z_lc 0 1) := rfl
theorem c117_95 : (zT 117)[53]? = some (95, z_lc 30 3) := rfl
theorem c117_98 : (zT 117)[54]? = some (98, z_cS 105 6 3) := rfl
theorem c117_101 : (zT 117)[55]? = some (101, z_ifne 106) := rfl
theorem c117_104 : (zT 117)[56]? = some (104, z_ic 0 1) := rfl
theorem c117_105 : (zT 117)[57]? = some (105, z_zr) := rfl
theorem c117_106 : (zT 117)[58]? = some (106, z_al 0 1) := rfl
theorem c117_107 : (zT 117)[59]? = some (107, z_gR 12 6) := rfl
theorem c117_110 : (zT 117)[60]? = some (110, z_il 1 1) := rfl
theorem c117_111 : (zT 117)[61]? = some (111, z_al 0 1) := rfl
theorem c117_112 : (zT 117)[62]? = some (112, z_gR 12 31) := rfl
theorem c117_115 : (zT 117)[63]? = some (115, z_ic 0 1) := rfl
theorem c117_116 : (zT 117)[64]? = some (116, z_iald 20) := rfl
theorem c117_117 : (zT 117)[65]? = some (117, z_iast) := rfl
theorem c117_118 : (zT 117)[66]? = some (118, z_al 0 1) := rfl
theorem c117_119 : (zT 117)[67]? = some (119, z_gR 12 7) := rfl
theorem c117_122 : (zT 117)[68]? = some (122, z_il 1 1) := rfl
theorem c117_123 : (zT 117)[69]? = some (123, z_al 0 1) := rfl
theorem c117_124 : (zT 117)[70]? = some (124, z_gR 12 31) := rfl
theorem c117_127 : (zT 117)[71]? = some (127, z_ic 1 1) := rfl
theorem c117_128 : (zT 117)[72]? = some (128, z_iald 20) := rfl
theorem c117_129 : (zT 117)[73]? = some (129, z_iast) := rfl
theorem c117_130 : (zT 117)[74]? = some (130, z_al 0 1) := rfl
theorem c117_131 : (zT 117)[75]? = some (131, z_gR 12 8) := rfl
theorem c117_134 : (zT 117)[76]? = some (134, z_il 1 1) := rfl
theorem c117_135 : (zT 117)[77]? = some (135, z_al 0 1) := rfl
theorem c117_136 : (zT 117)[78]? = some (136, z_gR 12 31) := rfl
theorem c117_139 : (zT 117)[79]? = some (139, z_ic 2 1) := rfl
theorem c117_140 : (zT 117)[80]? = some (140, z_iald 20) := rfl
theorem c117_141 : (zT 117)[81]? = some (141, z_iast) := rfl
theorem c117_142 : (zT 117)[82]? = some (142, z_al 0 1) := rfl
theorem c117_143 : (zT 117)[83]? = some (143, z_gR 12 9) := rfl
theorem c117_146 : (zT 117)[84]? = some (146, z_il 1 1) := rfl
theorem c117_147 : (zT 117)[85]? = some (147, z_al 0 1) := rfl
theorem c117_148 : (zT 117)[86]? = some (148, z_gR 12 31) := rfl
theorem c117_151 : (zT 117)[87]? = some (151, z_ic 3 1) := rfl
theorem c117_152 : (zT 117)[88]? = some (152, z_iald 20) := rfl
theorem c117_153 : (zT 117)[89]? = some (153, z_iast) := rfl
theorem c117_154 : (zT 117)[90]? = some (154, z_al 0 1) := rfl
theorem c117_155 : (zT 117)[91]? = some (155, z_gR 12 10) := rfl
theorem c117_158 : (zT 117)[92]? = some (158, z_il 1 1) := rfl
theorem c117_159 : (zT 117)[93]? = some (159, z_al 0 1) := rfl
theorem c117_160 : (zT 117)[94]? = some (160, z_gR 12 31) := rfl
theorem c117_163 : (zT 117)[95]? = some (163, z_ic 4 1) := rfl
theorem c117_164 : (zT 117)[96]? = some (164, z_iald 20) := rfl
theorem c117_165 : (zT 117)[97]? = some (165, z_iast) := rfl
theorem c117_166 : (zT 117)[98]? = some (166, z_al 0 1) := rfl
theorem c117_167 : (zT 117)[99]? = some (167, z_il 1 1) := rfl
theorem c117_168 : (zT 117)[100]? = some (168, z_cV 12 108 3 1) := rfl
theorem c117_171 : (zT 117)[101]? = some (171, z_al 0 1) := rfl
theorem c117_172 : (zT 117)[102]? = some (172, z_gR 12 5) := rfl
theorem c117_175 : (zT 117)[103]? = some (175, z_ic 1 1) := rfl
theorem c117_176 : (zT 117)[104]? = some (176, z_dup2) := rfl
theorem c117_177 : (zT 117)[105]? = some (177, z_iald 20) := rfl
theorem c117_178 : (zT 117)[106]? = some (178, z_ic 1 1) := rfl
theorem c117_179 : (zT 117)[107]? = some (179, z_iadd) := rfl
theorem c117_180 : (zT 117)[108]? = some (180, z_iast) := rfl
theorem c117_181 : (zT 117)[109]? = some (181, z_ic 1 1) := rfl
theorem c117_182 : (zT 117)[110]? = some (182, z_zr) := rfl
theorem c118_0 : (zT 118)[0]? = some (0, z_al 0 1) := rfl
theorem c118_1 : (zT 118)[1]? = some (1, z_ic 3 1) := rfl
theorem c118_2 : (zT 118)[2]? = some (2, z_cV 12 113 6 1) := rfl
theorem c118_5 : (zT 118)[3]? = some (5, z_ifeq 62) := rfl
theorem c118_8 : (zT 118)[4]? = some (8, z_al 0 1) := rfl
theorem c118_9 : (zT 118)[5]? = some (9, z_gR 12 14) := rfl
theorem c118_12 : (zT 118)[6]? = some (12, z_ic 1 1) := rfl
theorem c118_13 : (zT 118)[7]? = some (13, z_iald 20) := rfl
theorem c118_14 : (zT 118)[8]? = some (14, z_ic 16 2) := rfl
theorem c118_16 : (zT 118)[9]? = some (16, z_ieq 62) := rfl
theorem c118_19 : (zT 118)[10]? = some (19, z_al 0 1) := rfl
theorem c118_20 : (zT 118)[11]? = some (20, z_cV 12 114 1 0) := rfl
theorem c118_23 : (zT 118)[12]? = some (23, z_ifeq 62) := rfl
theorem c118_26 : (zT 118)[13]? = some (26, z_al 0 1) := rfl
theorem c118_27 : (zT 118)[14]? = some (27, z_gR 12 31) := rfl
theorem c118_30 : (zT 118)[15]? = some (30, z_ic 1 1) := rfl
theorem c118_31 : (zT 118)[16]? = some (31, z_iald 20) := rfl
theorem c118_32 : (zT 118)[17]? = some (32, z_i2l) := rfl
theorem c118_33 : (zT 118)[18]? = some (33, z_lc 0 1) := rfl
theorem c118_34 : (zT 118)[19]? = some (34, z_lc 2 3) := rfl
theorem c118_37 : (zT 118)[20]? = some (37, z_cS 105 6 3) := rfl
theorem c118_40 : (zT 118)[21]? = some (40, z_ifeq 62) := rfl
theorem c118_43 : (zT 118)[22]? = some (43, z_al 0 1) := rfl
theorem c118_44 : (zT 118)[23]? = some (44, z_gR 12 31) := rfl
theorem c118_47 : (zT 118)[24]? = some (47, z_ic 2 1) := rfl
theorem c118_48 : (zT 118)[25]? = some (48, z_iald 20) := rfl
theorem c118_49 : (zT 118)[26]? = some (49, z_i2l) := rfl
theorem c118_50 : (zT 118)[27]? = some (50, z_lc (-50) 3) := rfl
theorem c118_53 : (zT 118)[28]? = some (53, z_lc 50 3) := rfl
theorem c118_56 : (zT 118)[29]? = some (56, z_cS 105 6 3) := rfl
theorem c118_59 : (zT 118)[30]? = some (59, z_ifne 64) := rfl
theorem c118_62 : (zT 118)[31]? = some (62, z_ic 0 1) := rfl
theorem c118_63 : (zT 118)[32]? = some (63, z_zr) := rfl
theorem c118_64 : (zT 118)[33]? = some (64, z_al 0 1) := rfl
theorem c118_65 : (zT 118)[34]? = some (65, z_gR 12 15) := rfl
theorem c118_68 : (zT 118)[35]? = some (68, z_ic 24 2) := rfl
theorem c118_70 : (zT 118)[36]? = some (70, z_ic 3 1) := rfl
theorem c118_71 : (zT 118)[37]? = some (71, z_al 0 1) := rfl
theorem c118_72 : (zT 118)[38]? = some (72, z_gR 12 31) := rfl
theorem c118_75 : (zT 118)[39]? = some (75, z_ic 0 1) := rfl
theorem c118_76 : (zT 118)[40]? = some (76, z_iald 20) := rfl
theorem c118_77 : (zT 118)[41]? = some (77, z_imul) := rfl
theorem c118_78 : (zT 118)[42]? = some (78, z_iadd) := rfl
theorem c118_79 : (zT 118)[43]? = some (79, z_al 0 1) := rfl
theorem c118_80 : (zT 118)[44]? = some (80, z_gR 12 31) := rfl
theorem c118_83 : (zT 118)[45]? = some (83, z_ic 1 1) := rfl
theorem c118_84 : (zT 118)[46]? = some (84, z_iald 20) := rfl
theorem c118_85 : (zT 118)[47]? = some (85, z_iadd) := rfl
theorem c118_86 : (zT 118)[48]? = some (86, z_dup2) := rfl
theorem c118_87 : (zT 118)[49]? = some (87, z_iald 20) := rfl
theorem c118_88 : (zT 118)[50]? = some (88, z_al 0 1) := rfl
theorem c118_89 : (zT 118)[51]? = some (89, z_gR 12 31) := rfl
theorem c118_92 : (zT 118)[52]? = some (92, z_ic 2 1) := rfl
theorem c118_93 : (zT 118)[53]? = some (93, z_iald 20) := rfl
theorem c118_94 : (zT 118)[54]? = some (94, z_iadd) := rfl
theorem c118_95 : (zT 118)[55]? = some (95, z_iast) := rfl
theorem c118_96 : (zT 118)[56]? = some (96, z_al 0 1) := rfl
theorem c118_97 : (zT 118)[57]? = some (97, z_gR 12 14) := rfl
theorem c118_100 : (zT 118)[58]? = some (100, z_ic 1 1) := rfl
theorem c118_101 : (zT 118)[59]? = some (101, z_dup2) := rfl
theorem c118_102 : (zT 118)[60]? = some (102, z_iald 20) := rfl
theorem c118_103 : (zT 118)[61]? = some (103, z_ic 1 1) := rfl
theorem c118_104 : (zT 118)[62]? = some (104, z_iadd) := rfl
theorem c118_105 : (zT 118)[63]? = some (105, z_iast) := rfl
theorem c118_106 : (zT 118)[64]? = some (106, z_ic 1 1) := rfl
theorem c118_107 : (zT 118)[65]? = some (107, z_zr) := rfl
theorem c119_0 : (zT 119)[0]? = some (0, z_al 0 1) := rfl
theorem c119_1 : (zT 119)[1]? = some (1, z_ic 3 1) := rfl
theorem c119_2 : (zT 119)[2]? = some (2, z_cV 12 113 6 1) := rfl
theorem c119_5 : (zT 119)[3]? = some (5, z_ifeq 62) := rfl
theorem c119_8 : (zT 119)[4]? = some (8, z_al 0 1) := rfl
theorem c119_9 : (zT 119)[5]? = some (9, z_gR 12 16) := rfl
theorem c119_12 : (zT 119)[6]? = some (12, z_ic 1 1) := rfl
theorem c119_13 : (zT 119)[7]? = some (13, z_iald 20) := rfl
theorem c119_14 : (zT 119)[8]? = some (14, z_ic 6 2) := rfl
theorem c119_16 : (zT 119)[9]? = some (16, z_ieq 62) := rfl
theorem c119_19 : (zT 119)[10]? = some (19, z_al 0 1) := rfl
theorem c119_20 : (zT 119)[11]? = some (20, z_cV 12 115 1 0) := rfl
theorem c119_23 : (zT 119)[12]? = some (23, z_ifeq 62) := rfl
theorem c119_26 : (zT 119)[13]? = some (26, z_al 0 1) := rfl
theorem c119_27 : (zT 119)[14]? = some (27, z_gR 12 31) := rfl
theorem c119_30 : (zT 119)[15]? = some (30, z_ic 1 1) := rfl
theorem c119_31 : (zT 119)[16]? = some (31, z_iald 20) := rfl
theorem c119_32 : (zT 119)[17]? = some (32, z_i2l) := rfl
theorem c119_33 : (zT 119)[18]? = some (33, z_lc 0 1) := rfl
theorem c119_34 : (zT 119)[19]? = some (34, z_lc 2 3) := rfl
theorem c119_37 : (zT 119)[20]? = some (37, z_cS 105 6 3) := rfl
theorem c119_40 : (zT 119)[21]? = some (40, z_ifeq 62) := rfl
theorem c119_43 : (zT 119)[22]? = some (43, z_al 0 1) := rfl
theorem c119_44 : (zT 119)[23]? = some (44, z_gR 12 31) := rfl
theorem c119_47 : (zT 119)[24]? = some (47, z_ic 2 1) := rfl
theorem c119_48 : (zT 119)[25]? = some (48, z_iald 20) := rfl
theorem c119_49 : (zT 119)[26]? = some (49, z_i2l) := rfl
theorem c119_50 : (zT 119)[27]? = some (50, z_lc (-50) 3) := rfl
theorem c119_53 : (zT 119)[28]? = some (53, z_lc 50 3) := rfl
theorem c119_56 : (zT 119)[29]? = some (56, z_cS 105 6 3) := rfl
theorem c119_59 : (zT 119)[30]? = some (59, z_ifne 64) := rfl
theorem c119_62 : (zT 119)[31]? = some (62, z_ic 0 1) := rfl
theorem c119_63 : (zT 119)[32]? = some (63, z_zr) := rfl
theorem c119_64 : (zT 119)[33]? = some (64, z_al 0 1) := rfl
theorem c119_65 : (zT 119)[34]? = some (65, z_gR 12 17) := rfl
theorem c119_68 : (zT 119)[35]? = some (68, z_ic 18 2) := rfl
theorem c119_70 : (zT 119)[36]? = some (70, z_ic 3 1) := rfl
theorem c119_71 : (zT 119)[37]? = some (71, z_al 0 1) := rfl
theorem c119_72 : (zT 119)[38]? = some (72, z_gR 12 31) := rfl
theorem c119_75 : (zT 119)[39]? = some (75, z_ic 0 1) := rfl
theorem c119_76 : (zT 119)[40]? = some (76, z_iald 20) := rfl
theorem c119_77 : (zT 119)[41]? = some (77, z_imul) := rfl
theorem c119_78 : (zT 119)[42]? = some (78, z_iadd) := rfl
theorem c119_79 : (zT 119)[43]? = some (79, z_al 0 1) := rfl
theorem c119_80 : (zT 119)[44]? = some (80, z_gR 12 31) := rfl
theorem c119_83 : (zT 119)[45]? = some (83, z_ic 1 1) := rfl
theorem c119_84 : (zT 119)[46]? = some (84, z_iald 20) := rfl
theorem c119_85 : (zT 119)[47]? = some (85, z_iadd) := rfl
theorem c119_86 : (zT 119)[48]? = some (86, z_dup2) := rfl
theorem c119_87 : (zT 119)[49]? = some (87, z_iald 20) := rfl
theorem c119_88 : (zT 119)[50]? = some (88, z_al 0 1) := rfl
theorem c119_89 : (zT 119)[51]? = some (89, z_gR 12 31) := rfl
theorem c119_92 : (zT 119)[52]? = some (92, z_ic 2 1) := rfl
theorem c119_93 : (zT 119)[53]? = some (93, z_iald 20) := rfl
theorem c119_94 : (zT 119)[54]? = some (94, z_iadd) := rfl
theorem c119_95 : (zT 119)[55]? = some (95, z_iast) := rfl
theorem c119_96 : (zT 119)[56]? = some (96, z_al 0 1) := rfl
theorem c119_97 : (zT 119)[57]? = some (97, z_gR 12 16) := rfl
theorem c119_100 : (zT 119)[58]? = some (100, z_ic 1 1) := rfl
theorem c119_101 : (zT 119)[59]? = some (101, z_dup2) := rfl
theorem c119_102 : (zT 119)[60]? = some (102, z_iald 20) := rfl
theorem c119_103 : (zT 119)[61]? = some (103, z_ic 1 1) := rfl
theorem c119_104 : (zT 119)[62]? = some (104, z_iadd) := rfl
theorem c119_105 : (zT 119)[63]? = some (105, z_iast) := rfl
theorem c119_106 : (zT 119)[64]? = some (106, z_ic 1 1) := rfl
theorem c119_107 : (zT 119)[65]? = some (107, z_zr) := rfl
theorem c120_0 : (zT 120)[0]? = some (0, z_ic 6 2) := rfl
theorem c120_2 : (zT 120)[1]? = some (2, z_al 0 1) := rfl
theorem c120_3 : (zT 120)[2]? = some (3, z_gR 12 18) := rfl
theorem c120_6 : (zT 120)[3]? = some (6, z_ic 1 1) := rfl
theorem c120_7 : (zT 120)[4]? = some (7, z_iald 20) := rfl
theorem c120_8 : (zT 120)[5]? = some (8, z_iadd) := rfl
theorem c120_9 : (zT 120)[6]? = some (9, z_is 1 1) := rfl
theorem c120_10 : (zT 120)[7]? = some (10, z_al 0 1) := rfl
theorem c120_11 : (zT 120)[8]? = some (11, z_ic 3 1) := rfl
theorem c120_12 : (zT 120)[9]? = some (12, z_cV 12 113 6 1) := rfl
theorem c120_15 : (zT 120)[10]? = some (15, z_ifeq 72) := rfl
theorem c120_18 : (zT 120)[11]? = some (18, z_al 0 1) := rfl
theorem c120_19 : (zT 120)[12]? = some (19, z_gR 12 18) := rfl
theorem c120_22 : (zT 120)[13]? = some (22, z_ic 1 1) := rfl
theorem c120_23 : (zT 120)[14]? = some (23, z_iald 20) := rfl
theorem c120_24 : (zT 120)[15]? = some (24, z_ic 6 2) := rfl
theorem c120_26 : (zT 120)[16]? = some (26, z_ieq 72) := rfl
theorem c120_29 : (zT 120)[17]? = some (29, z_al 0 1) := rfl
theorem c120_30 : (zT 120)[18]? = some (30, z_cV 12 115 1 0) := rfl
theorem c120_33 : (zT 120)[19]? = some (33, z_ifeq 72) := rfl
theorem c120_36 : (zT 120)[20]? = some (36, z_al 0 1) := rfl
theorem c120_37 : (zT 120)[21]? = some (37, z_gR 12 31) := rfl
theorem c120_40 : (zT 120)[22]? = some (40, z_ic 1 1) := rfl
theorem c120_41 : (zT 120)[23]? = some (41, z_iald 20) := rfl
theorem c120_42 : (zT 120)[24]? = some (42, z_i2l) := rfl
theorem c120_43 : (zT 120)[25]? = some (43, z_lc 0 1) := rfl
theorem c120_44 : (zT 120)[26]? = some (44, z_lc 2 3) := rfl
theorem c120_47 : (zT 120)[27]? = some (47, z_cS 105 6 3) := rfl
theorem c120_50 : (zT 120)[28]? = some (50, z_ifeq 72) := rfl
theorem c120_53 : (zT 120)[29]? = some (53, z_al 0 1) := rfl
theorem c120_54 : (zT 120)[30]? = some (54, z_gR 12 31) := rfl
theorem c120_57 : (zT 120)[31]? = some (57, z_ic 2 1) := rfl
theorem c120_58 : (zT 120)[32]? = some (58, z_iald 20) := rfl
theorem c120_59 : (zT 120)[33]? = some (59, z_i2l) := rfl
theorem c120_60 : (zT 120)[34]? = some (60, z_lc (-200) 3) := rfl
theorem c120_63 : (zT 120)[35]? = some (63, z_lc 200 3) := rfl
theorem c120_66 : (zT 120)[36]? = some (66, z_cS 105 6 3) := rfl
theorem c120_69 : (zT 120)[37]? = some (69, z_ifne 74) := rfl
theorem c120_72 : (zT 120)[38]? = some (72, z_ic 0 1) := rfl
theorem c120_73 : (zT 120)[39]? = some (73, z_zr) := rfl
theorem c120_74 : (zT 120)[40]? = some (74, z_al 0 1) := rfl
theorem c120_75 : (zT 120)[41]? = some (75, z_gR 12 19) := rfl
theorem c120_78 : (zT 120)[42]? = some (78, z_il 1 1) := rfl
theorem c120_79 : (zT 120)[43]? = some (79, z_al 0 1) := rfl
theorem c120_80 : (zT 120)[44]? = some (80, z_gR 12 31) := rfl
theorem c120_83 : (zT 120)[45]? = some (83, z_ic 0 1) := rfl
theorem c120_84 : (zT 120)[46]? = some (84, z_iald 20) := rfl
theorem c120_85 : (zT 120)[47]? = some (85, z_iast) := rfl
theorem c120_86 : (zT 120)[48]? = some (86, z_al 0 1) := rfl
theorem c120_87 : (zT 120)[49]? = some (87, z_gR 12 20) := rfl
theorem c120_90 : (zT 120)[50]? = some (90, z_il 1 1) := rfl
theorem c120_91 : (zT 120)[51]? = some (91, z_al 0 1) := rfl
theorem c120_92 : (zT 120)[52]? = some (92, z_gR 12 31) := rfl
theorem c120_95 : (zT 120)[53]? = some (95, z_ic 1 1) := rfl
theorem c120_96 : (zT 120)[54]? = some (96, z_iald 20) := rfl
theorem c120_97 : (zT 120)[55]? = some (97, z_iast) := rfl
theorem c120_98 : (zT 120)[56]? = some (98, z_al 0 1) := rfl
theorem c120_99 : (zT 120)[57]? = some (99, z_gR 12 21) := rfl
theorem c120_102 : (zT 120)[58]? = some (102, z_il 1 1) := rfl
theorem c120_103 : (zT 120)[59]? = some (103, z_al 0 1) := rfl
theorem c120_104 : (zT 120)[60]? = some (104, z_gR 12 31) := rfl
theorem c120_107 : (zT 120)[61]? = some (107, z_ic 2 1) := rfl
theorem c120_108 : (zT 120)[62]? = some (108, z_iald 20) := rfl
theorem c120_109 : (zT 120)[63]? = some (109, z_iast) := rfl
theorem c120_110 : (zT 120)[64]? = some (110, z_al 0 1) := rfl
theorem c120_111 : (zT 120)[65]? = some (111, z_gR 12 18) := rfl
theorem c120_114 : (zT 120)[66]? = some (114, z_ic 1 1) := rfl
theorem c120_115 : (zT 120)[67]? = some (115, z_dup2) := rfl
theorem c120_116 : (zT 120)[68]? = some (116, z_iald 20) := rfl
theorem c120_117 : (zT 120)[69]? = some (117, z_ic 1 1) := rfl
theorem c120_118 : (zT 120)[70]? = some (118, z_iadd) := rfl
theorem c120_119 : (zT 120)[71]? = some (119, z_iast) := rfl
theorem c120_120 : (zT 120)[72]? = some (120, z_ic 1 1) := rfl
theorem c120_121 : (zT 120)[73]? = some (121, z_zr) := rfl
theorem c121_0 : (zT 121)[0]? = some (0, z_al 0 1) := rfl
theorem c121_1 : (zT 121)[1]? = some (1, z_al 0 1) := rfl
theorem c121_2 : (zT 121)[2]? = some (2, z_gI 12 30) := rfl
theorem c121_5 : (zT 121)[3]? = some (5, z_cV 12 112 2 1) := rfl
theorem c121_8 : (zT 121)[4]? = some (8, z_is 1 1) := rfl
theorem c121_9 : (zT 121)[5]? = some (9, z_al 0 1) := rfl
theorem c121_10 : (zT 121)[6]? = some (10, z_dup) := rfl
theorem c121_11 : (zT 121)[7]? = some (11, z_gI 12 30) := rfl
theorem c121_14 : (zT 121)[8]? = some (14, z_ic 1 1) := rfl
theorem c121_15 : (zT 121)[9]? = some (15, z_iadd) := rfl
theorem c121_16 : (zT 121)[10]? = some (16, z_pI 12 30) := rfl
theorem c121_19 : (zT 121)[11]? = some (19, z_il 1 1) := rfl
theorem c121_20 : (zT 121)[12]? = some (20, z_sw 420 [(99, 141), (100, 420), (101, 197), (102, 136), (103, 420), (104, 126), (105, 420), (106, 420), (107, 262), (108, 420), (109, 131), (110, 420), (111, 420), (112, 121), (113, 420), (114, 420), (115, 116), (116, 420), (117, 420), (118, 327)]) := rfl
theorem c121_116 : (zT 121)[13]? = some (116, z_al 0 1) := rfl
theorem c121_117 : (zT 121)[14]? = some (117, z_cV 12 116 2 0) := rfl
theorem c121_120 : (zT 121)[15]? = some (120, z_zr) := rfl
theorem c121_121 : (zT 121)[16]? = some (121, z_al 0 1) := rfl
theorem c121_122 : (zT 121)[17]? = some (122, z_cV 12 117 2 0) := rfl
theorem c121_125 : (zT 121)[18]? = some (125, z_zr) := rfl
theorem c121_126 : (zT 121)[19]? = some (126, z_al 0 1) := rfl
theorem c121_127 : (zT 121)[20]? = some (127, z_cV 12 118 1 0) := rfl
theorem c121_130 : (zT 121)[21]? = some (130, z_zr) := rfl
theorem c121_131 : (zT 121)[22]? = some (131, z_al 0 1) := rfl
theorem c121_132 : (zT 121)[23]? = some (132, z_cV 12 119 1 0) := rfl
theorem c121_135 : (zT 121)[24]? = some (135, z_zr) := rfl
theorem c121_136 : (zT 121)[25]? = some (136, z_al 0 1) := rfl
theorem c121_137 : (zT 121)[26]? = some (137, z_cV 12 120 2 0) := rfl
theorem c121_140 : (zT 121)[27]? = some (140, z_zr) := rfl
theorem c121_141 : (zT 121)[28]? = some (141, z_al 0 1) := rfl
theorem c121_142 : (zT 121)[29]? = some (142, z_ic 2 1) := rfl
theorem c121_143 : (zT 121)[30]? = some (143, z_cV 12 113 6 1) := rfl
theorem c121_146 : (zT 121)[31]? = some (146, z_ifeq 173) := rfl
theorem c121_149 : (zT 121)[32]? = some (149, z_al 0 1) := rfl
theorem c121_150 : (zT 121)[33]? = some (150, z_cV 12 114 1 0) := rfl
theorem c121_153 : (zT 121)[34]? = some (153, z_ifeq 173) := rfl
theorem c121_156 : (zT 121)[35]? = some (156, z_al 0 1) := rfl
theorem c121_157 : (zT 121)[36]? = some (157, z_gR 12 31) := rfl
theorem c121_160 : (zT 121)[37]? = some (160, z_ic 1 1) := rfl
theorem c121_161 : (zT 121)[38]? = some (161, z_iald 20) := rfl
theorem c121_162 : (zT 121)[39]? = some (162, z_i2l) := rfl
theorem c121_163 : (zT 121)[40]? = some (163, z_lc 1 1) := rfl
theorem c121_164 : (zT 121)[41]? = some (164, z_lc 99 3) := rfl
theorem c121_167 : (zT 121)[42]? = some (167, z_cS 105 6 3) := rfl
theorem c121_170 : (zT 121)[43]? = some (170, z_ifne 175) := rfl
theorem c121_173 : (zT 121)[44]? = some (173, z_ic 0 1) := rfl
theorem c121_174 : (zT 121)[45]? = some (174, z_zr) := rfl
theorem c121_175 : (zT 121)[46]? = some (175, z_al 0 1) := rfl
theorem c121_176 : (zT 121)[47]? = some (176, z_gR 12 11) := rfl
theorem c121_179 : (zT 121)[48]? = some (179, z_ic 8 2) := rfl
theorem c121_181 : (zT 121)[49]? = some (181, z_al 0 1) := rfl
theorem c121_182 : (zT 121)[50]? = some (182, z_gR 12 31) := rfl
theorem c121_185 : (zT 121)[51]? = some (185, z_ic 0 1) := rfl
theorem c121_186 : (zT 121)[52]? = some (186, z_iald 20) := rfl
theorem c121_187 : (zT 121)[53]? = some (187, z_iadd) := rfl
theorem c121_188 : (zT 121)[54]? = some (188, z_al 0 1) := rfl
theorem c121_189 : (zT 121)[55]? = some (189, z_gR 12 31) := rfl
theorem c121_192 : (zT 121)[56]? = some (192, z_ic 1 1) := rfl
theorem c121_193 : (zT 121)[57]? = some (193, z_iald 20) := rfl
theorem c121_194 : (zT 121)[58]? = some (194, z_iast) := rfl
theorem c121_195 : (zT 121)[59]? = some (195, z_ic 1 1) := rfl
theorem c121_196 : (zT 121)[60]? = some (196, z_zr) := rfl
theorem c121_197 : (zT 121)[61]? = some (197, z_al 0 1) := rfl
theorem c121_198 : (zT 121)[62]? = some (198, z_ic 2 1) := rfl
theorem c121_199 : (zT 121)[63]? = some (199, z_cV 12 113 6 1) := rfl
theorem c121_202 : (zT 121)[64]? = some (202, z_ifeq 239) := rfl
theorem c121_205 : (zT 121)[65]? = some (205, z_al 0 1) := rfl
theorem c121_206 : (zT 121)[66]? = some (206, z_gR 12 31) := rfl
theorem c121_209 : (zT 121)[67]? = some (209, z_ic 0 1) := rfl
theorem c121_210 : (zT 121)[68]? = some (210, z_iald 20) := rfl
theorem c121_211 : (zT 121)[69]? = some (211, z_i2l) := rfl
theorem c121_212 : (zT 121)[70]? = some (212, z_lc 0 1) := rfl
theorem c121_213 : (zT 121)[71]? = some (213, z_lc 2 3) := rfl
theorem c121_216 : (zT 121)[72]? = some (216, z_cS 105 6 3) := rfl
theorem c121_219 : (zT 121)[73]? = some (219, z_ifeq 239) := rfl
theorem c121_222 : (zT 121)[74]? = some (222, z_al 0 1) := rfl
theorem c121_223 : (zT 121)[75]? = some (223, z_gR 12 31) := rfl
theorem c121_226 : (zT 121)[76]? = some (226, z_ic 1 1) := rfl
theorem c121_227 : (zT 121)[77]? = some (227, z_iald 20) := rfl
theorem c121_228 : (zT 121)[78]? = some (228, z_i2l) := rfl
theorem c121_229 : (zT 121)[79]? = some (229, z_lc 0 1) := rfl
theorem c121_230 : (zT 121)[80]? = some (230, z_lc 999 3) := rfl
theorem c121_233 : (zT 121)[81]? = some (233, z_cS 105 6 3) := rfl
theorem c121_236 : (zT 121)[82]? = some (236, z_ifne 241) := rfl
theorem c121_239 : (zT 121)[83]? = some (239, z_ic 0 1) := rfl
theorem c121_240 : (zT 121)[84]? = some (240, z_zr) := rfl
theorem c121_241 : (zT 121)[85]? = some (241, z_al 0 1) := rfl
theorem c121_242 : (zT 121)[86]? = some (242, z_gR 12 22) := rfl
theorem c121_245 : (zT 121)[87]? = some (245, z_ic 3 1) := rfl
theorem c121_246 : (zT 121)[88]? = some (246, z_al 0 1) := rfl
theorem c121_247 : (zT 121)[89]? = some (247, z_gR 12 31) := rfl
theorem c121_250 : (zT 121)[90]? = some (250, z_ic 0 1) := rfl
theorem c121_251 : (zT 121)[91]? = some (251, z_iald 20) := rfl
theorem c121_252 : (zT 121)[92]? = some (252, z_iadd) := rfl
theorem c121_253 : (zT 121)[93]? = some (253, z_al 0 1) := rfl
theorem c121_254 : (zT 121)[94]? = some (254, z_gR 12 31) := rfl
theorem c121_257 : (zT 121)[95]? = some (257, z_ic 1 1) := rfl
theorem c121_258 : (zT 121)[96]? = some (258, z_iald 20) := rfl
theorem c121_259 : (zT 121)[97]? = some (259, z_iast) := rfl
theorem c121_260 : (zT 121)[98]? = some (260, z_ic 1 1) := rfl
theorem c121_261 : (zT 121)[99]? = some (261, z_zr) := rfl
theorem c121_262 : (zT 121)[100]? = some (262, z_al 0 1) := rfl
theorem c121_263 : (zT 121)[101]? = some (263, z_ic 2 1) := rfl
theorem c121_264 : (zT 121)[102]? = some (264, z_cV 12 113 6 1) := rfl
theorem c121_267 : (zT 121)[103]? = some (267, z_ifeq 304) := rfl
theorem c121_270 : (zT 121)[104]? = some (270, z_al 0 1) := rfl
theorem c121_271 : (zT 121)[105]? = some (271, z_gR 12 31) := rfl
theorem c121_274 : (zT 121)[106]? = some (274, z_ic 0 1) := rfl
theorem c121_275 : (zT 121)[107]? = some (275, z_iald 20) := rfl
theorem c121_276 : (zT 121)[108]? = some (276, z_i2l) := rfl
theorem c121_277 : (zT 121)[109]? = some (277, z_lc 0 1) := rfl
theorem c121_278 : (zT 121)[110]? = some (278, z_lc 4 3) := rfl
theorem c121_281 : (zT 121)[111]? = some (281, z_cS 105 6 3) := rfl
theorem c121_284 : (zT 121)[112]? = some (284, z_ifeq 304) := rfl
theorem c121_287 : (zT 121)[113]? = some (287, z_al 0 1) := rfl
theorem c121_288 : (zT 121)[114]? = some (288, z_gR 12 31) := rfl
theorem c121_291 : (zT 121)[115]? = some (291, z_ic 1 1) := rfl
theorem c121_292 : (zT 121)[116]? = some (292, z_iald 20) := rfl
theorem c121_293 : (zT 121)[117]? = some (293, z_i2l) := rfl
theorem c121_294 : (zT 121)[118]? = some (294, z_lc 0 1) := rfl
theorem c121_295 : (zT 121)[119]? = some (295, z_lc 50 3) := rfl
theorem c121_298 : (zT 121)[120]? = some (298, z_cS 105 6 3) := rfl
theorem c121_301 : (zT 121)[121]? = some (301, z_ifne 306) := rfl
theorem c121_304 : (zT 121)[122]? = some (304, z_ic 0 1) := rfl
theorem c121_305 : (zT 121)[123]? = some (305, z_zr) := rfl
theorem c121_306 : (zT 121)[124]? = some (306, z_al 0 1) := rfl
theorem c121_307 : (zT 121)[125]? = some (307, z_gR 12 23) := rfl
theorem c121_310 : (zT 121)[126]? = some (310, z_ic 5 1) := rfl
theorem c121_311 : (zT 121)[127]? = some (311, z_al 0 1) := rfl
theorem c121_312 : (zT 121)[128]? = some (312, z_gR 12 31) := rfl
theorem c121_315 : (zT 121)[129]? = some (315, z_ic 0 1) := rfl
theorem c121_316 : (zT 121)[130]? = some (316, z_iald 20) := rfl
theorem c121_317 : (zT 121)[131]? = some (317, z_iadd) := rfl
theorem c121_318 : (zT 121)[132]? = some (318, z_al 0 1) := rfl
theorem c121_319 : (zT 121)[133]? = some (319, z_gR 12 31) := rfl
theorem c121_322 : (zT 121)[134]? = some (322, z_ic 1 1) := rfl
theorem c121_323 : (zT 121)[135]? = some (323, z_iald 20) := rfl
theorem c121_324 : (zT 121)[136]? = some (324, z_iast) := rfl
theorem c121_325 : (zT 121)[137]? = some (325, z_ic 1 1) := rfl
theorem c121_326 : (zT 121)[138]? = some (326, z_zr) := rfl
theorem c121_327 : (zT 121)[139]? = some (327, z_al 0 1) := rfl
theorem c121_328 : (zT 121)[140]? = some (328, z_ic 3 1) := rfl
theorem c121_329 : (zT 121)[141]? = some (329, z_cV 12 113 6 1) := rfl
theorem c121_332 : (zT 121)[142]? = some (332, z_ifeq 376) := rfl
theorem c121_335 : (zT 121)[143]? = some (335, z_al 0 1) := rfl
theorem c121_336 : (zT 121)[144]? = some (336, z_cV 12 114 1 0) := rfl
theorem c121_339 : (zT 121)[145]? = some (339, z_ifeq 376) := rfl
theorem c121_342 : (zT 121)[146]? = some (342, z_al 0 1) := rfl
theorem c121_343 : (zT 121)[147]? = some (343, z_gR 12 31) := rfl
theorem c121_346 : (zT 121)[148]? = some (346, z_ic 1 1) := rfl
theorem c121_347 : (zT 121)[149]? = some (347, z_iald 20) := rfl
theorem c121_348 : (zT 121)[150]? = some (348, z_i2l) := rfl
theorem c121_349 : (zT 121)[151]? = some (349, z_lc 0 1) := rfl
theorem c121_350 : (zT 121)[152]? = some (350, z_lc 900 3) := rfl
theorem c121_353 : (zT 121)[153]? = some (353, z_cS 105 6 3) := rfl
theorem c121_356 : (zT 121)[154]? = some (356, z_ifeq 376) := rfl
theorem c121_359 : (zT 121)[155]? = some (359, z_al 0 1) := rfl
theorem c121_360 : (zT 121)[156]? = some (360, z_gR 12 31) := rfl
theorem c121_363 : (zT 121)[157]? = some (363, z_ic 2 1) := rfl
theorem c121_364 : (zT 121)[158]? = some (364, z_iald 20) := rfl
theorem c121_365 : (zT 121)[159]? = some (365, z_i2l) := rfl
theorem c121_366 : (zT 121)[160]? = some (366, z_lc 1 1) := rfl
theorem c121_367 : (zT 121)[161]? = some (367, z_lc 99 3) := rfl
theorem c121_370 : (zT 121)[162]? = some (370, z_cS 105 6 3) := rfl
theorem c121_373 : (zT 121)[163]? = some (373, z_ifne 378) := rfl
theorem c121_376 : (zT 121)[164]? = some (376, z_ic 0 1) := rfl
theorem c121_377 : (zT 121)[165]? = some (377, z_zr) := rfl
theorem c121_378 : (zT 121)[166]? = some (378, z_al 0 1) := rfl
theorem c121_379 : (zT 121)[167]? = some (379, z_gR 12 12) := rfl
theorem c121_382 : (zT 121)[168]? = some (382, z_ic 8 2) := rfl
theorem c121_384 : (zT 121)[169]? = some (384, z_al 0 1) := rfl
theorem c121_385 : (zT 121)[170]? = some (385, z_gR 12 31) := rfl
theorem c121_388 : (zT 121)[171]? = some (388, z_ic 0 1) := rfl
theorem c121_389 : (zT 121)[172]? = some (389, z_iald 20) := rfl
theorem c121_390 : (zT 121)[173]? = some (390, z_iadd) := rfl
theorem c121_391 : (zT 121)[174]? = some (391, z_al 0 1) := rfl
theorem c121_392 : (zT 121)[175]? = some (392, z_gR 12 31) := rfl
theorem c121_395 : (zT 121)[176]? = some (395, z_ic 1 1) := rfl
theorem c121_396 : (zT 121)[177]? = some (396, z_iald 20) := rfl
theorem c121_397 : (zT 121)[178]? = some (397, z_iast) := rfl
theorem c121_398 : (zT 121)[179]? = some (398, z_al 0 1) := rfl
theorem c121_399 : (zT 121)[180]? = some (399, z_gR 12 13) := rfl
theorem c121_402 : (zT 121)[181]? = some (402, z_ic 8 2) := rfl
theorem c121_404 : (zT 121)[182]? = some (404, z_al 0 1) := rfl
theorem c121_405 : (zT 121)[183]? = some (405, z_gR 12 31) := rfl
theorem c121_408 : (zT 121)[184]? = some (408, z_ic 0 1) := rfl
theorem c121_409 : (zT 121)[185]? = some (409, z_iald 20) := rfl
theorem c121_410 : (zT 121)[186]? = some (410, z_iadd) := rfl
theorem c121_411 : (zT 121)[187]? = some (411, z_al 0 1) := rfl
theorem c121_412 : (zT 121)[188]? = some (412, z_gR 12 31) := rfl
theorem c121_415 : (zT 121)[189]? = some (415, z_ic 2 1) := rfl
theorem c121_416 : (zT 121)[190]? = some (416, z_iald 20) := rfl
theorem c121_417 : (zT 121)[191]? = some (417, z_iast) := rfl
theorem c121_418 : (zT 121)[192]? = some (418, z_ic 1 1) := rfl
theorem c121_419 : (zT 121)[193]? = some (419, z_zr) := rfl
theorem c121_420 : (zT 121)[194]? = some (420, z_ic 0 1) := rfl
theorem c121_421 : (zT 121)[195]? = some (421, z_zr) := rfl
theorem c122_0 : (zT 122)[0]? = some (0, z_al 0 1) := rfl
theorem c122_1 : (zT 122)[1]? = some (1, z_ic 1 1) := rfl
theorem c122_2 : (zT 122)[2]? = some (2, z_cV 12 109 3 1) := rfl
theorem c122_5 : (zT 122)[3]? = some (5, z_al 0 1) := rfl
theorem c122_6 : (zT 122)[4]? = some (6, z_ic 0 1) := rfl
theorem c122_7 : (zT 122)[5]? = some (7, z_pI 12 30) := rfl
theorem c122_10 : (zT 122)[6]? = some (10, z_al 0 1) := rfl
theorem c122_11 : (zT 122)[7]? = some (11, z_gI 12 30) := rfl
theorem c122_14 : (zT 122)[8]? = some (14, z_al 0 1) := rfl
theorem c122_15 : (zT 122)[9]? = some (15, z_gI 12 0) := rfl
theorem c122_18 : (zT 122)[10]? = some (18, z_ige 38) := rfl
theorem c122_21 : (zT 122)[11]? = some (21, z_al 0 1) := rfl
theorem c122_22 : (zT 122)[12]? = some (22, z_gI 12 30) := rfl
theorem c122_25 : (zT 122)[13]? = some (25, z_is 1 1) := rfl
theorem c122_26 : (zT 122)[14]? = some (26, z_al 0 1) := rfl
theorem c122_27 : (zT 122)[15]? = some (27, z_cV 12 121 2 0) := rfl
theorem c122_30 : (zT 122)[16]? = some (30, z_ifne 35) := rfl
theorem c122_33 : (zT 122)[17]? = some (33, z_il 1 1) := rfl
theorem c122_34 : (zT 122)[18]? = some (34, z_ir) := rfl
theorem c122_35 : (zT 122)[19]? = some (35, z_goto 10) := rfl
theorem c122_38 : (zT 122)[20]? = some (38, z_ic (-4) 2) := rfl
theorem c122_40 : (zT 122)[21]? = some (40, z_ir) := rfl
theorem c123_0 : (zT 123)[0]? = some (0, z_al 0 1) := rfl
theorem c123_1 : (zT 123)[1]? = some (1, z_cV 12 122 2 0) := rfl
theorem c123_4 : (zT 123)[2]? = some (4, z_ir) := rfl
theorem c124_0 : (zT 124)[0]? = some (0, z_al 0 1) := rfl
theorem c124_1 : (zT 124)[1]? = some (1, z_cV 12 122 2 0) := rfl
theorem c124_4 : (zT 124)[2]? = some (4, z_ic (-4) 2) := rfl
theorem c124_6 : (zT 124)[3]? = some (6, z_ine 27) := rfl
theorem c124_9 : (zT 124)[4]? = some (9, z_al 0 1) := rfl
theorem c124_10 : (zT 124)[5]? = some (10, z_gR 12 2) := rfl
theorem c124_13 : (zT 124)[6]? = some (13, z_ic 1 1) := rfl
theorem c124_14 : (zT 124)[7]? = some (14, z_iald 20) := rfl
theorem c124_15 : (zT 124)[8]? = some (15, z_ifeq 27) := rfl
theorem c124_18 : (zT 124)[9]? = some (18, z_al 0 1) := rfl
theorem c124_19 : (zT 124)[10]? = some (19, z_gR 12 5) := rfl
theorem c124_22 : (zT 124)[11]? = some (22, z_ic 1 1) := rfl
theorem c124_23 : (zT 124)[12]? = some (23, z_iald 20) := rfl
theorem c124_24 : (zT 124)[13]? = some (24, z_ifne 30) := rfl
theorem c124_27 : (zT 124)[14]? = some (27, z_ic (-2) 2) := rfl
theorem c124_29 : (zT 124)[15]? = some (29, z_ir) := rfl
theorem c124_30 : (zT 124)[16]? = some (30, z_al 0 1) := rfl
theorem c124_31 : (zT 124)[17]? = some (31, z_gR 12 2) := rfl
theorem c124_34 : (zT 124)[18]? = some (34, z_ic 0 1) := rfl
theorem c124_35 : (zT 124)[19]? = some (35, z_al 0 1) := rfl
theorem c124_36 : (zT 124)[20]? = some (36, z_gR 12 2) := rfl
theorem c124_39 : (zT 124)[21]? = some (39, z_ic 1 1) := rfl
theorem c124_40 : (zT 124)[22]? = some (40, z_iald 20) := rfl
theorem c124_41 : (zT 124)[23]? = some (41, z_iast) := rfl
theorem c124_42 : (zT 124)[24]? = some (42, z_al 0 1) := rfl
theorem c124_43 : (zT 124)[25]? = some (43, z_gR 12 5) := rfl
theorem c124_46 : (zT 124)[26]? = some (46, z_ic 0 1) := rfl
theorem c124_47 : (zT 124)[27]? = some (47, z_al 0 1) := rfl
theorem c124_48 : (zT 124)[28]? = some (48, z_gR 12 5) := rfl
theorem c124_51 : (zT 124)[29]? = some (51, z_ic 1 1) := rfl
theorem c124_52 : (zT 124)[30]? = some (52, z_iald 20) := rfl
theorem c124_53 : (zT 124)[31]? = some (53, z_iast) := rfl
theorem c124_54 : (zT 124)[32]? = some (54, z_al 0 1) := rfl
theorem c124_55 : (zT 124)[33]? = some (55, z_gR 12 18) := rfl
theorem c124_58 : (zT 124)[34]? = some (58, z_ic 0 1) := rfl
theorem c124_59 : (zT 124)[35]? = some (59, z_al 0 1) := rfl
theorem c124_60 : (zT 124)[36]? = some (60, z_gR 12 18) := rfl
theorem c124_63 : (zT 124)[37]? = some (63, z_ic 1 1) := rfl
theorem c124_64 : (zT 124)[38]? = some (64, z_iald 20) := rfl
theorem c124_65 : (zT 124)[39]? = some (65, z_iast) := rfl
theorem c124_66 : (zT 124)[40]? = some (66, z_ic 0 1) := rfl
theorem c124_67 : (zT 124)[41]? = some (67, z_is 1 1) := rfl
theorem c124_68 : (zT 124)[42]? = some (68, z_il 1 1) := rfl
theorem c124_69 : (zT 124)[43]? = some (69, z_ic 6 2) := rfl
theorem c124_71 : (zT 124)[44]? = some (71, z_ige 155) := rfl
theorem c124_74 : (zT 124)[45]? = some (74, z_al 0 1) := rfl
theorem c124_75 : (zT 124)[46]? = some (75, z_gR 12 3) := rfl
theorem c124_78 : (zT 124)[47]? = some (78, z_il 1 1) := rfl
theorem c124_79 : (zT 124)[48]? = some (79, z_al 0 1) := rfl
theorem c124_80 : (zT 124)[49]? = some (80, z_gR 12 3) := rfl
theorem c124_83 : (zT 124)[50]? = some (83, z_ic 6 2) := rfl
theorem c124_85 : (zT 124)[51]? = some (85, z_il 1 1) := rfl
theorem c124_86 : (zT 124)[52]? = some (86, z_iadd) := rfl
theorem c124_87 : (zT 124)[53]? = some (87, z_iald 20) := rfl
theorem c124_88 : (zT 124)[54]? = some (88, z_iast) := rfl
theorem c124_89 : (zT 124)[55]? = some (89, z_al 0 1) := rfl
theorem c124_90 : (zT 124)[56]? = some (90, z_gR 12 4) := rfl
theorem c124_93 : (zT 124)[57]? = some (93, z_il 1 1) := rfl
theorem c124_94 : (zT 124)[58]? = some (94, z_al 0 1) := rfl
theorem c124_95 : (zT 124)[59]? = some (95, z_gR 12 4) := rfl
theorem c124_98 : (zT 124)[60]? = some (98, z_ic 6 2) := rfl
theorem c124_100 : (zT 124)[61]? = some (100, z_il 1 1) := rfl
theorem c124_101 : (zT 124)[62]? = some (101, z_iadd) := rfl
theorem c124_102 : (zT 124)[63]? = some (102, z_iald 20) := rfl
theorem c124_103 : (zT 124)[64]? = some (103, z_iast) := rfl
theorem c124_104 : (zT 124)[65]? = some (104, z_al 0 1) := rfl
theorem c124_105 : (zT 124)[66]? = some (105, z_gR 12 19) := rfl
theorem c124_108 : (zT 124)[67]? = some (108, z_il 1 1) := rfl
theorem c124_109 : (zT 124)[68]? = some (109, z_al 0 1) := rfl
theorem c124_110 : (zT 124)[69]? = some (110, z_gR 12 19) := rfl
theorem c124_113 : (zT 124)[70]? = some (113, z_ic 6 2) := rfl
theorem c124_115 : (zT 124)[71]? = some (115, z_il 1 1) := rfl
theorem c124_116 : (zT 124)[72]? = some (116, z_iadd) := rfl
theorem c124_117 : (zT 124)[73]? = some (117, z_iald 20) := rfl
theorem c124_118 : (zT 124)[74]? = some (118, z_iast) := rfl
theorem c124_119 : (zT 124)[75]? = some (119, z_al 0 1) := rfl
theorem c124_120 : (zT 124)[76]? = some (120, z_gR 12 20) := rfl
theorem c124_123 : (zT 124)[77]? = some (123, z_il 1 1) := rfl
theorem c124_124 : (zT 124)[78]? = some (124, z_al 0 1) := rfl
theorem c124_125 : (zT 124)[79]? = some (125, z_gR 12 20) := rfl
theorem c124_128 : (zT 124)[80]? = some (128, z_ic 6 2) := rfl
theorem c124_130 : (zT 124)[81]? = some (130, z_il 1 1) := rfl
theorem c124_131 : (zT 124)[82]? = some (131, z_iadd) := rfl
theorem c124_132 : (zT 124)[83]? = some (132, z_iald 20) := rfl
theorem c124_133 : (zT 124)[84]? = some (133, z_iast) := rfl
theorem c124_134 : (zT 124)[85]? = some (134, z_al 0 1) := rfl
theorem c124_135 : (zT 124)[86]? = some (135, z_gR 12 21) := rfl
theorem c124_138 : (zT 124)[87]? = some (138, z_il 1 1) := rfl
theorem c124_139 : (zT 124)[88]? = some (139, z_al 0 1) := rfl
theorem c124_140 : (zT 124)[89]? = some (140, z_gR 12 21) := rfl
theorem c124_143 : (zT 124)[90]? = some (143, z_ic 6 2) := rfl
theorem c124_145 : (zT 124)[91]? = some (145, z_il 1 1) := rfl
theorem c124_146 : (zT 124)[92]? = some (146, z_iadd) := rfl
theorem c124_147 : (zT 124)[93]? = some (147, z_iald 20) := rfl
theorem c124_148 : (zT 124)[94]? = some (148, z_iast) := rfl
theorem c124_149 : (zT 124)[95]? = some (149, z_inc 1 1) := rfl
theorem c124_152 : (zT 124)[96]? = some (152, z_goto 68) := rfl
theorem c124_155 : (zT 124)[97]? = some (155, z_ic 0 1) := rfl
theorem c124_156 : (zT 124)[98]? = some (156, z_is 1 1) := rfl
theorem c124_157 : (zT 124)[99]? = some (157, z_il 1 1) := rfl
theorem c124_158 : (zT 124)[100]? = some (158, z_ic 8 2) := rfl
theorem c124_160 : (zT 124)[101]? = some (160, z_ige 289) := rfl
theorem c124_163 : (zT 124)[102]? = some (163, z_al 0 1) := rfl
theorem c124_164 : (zT 124)[103]? = some (164, z_gR 12 6) := rfl
theorem c124_167 : (zT 124)[104]? = some (167, z_il 1 1) := rfl
theorem c124_168 : (zT 124)[105]? = some (168, z_al 0 1) := rfl
theorem c124_169 : (zT 124)[106]? = some (169, z_gR 12 6) := rfl
theorem c124_172 : (zT 124)[107]? = some (172, z_ic 8 2) := rfl
theorem c124_174 : (zT 124)[108]? = some (174, z_il 1 1) := rfl
theorem c124_175 : (zT 124)[109]? = some (175, z_iadd) := rfl
theorem c124_176 : (zT 124)[110]? = some (176, z_iald 20) := rfl
theorem c124_177 : (zT 124)[111]? = some (177, z_iast) := rfl
theorem c124_178 : (zT 124)[112]? = some (178, z_al 0 1) := rfl
theorem c124_179 : (zT 124)[113]? = some (179, z_gR 12 7) := rfl
theorem c124_182 : (zT 124)[114]? = some (182, z_il 1 1) := rfl
theorem c124_183 : (zT 124)[115]? = some (183, z_al 0 1) := rfl
theorem c124_184 : (zT 124)[116]? = some (184, z_gR 12 7) := rfl
theorem c124_187 : (zT 124)[117]? = some (187, z_ic 8 2) := rfl
theorem c124_189 : (zT 124)[118]? = some (189, z_il 1 1) := rfl
theorem c124_190 : (zT 124)[119]? = some (190, z_iadd) := rfl
theorem c124_191 : (zT 124)[120]? = some (191, z_iald 20) := rfl
theorem c124_192 : (zT 124)[121]? = some (192, z_iast) := rfl
theorem c124_193 : (zT 124)[122]? = some (193, z_al 0 1) := rfl
theorem c124_194 : (zT 124)[123]? = some (194, z_gR 12 8) := rfl
theorem c124_197 : (zT 124)[124]? = some (197, z_il 1 1) := rfl
theorem c124_198 : (zT 124)[125]? = some (198, z_al 0 1) := rfl
theorem c124_199 : (zT 124)[126]? = some (199, z_gR 12 8) := rfl
theorem c124_202 : (zT 124)[127]? = some (202, z_ic 8 2) := rfl
theorem c124_204 : (zT 124)[128]? = some (204, z_il 1 1) := rfl
theorem c124_205 : (zT 124)[129]? = some (205, z_iadd) := rfl
theorem c124_206 : (zT 124)[130]? = some (206, z_iald 20) := rfl
theorem c124_207 : (zT 124)[131]? = some (207, z_iast) := rfl
theorem c124_208 : (zT 124)[132]? = some (208, z_al 0 1) := rfl
theorem c124_209 : (zT 124)[133]? = some (209, z_gR 12 9) := rfl
theorem c124_212 : (zT 124)[134]? = some (212, z_il 1 1) := rfl
theorem c124_213 : (zT 124)[135]? = some (213, z_al 0 1) := rfl
theorem c124_214 : (zT 124)[136]? = some (214, z_gR 12 9) := rfl
theorem c124_217 : (zT 124)[137]? = some (217, z_ic 8 2) := rfl
theorem c124_219 : (zT 124)[138]? = some (219, z_il 1 1) := rfl
theorem c124_220 : (zT 124)[139]? = some (220, z_iadd) := rfl
theorem c124_221 : (zT 124)[140]? = some (221, z_iald 20) := rfl
theorem c124_222 : (zT 124)[141]? = some (222, z_iast) := rfl
theorem c124_223 : (zT 124)[142]? = some (223, z_al 0 1) := rfl
theorem c124_224 : (zT 124)[143]? = some (224, z_gR 12 10) := rfl
theorem c124_227 : (zT 124)[144]? = some (227, z_il 1 1) := rfl
theorem c124_228 : (zT 124)[145]? = some (228, z_al 0 1) := rfl
theorem c124_229 : (zT 124)[146]? = some (229, z_gR 12 10) := rfl
theorem c124_232 : (zT 124)[147]? = some (232, z_ic 8 2) := rfl
theorem c124_234 : (zT 124)[148]? = some (234, z_il 1 1) := rfl
theorem c124_235 : (zT 124)[149]? = some (235, z_iadd) := rfl
theorem c124_236 : (zT 124)[150]? = some (236, z_iald 20) := rfl
theorem c124_237 : (zT 124)[151]? = some (237, z_iast) := rfl
theorem c124_238 : (zT 124)[152]? = some (238, z_al 0 1) := rfl
theorem c124_239 : (zT 124)[153]? = some (239, z_gR 12 11) := rfl
theorem c124_242 : (zT 124)[154]? = some (242, z_il 1 1) := rfl
theorem c124_243 : (zT 124)[155]? = some (243, z_al 0 1) := rfl
theorem c124_244 : (zT 124)[156]? = some (244, z_gR 12 11) := rfl
theorem c124_247 : (zT 124)[157]? = some (247, z_ic 8 2) := rfl
theorem c124_249 : (zT 124)[158]? = some (249, z_il 1 1) := rfl
theorem c124_250 : (zT 124)[159]? = some (250, z_iadd) := rfl
theorem c124_251 : (zT 124)[160]? = some (251, z_iald 20) := rfl
theorem c124_252 : (zT 124)[161]? = some (252, z_iast) := rfl
theorem c124_253 : (zT 124)[162]? = some (253, z_al 0 1) := rfl
theorem c124_254 : (zT 124)[163]? = some (254, z_gR 12 12) := rfl
theorem c124_257 : (zT 124)[164]? = some (257, z_il 1 1) := rfl
theorem c124_258 : (zT 124)[165]? = some (258, z_al 0 1) := rfl
theorem c124_259 : (zT 124)[166]? = some (259, z_gR 12 12) := rfl
theorem c124_262 : (zT 124)[167]? = some (262, z_ic 8 2) := rfl
theorem c124_264 : (zT 124)[168]? = some (264, z_il 1 1) := rfl
theorem c124_265 : (zT 124)[169]? = some (265, z_iadd) := rfl
theorem c124_266 : (zT 124)[170]? = some (266, z_iald 20) := rfl
theorem c124_267 : (zT 124)[171]? = some (267, z_iast) := rfl
theorem c124_268 : (zT 124)[172]? = some (268, z_al 0 1) := rfl
theorem c124_269 : (zT 124)[173]? = some (269, z_gR 12 13) := rfl
theorem c124_272 : (zT 124)[174]? = some (272, z_il 1 1) := rfl
theorem c124_273 : (zT 124)[175]? = some (273, z_al 0 1) := rfl
theorem c124_274 : (zT 124)[176]? = some (274, z_gR 12 13) := rfl
theorem c124_277 : (zT 124)[177]? = some (277, z_ic 8 2) := rfl
theorem c124_279 : (zT 124)[178]? = some (279, z_il 1 1) := rfl
theorem c124_280 : (zT 124)[179]? = some (280, z_iadd) := rfl
theorem c124_281 : (zT 124)[180]? = some (281, z_iald 20) := rfl
theorem c124_282 : (zT 124)[181]? = some (282, z_iast) := rfl
theorem c124_283 : (zT 124)[182]? = some (283, z_inc 1 1) := rfl
theorem c124_286 : (zT 124)[183]? = some (286, z_goto 157) := rfl
theorem c124_289 : (zT 124)[184]? = some (289, z_ic 0 1) := rfl
theorem c124_290 : (zT 124)[185]? = some (290, z_is 1 1) := rfl
theorem c124_291 : (zT 124)[186]? = some (291, z_il 1 1) := rfl
theorem c124_292 : (zT 124)[187]? = some (292, z_ic 24 2) := rfl
theorem c124_294 : (zT 124)[188]? = some (294, z_ige 318) := rfl
theorem c124_297 : (zT 124)[189]? = some (297, z_al 0 1) := rfl
theorem c124_298 : (zT 124)[190]? = some (298, z_gR 12 15) := rfl
theorem c124_301 : (zT 124)[191]? = some (301, z_il 1 1) := rfl
theorem c124_302 : (zT 124)[192]? = some (302, z_al 0 1) := rfl
theorem c124_303 : (zT 124)[193]? = some (303, z_gR 12 15) := rfl
theorem c124_306 : (zT 124)[194]? = some (306, z_ic 24 2) := rfl
theorem c124_308 : (zT 124)[195]? = some (308, z_il 1 1) := rfl
theorem c124_309 : (zT 124)[196]? = some (309, z_iadd) := rfl
theorem c124_310 : (zT 124)[197]? = some (310, z_iald 20) := rfl
theorem c124_311 : (zT 124)[198]? = some (311, z_iast) := rfl
theorem c124_312 : (zT 124)[199]? = some (312, z_inc 1 1) := rfl
theorem c124_315 : (zT 124)[200]? = some (315, z_goto 291) := rfl
theorem c124_318 : (zT 124)[201]? = some (318, z_ic 0 1) := rfl
theorem c124_319 : (zT 124)[202]? = some (319, z_is 1 1) := rfl
theorem c124_320 : (zT 124)[203]? = some (320, z_il 1 1) := rfl
theorem c124_321 : (zT 124)[204]? = some (321, z_ic 18 2) := rfl
theorem c124_323 : (zT 124)[205]? = some (323, z_ige 347) := rfl
theorem c124_326 : (zT 124)[206]? = some (326, z_al 0 1) := rfl
theorem c124_327 : (zT 124)[207]? = some (327, z_gR 12 17) := rfl
theorem c124_330 : (zT 124)[208]? = some (330, z_il 1 1) := rfl
theorem c124_331 : (zT 124)[209]? = some (331, z_al 0 1) := rfl
theorem c124_332 : (zT 124)[210]? = some (332, z_gR 12 17) := rfl
theorem c124_335 : (zT 124)[211]? = some (335, z_ic 18 2) := rfl
theorem c124_337 : (zT 124)[212]? = some (337, z_il 1 1) := rfl
theorem c124_338 : (zT 124)[213]? = some (338, z_iadd) := rfl
theorem c124_339 : (zT 124)[214]? = some (339, z_iald 20) := rfl
theorem c124_340 : (zT 124)[215]? = some (340, z_iast) := rfl
theorem c124_341 : (zT 124)[216]? = some (341, z_inc 1 1) := rfl
theorem c124_344 : (zT 124)[217]? = some (344, z_goto 320) := rfl
theorem c124_347 : (zT 124)[218]? = some (347, z_ic 0 1) := rfl
theorem c124_348 : (zT 124)[219]? = some (348, z_is 1 1) := rfl
theorem c124_349 : (zT 124)[220]? = some (349, z_il 1 1) := rfl
theorem c124_350 : (zT 124)[221]? = some (350, z_ic 3 1) := rfl
theorem c124_351 : (zT 124)[222]? = some (351, z_ige 374) := rfl
theorem c124_354 : (zT 124)[223]? = some (354, z_al 0 1) := rfl
theorem c124_355 : (zT 124)[224]? = some (355, z_gR 12 22) := rfl
theorem c124_358 : (zT 124)[225]? = some (358, z_il 1 1) := rfl
theorem c124_359 : (zT 124)[226]? = some (359, z_al 0 1) := rfl
theorem c124_360 : (zT 124)[227]? = some (360, z_gR 12 22) := rfl
theorem c124_363 : (zT 124)[228]? = some (363, z_ic 3 1) := rfl
theorem c124_364 : (zT 124)[229]? = some (364, z_il 1 1) := rfl
set_option maxRecDepth 100000 in
theorem c124_365 : (zT 124)[230]? = some (365, z_iadd) := rfl
set_option maxRecDepth 100000 in
theorem c124_366 : (zT 124)[231]? = some (366, z_iald 20) := rfl
set_option maxRecDepth 100000 in
theorem c124_367 : (zT 124)[232]? = some (367, z_iast) := rfl
set_option maxRecDepth 100000 in
theorem c124_368 : (zT 124)[233]? = some (368, z_inc 1 1) := rfl
set_option maxRecDepth 100000 in
theorem c124_371 : (zT 124)[234]? = some (371, z_goto 349) := rfl
set_option maxRecDepth 100000 in
theorem c124_374 : (zT 124)[235]? = some (374, z_ic 0 1) := rfl
set_option maxRecDepth 100000 in
theorem c124_375 : (zT 124)[236]? = some (375, z_is 1 1) := rfl
set_option maxRecDepth 100000 in
theorem c124_376 : (zT 124)[237]? = some (376, z_il 1 1) := rfl
set_option maxRecDepth 100000 in
theorem c124_377 : (zT 124)[238]? = some (377, z_ic 5 1) := rfl
set_option maxRecDepth 100000 in
theorem c124_378 : (zT 124)[239]? = some (378, z_ige 401) := rfl
set_option maxRecDepth 100000 in
theorem c124_381 : (zT 124)[240]? = some (381, z_al 0 1) := rfl
set_option maxRecDepth 100000 in
theorem c124_382 : (zT 124)[241]? = some (382, z_gR 12 23) := rfl
set_option maxRecDepth 100000 in
theorem c124_385 : (zT 124)[242]? = some (385, z_il 1 1) := rfl
set_option maxRecDepth 100000 in
theorem c124_386 : (zT 124)[243]? = some (386, z_al 0 1) := rfl
set_option maxRecDepth 100000 in
theorem c124_387 : (zT 124)[244]? = some (387, z_gR 12 23) := rfl
set_option maxRecDepth 100000 in
theorem c124_390 : (zT 124)[245]? = some (390, z_ic 5 1) := rfl
set_option maxRecDepth 100000 in
theorem c124_391 : (zT 124)[246]? = some (391, z_il 1 1) := rfl
set_option maxRecDepth 100000 in
theorem c124_392 : (zT 124)[247]? = some (392, z_iadd) := rfl
set_option maxRecDepth 100000 in
theorem c124_393 : (zT 124)[248]? = some (393, z_iald 20) := rfl
set_option maxRecDepth 100000 in
theorem c124_394 : (zT 124)[249]? = some (394, z_iast) := rfl
set_option maxRecDepth 100000 in
theorem c124_395 : (zT 124)[250]? = some (395, z_inc 1 1) := rfl
set_option maxRecDepth 100000 in
theorem c124_398 : (zT 124)[251]? = some (398, z_goto 376) := rfl
set_option maxRecDepth 100000 in
theorem c124_401 : (zT 124)[252]? = some (401, z_al 0 1) := rfl
set_option maxRecDepth 100000 in
theorem c124_402 : (zT 124)[253]? = some (402, z_gR 12 24) := rfl
set_option maxRecDepth 100000 in
theorem c124_405 : (zT 124)[254]? = some (405, z_ic 0 1) := rfl
set_option maxRecDepth 100000 in
theorem c124_406 : (zT 124)[255]? = some (406, z_ic 0 1) := rfl
set_option maxRecDepth 100000 in
theorem c124_407 : (zT 124)[256]? = some (407, z_iast) := rfl
set_option maxRecDepth 100000 in
theorem c124_408 : (zT 124)[257]? = some (408, z_al 0 1) := rfl
set_option maxRecDepth 100000 in
theorem c124_409 : (zT 124)[258]? = some (409, z_ic 0 1) := rfl
set_option maxRecDepth 100000 in
theorem c124_410 : (zT 124)[259]? = some (410, z_pI 12 29) := rfl
set_option maxRecDepth 100000 in
theorem c124_413 : (zT 124)[260]? = some (413, z_al 0 1) := rfl
set_option maxRecDepth 100000 in
theorem c124_414 : (zT 124)[261]? = some (414, z_gR 12 5) := rfl
set_option maxRecDepth 100000 in
theorem c124_417 : (zT 124)[262]? = some (417, z_ic 0 1) := rfl
set_option maxRecDepth 100000 in
theorem c124_418 : (zT 124)[263]? = some (418, z_iald 20) := rfl
set_option maxRecDepth 100000 in
theorem c124_419 : (zT 124)[264]? = some (419, z_ir) := rfl
theorem c125_0 : (zT 125)[0]? = some (0, z_il 1 1) := rfl
theorem c125_1 : (zT 125)[1]? = some (1, z_i2l) := rfl
theorem c125_2 : (zT 125)[2]? = some (2, z_lc 0 1) := rfl
theorem c125_3 : (zT 125)[3]? = some (3, z_al 0 1) := rfl
theorem c125_4 : (zT 125)[4]? = some (4, z_gR 12 2) := rfl
theorem c125_7 : (zT 125)[5]? = some (7, z_ic 0 1) := rfl
theorem c125_8 : (zT 125)[6]? = some (8, z_iald 20) := rfl
theorem c125_9 : (zT 125)[7]? = some (9, z_ic 1 1) := rfl
theorem c125_10 : (zT 125)[8]? = some (10, z_isub) := rfl
theorem c125_11 : (zT 125)[9]? = some (11, z_i2l) := rfl
theorem c125_12 : (zT 125)[10]? = some (12, z_cS 105 6 3) := rfl
theorem c125_15 : (zT 125)[11]? = some (15, z_zr) := rfl
theorem c126_0 : (zT 126)[0]? = some (0, z_il 1 1) := rfl
theorem c126_1 : (zT 126)[1]? = some (1, z_i2l) := rfl
theorem c126_2 : (zT 126)[2]? = some (2, z_lc 0 1) := rfl
theorem c126_3 : (zT 126)[3]? = some (3, z_al 0 1) := rfl
theorem c126_4 : (zT 126)[4]? = some (4, z_gR 12 5) := rfl
theorem c126_7 : (zT 126)[5]? = some (7, z_ic 0 1) := rfl
theorem c126_8 : (zT 126)[6]? = some (8, z_iald 20) := rfl
theorem c126_9 : (zT 126)[7]? = some (9, z_ic 1 1) := rfl
theorem c126_10 : (zT 126)[8]? = some (10, z_isub) := rfl
theorem c126_11 : (zT 126)[9]? = some (11, z_i2l) := rfl
theorem c126_12 : (zT 126)[10]? = some (12, z_cS 105 6 3) := rfl
theorem c126_15 : (zT 126)[11]? = some (15, z_zr) := rfl
theorem c127_0 : (zT 127)[0]? = some (0, z_il 1 1) := rfl
theorem c127_1 : (zT 127)[1]? = some (1, z_i2l) := rfl
theorem c127_2 : (zT 127)[2]? = some (2, z_lc 0 1) := rfl
theorem c127_3 : (zT 127)[3]? = some (3, z_ic 1 1) := rfl
theorem c127_4 : (zT 127)[4]? = some (4, z_al 0 1) := rfl
theorem c127_5 : (zT 127)[5]? = some (5, z_gR 12 5) := rfl
theorem c127_8 : (zT 127)[6]? = some (8, z_ic 0 1) := rfl
theorem c127_9 : (zT 127)[7]? = some (9, z_iald 20) := rfl
theorem c127_10 : (zT 127)[8]? = some (10, z_ishl) := rfl
theorem c127_11 : (zT 127)[9]? = some (11, z_ic 1 1) := rfl
theorem c127_12 : (zT 127)[10]? = some (12, z_isub) := rfl
theorem c127_13 : (zT 127)[11]? = some (13, z_i2l) := rfl
theorem c127_14 : (zT 127)[12]? = some (14, z_cS 105 6 3) := rfl
theorem c127_17 : (zT 127)[13]? = some (17, z_zr) := rfl
theorem c128_0 : (zT 128)[0]? = some (0, z_il 0 1) := rfl
theorem c128_1 : (zT 128)[1]? = some (1, z_i2l) := rfl
theorem c128_2 : (zT 128)[2]? = some (2, z_lc 0 1) := rfl
theorem c128_3 : (zT 128)[3]? = some (3, z_lc 30 3) := rfl
theorem c128_6 : (zT 128)[4]? = some (6, z_cS 105 6 3) := rfl
theorem c128_9 : (zT 128)[5]? = some (9, z_zr) := rfl
theorem c129_0 : (zT 129)[0]? = some (0, z_al 0 1) := rfl
theorem c129_1 : (zT 129)[1]? = some (1, z_il 1 1) := rfl
theorem c129_2 : (zT 129)[2]? = some (2, z_cV 12 126 2 1) := rfl
theorem c129_5 : (zT 129)[3]? = some (5, z_ifeq 20) := rfl
theorem c129_8 : (zT 129)[4]? = some (8, z_il 2 1) := rfl
theorem c129_9 : (zT 129)[5]? = some (9, z_i2l) := rfl
theorem c129_10 : (zT 129)[6]? = some (10, z_lc 0 1) := rfl
theorem c129_11 : (zT 129)[7]? = some (11, z_lc 5 3) := rfl
theorem c129_14 : (zT 129)[8]? = some (14, z_cS 105 6 3) := rfl
theorem c129_17 : (zT 129)[9]? = some (17, z_ifne 22) := rfl
theorem c129_20 : (zT 129)[10]? = some (20, z_ic (-1) 1) := rfl
theorem c129_21 : (zT 129)[11]? = some (21, z_ir) := rfl
theorem c129_22 : (zT 129)[12]? = some (22, z_il 2 1) := rfl
theorem c129_23 : (zT 129)[13]? = some (23, z_sw 91 [(0, 56), (1, 63), (2, 70), (3, 77), (4, 84)]) := rfl
theorem c129_56 : (zT 129)[14]? = some (56, z_al 0 1) := rfl
theorem c129_57 : (zT 129)[15]? = some (57, z_gR 12 6) := rfl
theorem c129_60 : (zT 129)[16]? = some (60, z_il 1 1) := rfl
theorem c129_61 : (zT 129)[17]? = some (61, z_iald 20) := rfl
theorem c129_62 : (zT 129)[18]? = some (62, z_ir) := rfl
theorem c129_63 : (zT 129)[19]? = some (63, z_al 0 1) := rfl
theorem c129_64 : (zT 129)[20]? = some (64, z_gR 12 7) := rfl
theorem c129_67 : (zT 129)[21]? = some (67, z_il 1 1) := rfl
theorem c129_68 : (zT 129)[22]? = some (68, z_iald 20) := rfl
theorem c129_69 : (zT 129)[23]? = some (69, z_ir) := rfl
theorem c129_70 : (zT 129)[24]? = some (70, z_al 0 1) := rfl
theorem c129_71 : (zT 129)[25]? = some (71, z_gR 12 8) := rfl
theorem c129_74 : (zT 129)[26]? = some (74, z_il 1 1) := rfl
theorem c129_75 : (zT 129)[27]? = some (75, z_iald 20) := rfl
theorem c129_76 : (zT 129)[28]? = some (76, z_ir) := rfl
theorem c129_77 : (zT 129)[29]? = some (77, z_al 0 1) := rfl
theorem c129_78 : (zT 129)[30]? = some (78, z_gR 12 9) := rfl
theorem c129_81 : (zT 129)[31]? = some (81, z_il 1 1) := rfl
theorem c129_82 : (zT 129)[32]? = some (82, z_iald 20) := rfl
theorem c129_83 : (zT 129)[33]? = some (83, z_ir) := rfl
theorem c129_84 : (zT 129)[34]? = some (84, z_al 0 1) := rfl
theorem c129_85 : (zT 129)[35]? = some (85, z_gR 12 10) := rfl
theorem c129_88 : (zT 129)[36]? = some (88, z_il 1 1) := rfl
theorem c129_89 : (zT 129)[37]? = some (89, z_iald 20) := rfl
theorem c129_90 : (zT 129)[38]? = some (90, z_ir) := rfl
theorem c129_91 : (zT 129)[39]? = some (91, z_al 0 1) := rfl
theorem c129_92 : (zT 129)[40]? = some (92, z_gR 12 11) := rfl
theorem c129_95 : (zT 129)[41]? = some (95, z_il 1 1) := rfl
theorem c129_96 : (zT 129)[42]? = some (96, z_iald 20) := rfl
theorem c129_97 : (zT 129)[43]? = some (97, z_ir) := rfl
theorem c130_0 : (zT 130)[0]? = some (0, z_ic 0 1) := rfl
theorem c130_1 : (zT 130)[1]? = some (1, z_is 7 2) := rfl
theorem c130_3 : (zT 130)[2]? = some (3, z_ic 0 1) := rfl
theorem c130_4 : (zT 130)[3]? = some (4, z_is 8 2) := rfl
theorem c130_6 : (zT 130)[4]? = some (6, z_ic 0 1) := rfl
theorem c130_7 : (zT 130)[5]? = some (7, z_is 9 2) := rfl
theorem c130_9 : (zT 130)[6]? = some (9, z_il 9 2) := rfl
theorem c130_11 : (zT 130)[7]? = some (11, z_il 2 1) := rfl
theorem c130_12 : (zT 130)[8]? = some (12, z_igt 154) := rfl
theorem c130_15 : (zT 130)[9]? = some (15, z_il 7 2) := rfl
theorem c130_17 : (zT 130)[10]? = some (17, z_al 0 1) := rfl
theorem c130_18 : (zT 130)[11]? = some (18, z_gR 12 17) := rfl
theorem c130_21 : (zT 130)[12]? = some (21, z_ic 3 1) := rfl
theorem c130_22 : (zT 130)[13]? = some (22, z_il 9 2) := rfl
theorem c130_24 : (zT 130)[14]? = some (24, z_imul) := rfl
theorem c130_25 : (zT 130)[15]? = some (25, z_il 3 1) := rfl
theorem c130_26 : (zT 130)[16]? = some (26, z_iadd) := rfl
theorem c130_27 : (zT 130)[17]? = some (27, z_iald 20) := rfl
theorem c130_28 : (zT 130)[18]? = some (28, z_iadd) := rfl
theorem c130_29 : (zT 130)[19]? = some (29, z_il 9 2) := rfl
theorem c130_31 : (zT 130)[20]? = some (31, z_il 6 2) := rfl
theorem c130_33 : (zT 130)[21]? = some (33, z_ine 45) := rfl
theorem c130_36 : (zT 130)[22]? = some (36, z_il 3 1) := rfl
theorem c130_37 : (zT 130)[23]? = some (37, z_ifne 45) := rfl
theorem c130_40 : (zT 130)[24]? = some (40, z_ic 100 2) := rfl
theorem c130_42 : (zT 130)[25]? = some (42, z_goto 46) := rfl
theorem c130_45 : (zT 130)[26]? = some (45, z_ic 0 1) := rfl
theorem c130_46 : (zT 130)[27]? = some (46, z_iadd) := rfl
theorem c130_47 : (zT 130)[28]? = some (47, z_is 8 2) := rfl
theorem c130_49 : (zT 130)[29]? = some (49, z_ic 0 1) := rfl
theorem c130_50 : (zT 130)[30]? = some (50, z_is 10 2) := rfl
theorem c130_52 : (zT 130)[31]? = some (52, z_il 10 2) := rfl
theorem c130_54 : (zT 130)[32]? = some (54, z_al 0 1) := rfl
theorem c130_55 : (zT 130)[33]? = some (55, z_gR 12 5) := rfl
theorem c130_58 : (zT 130)[34]? = some (58, z_ic 0 1) := rfl
theorem c130_59 : (zT 130)[35]? = some (59, z_iald 20) := rfl
theorem c130_60 : (zT 130)[36]? = some (60, z_ige 122) := rfl
theorem c130_63 : (zT 130)[37]? = some (63, z_il 8 2) := rfl
theorem c130_65 : (zT 130)[38]? = some (65, z_al 0 1) := rfl
theorem c130_66 : (zT 130)[39]? = some (66, z_gR 12 6) := rfl
theorem c130_69 : (zT 130)[40]? = some (69, z_il 10 2) := rfl
theorem c130_71 : (zT 130)[41]? = some (71, z_iald 20) := rfl
theorem c130_72 : (zT 130)[42]? = some (72, z_il 9 2) := rfl
theorem c130_74 : (zT 130)[43]? = some (74, z_ine 112) := rfl
theorem c130_77 : (zT 130)[44]? = some (77, z_il 1 1) := rfl
theorem c130_78 : (zT 130)[45]? = some (78, z_il 10 2) := rfl
theorem c130_80 : (zT 130)[46]? = some (80, z_cS 106 2 2) := rfl
theorem c130_83 : (zT 130)[47]? = some (83, z_ifeq 112) := rfl
theorem c130_86 : (zT 130)[48]? = some (86, z_al 0 1) := rfl
theorem c130_87 : (zT 130)[49]? = some (87, z_gR 12 10) := rfl
theorem c130_90 : (zT 130)[50]? = some (90, z_il 10 2) := rfl
theorem c130_92 : (zT 130)[51]? = some (92, z_iald 20) := rfl
theorem c130_93 : (zT 130)[52]? = some (93, z_il 4 2) := rfl
theorem c130_95 : (zT 130)[53]? = some (95, z_igt 112) := rfl
theorem c130_98 : (zT 130)[54]? = some (98, z_al 0 1) := rfl
theorem c130_99 : (zT 130)[55]? = some (99, z_gR 12 15) := rfl
theorem c130_102 : (zT 130)[56]? = some (102, z_ic 3 1) := rfl
theorem c130_103 : (zT 130)[57]? = some (103, z_il 10 2) := rfl
theorem c130_105 : (zT 130)[58]? = some (105, z_imul) := rfl
theorem c130_106 : (zT 130)[59]? = some (106, z_il 3 1) := rfl
theorem c130_107 : (zT 130)[60]? = some (107, z_iadd) := rfl
theorem c130_108 : (zT 130)[61]? = some (108, z_iald 20) := rfl
theorem c130_109 : (zT 130)[62]? = some (109, z_goto 113) := rfl
theorem c130_112 : (zT 130)[63]? = some (112, z_ic 0 1) := rfl
theorem c130_113 : (zT 130)[64]? = some (113, z_iadd) := rfl
theorem c130_114 : (zT 130)[65]? = some (114, z_is 8 2) := rfl
theorem c130_116 : (zT 130)[66]? = some (116, z_inc 10 1) := rfl
theorem c130_119 : (zT 130)[67]? = some (119, z_goto 52) := rfl
theorem c130_122 : (zT 130)[68]? = some (122, z_il 9 2) := rfl
theorem c130_124 : (zT 130)[69]? = some (124, z_il 5 2) := rfl
theorem c130_126 : (zT 130)[70]? = some (126, z_ine 133) := rfl
theorem c130_129 : (zT 130)[71]? = some (129, z_ic 0 1) := rfl
theorem c130_130 : (zT 130)[72]? = some (130, z_goto 146) := rfl
theorem c130_133 : (zT 130)[73]? = some (133, z_il 8 2) := rfl
theorem c130_135 : (zT 130)[74]? = some (135, z_al 0 1) := rfl
theorem c130_136 : (zT 130)[75]? = some (136, z_gR 12 3) := rfl
theorem c130_139 : (zT 130)[76]? = some (139, z_il 9 2) := rfl
theorem c130_141 : (zT 130)[77]? = some (141, z_iald 20) := rfl
theorem c130_142 : (zT 130)[78]? = some (142, z_imul) := rfl
theorem c130_143 : (zT 130)[79]? = some (143, z_ic 10 2) := rfl
theorem c130_145 : (zT 130)[80]? = some (145, z_idiv) := rfl
theorem c130_146 : (zT 130)[81]? = some (146, z_is 7 2) := rfl
theorem c130_148 : (zT 130)[82]? = some (148, z_inc 9 1) := rfl
theorem c130_151 : (zT 130)[83]? = some (151, z_goto 9) := rfl
theorem c130_154 : (zT 130)[84]? = some (154, z_il 8 2) := rfl
theorem c130_156 : (zT 130)[85]? = some (156, z_ir) := rfl
theorem c131_0 : (zT 131)[0]? = some (0, z_al 0 1) := rfl
theorem c131_1 : (zT 131)[1]? = some (1, z_gR 12 2) := rfl
theorem c131_4 : (zT 131)[2]? = some (4, z_ic 0 1) := rfl
theorem c131_5 : (zT 131)[3]? = some (5, z_iald 20) := rfl
theorem c131_6 : (zT 131)[4]? = some (6, z_ic 1 1) := rfl
theorem c131_7 : (zT 131)[5]? = some (7, z_isub) := rfl
theorem c131_8 : (zT 131)[6]? = some (8, z_is 6 2) := rfl
theorem c131_10 : (zT 131)[7]? = some (10, z_il 6 2) := rfl
theorem c131_12 : (zT 131)[8]? = some (12, z_il 4 2) := rfl
theorem c131_14 : (zT 131)[9]? = some (14, z_ine 21) := rfl
theorem c131_17 : (zT 131)[10]? = some (17, z_ic 0 1) := rfl
theorem c131_18 : (zT 131)[11]? = some (18, z_goto 45) := rfl
theorem c131_21 : (zT 131)[12]? = some (21, z_al 0 1) := rfl
theorem c131_22 : (zT 131)[13]? = some (22, z_il 1 1) := rfl
theorem c131_23 : (zT 131)[14]? = some (23, z_il 6 2) := rfl
theorem c131_25 : (zT 131)[15]? = some (25, z_il 2 1) := rfl
theorem c131_26 : (zT 131)[16]? = some (26, z_il 3 1) := rfl
theorem c131_27 : (zT 131)[17]? = some (27, z_il 4 2) := rfl
theorem c131_29 : (zT 131)[18]? = some (29, z_il 5 2) := rfl
theorem c131_31 : (zT 131)[19]? = some (31, z_cV 12 130 11 6) := rfl
theorem c131_34 : (zT 131)[20]? = some (34, z_al 0 1) := rfl
theorem c131_35 : (zT 131)[21]? = some (35, z_gR 12 3) := rfl
theorem c131_38 : (zT 131)[22]? = some (38, z_il 6 2) := rfl
theorem c131_40 : (zT 131)[23]? = some (40, z_iald 20) := rfl
theorem c131_41 : (zT 131)[24]? = some (41, z_imul) := rfl
theorem c131_42 : (zT 131)[25]? = some (42, z_ic 10 2) := rfl
theorem c131_44 : (zT 131)[26]? = some (44, z_idiv) := rfl
theorem c131_45 : (zT 131)[27]? = some (45, z_ir) := rfl
theorem c132_0 : (zT 132)[0]? = some (0, z_ic 0 1) := rfl
theorem c132_1 : (zT 132)[1]? = some (1, z_is 5 2) := rfl
theorem c132_3 : (zT 132)[2]? = some (3, z_ic 0 1) := rfl
theorem c132_4 : (zT 132)[3]? = some (4, z_is 6 2) := rfl
theorem c132_6 : (zT 132)[4]? = some (6, z_il 6 2) := rfl
theorem c132_8 : (zT 132)[5]? = some (8, z_ic 3 1) := rfl
theorem c132_9 : (zT 132)[6]? = some (9, z_ige 55) := rfl
theorem c132_12 : (zT 132)[7]? = some (12, z_il 5 2) := rfl
theorem c132_14 : (zT 132)[8]? = some (14, z_al 0 1) := rfl
theorem c132_15 : (zT 132)[9]? = some (15, z_il 1 1) := rfl
theorem c132_16 : (zT 132)[10]? = some (16, z_il 6 2) := rfl
theorem c132_18 : (zT 132)[11]? = some (18, z_il 2 1) := rfl
theorem c132_19 : (zT 132)[12]? = some (19, z_il 3 1) := rfl
theorem c132_20 : (zT 132)[13]? = some (20, z_il 4 2) := rfl
theorem c132_22 : (zT 132)[14]? = some (22, z_cV 12 131 7 5) := rfl
theorem c132_25 : (zT 132)[15]? = some (25, z_cS 107 1 1) := rfl
theorem c132_28 : (zT 132)[16]? = some (28, z_al 0 1) := rfl
theorem c132_29 : (zT 132)[17]? = some (29, z_gR 12 22) := rfl
theorem c132_32 : (zT 132)[18]? = some (32, z_il 6 2) := rfl
theorem c132_34 : (zT 132)[19]? = some (34, z_iald 20) := rfl
theorem c132_35 : (zT 132)[20]? = some (35, z_ilt 45) := rfl
theorem c132_38 : (zT 132)[21]? = some (38, z_ic 1 1) := rfl
theorem c132_39 : (zT 132)[22]? = some (39, z_il 6 2) := rfl
theorem c132_41 : (zT 132)[23]? = some (41, z_ishl) := rfl
theorem c132_42 : (zT 132)[24]? = some (42, z_goto 46) := rfl
theorem c132_45 : (zT 132)[25]? = some (45, z_ic 0 1) := rfl
theorem c132_46 : (zT 132)[26]? = some (46, z_ior) := rfl
theorem c132_47 : (zT 132)[27]? = some (47, z_is 5 2) := rfl
theorem c132_49 : (zT 132)[28]? = some (49, z_inc 6 1) := rfl
theorem c132_52 : (zT 132)[29]? = some (52, z_goto 6) := rfl
theorem c132_55 : (zT 132)[30]? = some (55, z_il 5 2) := rfl
theorem c132_57 : (zT 132)[31]? = some (57, z_ir) := rfl
theorem c133_0 : (zT 133)[0]? = some (0, z_ic 0 1) := rfl
theorem c133_1 : (zT 133)[1]? = some (1, z_is 2 1) := rfl
theorem c133_2 : (zT 133)[2]? = some (2, z_ic 0 1) := rfl
theorem c133_3 : (zT 133)[3]? = some (3, z_is 3 1) := rfl
theorem c133_4 : (zT 133)[4]? = some (4, z_il 3 1) := rfl
theorem c133_5 : (zT 133)[5]? = some (5, z_ic 3 1) := rfl
theorem c133_6 : (zT 133)[6]? = some (6, z_ige 33) := rfl
theorem c133_9 : (zT 133)[7]? = some (9, z_il 2 1) := rfl
theorem c133_10 : (zT 133)[8]? = some (10, z_al 0 1) := rfl
theorem c133_11 : (zT 133)[9]? = some (11, z_il 1 1) := rfl
theorem c133_12 : (zT 133)[10]? = some (12, z_il 3 1) := rfl
theorem c133_13 : (zT 133)[11]? = some (13, z_ic 30 2) := rfl
theorem c133_15 : (zT 133)[12]? = some (15, z_ic (-4) 2) := rfl
theorem c133_17 : (zT 133)[13]? = some (17, z_ic (-4) 2) := rfl
theorem c133_19 : (zT 133)[14]? = some (19, z_cV 12 131 7 5) := rfl
theorem c133_22 : (zT 133)[15]? = some (22, z_cS 107 1 1) := rfl
theorem c133_25 : (zT 133)[16]? = some (25, z_iadd) := rfl
theorem c133_26 : (zT 133)[17]? = some (26, z_is 2 1) := rfl
theorem c133_27 : (zT 133)[18]? = some (27, z_inc 3 1) := rfl
theorem c133_30 : (zT 133)[19]? = some (30, z_goto 4) := rfl
theorem c133_33 : (zT 133)[20]? = some (33, z_il 2 1) := rfl
theorem c133_34 : (zT 133)[21]? = some (34, z_ir) := rfl
theorem c134_0 : (zT 134)[0]? = some (0, z_al 0 1) := rfl
theorem c134_1 : (zT 134)[1]? = some (1, z_il 1 1) := rfl
theorem c134_2 : (zT 134)[2]? = some (2, z_cV 12 127 2 1) := rfl
theorem c134_5 : (zT 134)[3]? = some (5, z_ifeq 41) := rfl
theorem c134_8 : (zT 134)[4]? = some (8, z_il 2 1) := rfl
theorem c134_9 : (zT 134)[5]? = some (9, z_i2l) := rfl
theorem c134_10 : (zT 134)[6]? = some (10, z_lc 0 1) := rfl
theorem c134_11 : (zT 134)[7]? = some (11, z_lc 2 3) := rfl
theorem c134_14 : (zT 134)[8]? = some (14, z_cS 105 6 3) := rfl
theorem c134_17 : (zT 134)[9]? = some (17, z_ifeq 41) := rfl
theorem c134_20 : (zT 134)[10]? = some (20, z_il 3 1) := rfl
theorem c134_21 : (zT 134)[11]? = some (21, z_cS 128 1 1) := rfl
theorem c134_24 : (zT 134)[12]? = some (24, z_ifeq 41) := rfl
theorem c134_27 : (zT 134)[13]? = some (27, z_al 0 1) := rfl
theorem c134_28 : (zT 134)[14]? = some (28, z_il 1 1) := rfl
theorem c134_29 : (zT 134)[15]? = some (29, z_il 2 1) := rfl
theorem c134_30 : (zT 134)[16]? = some (30, z_il 3 1) := rfl
theorem c134_31 : (zT 134)[17]? = some (31, z_ic (-4) 2) := rfl
theorem c134_33 : (zT 134)[18]? = some (33, z_ic (-4) 2) := rfl
theorem c134_35 : (zT 134)[19]? = some (35, z_cV 12 131 7 5) := rfl
theorem c134_38 : (zT 134)[20]? = some (38, z_goto 43) := rfl
theorem c134_41 : (zT 134)[21]? = some (41, z_ic (-2147483648) 2) := rfl
theorem c134_43 : (zT 134)[22]? = some (43, z_ir) := rfl
theorem c135_0 : (zT 135)[0]? = some (0, z_al 0 1) := rfl
theorem c135_1 : (zT 135)[1]? = some (1, z_il 1 1) := rfl
theorem c135_2 : (zT 135)[2]? = some (2, z_cV 12 127 2 1) := rfl
theorem c135_5 : (zT 135)[3]? = some (5, z_ifeq 52) := rfl
theorem c135_8 : (zT 135)[4]? = some (8, z_al 0 1) := rfl
theorem c135_9 : (zT 135)[5]? = some (9, z_il 2 1) := rfl
theorem c135_10 : (zT 135)[6]? = some (10, z_cV 12 125 2 1) := rfl
theorem c135_13 : (zT 135)[7]? = some (13, z_ifeq 52) := rfl
theorem c135_16 : (zT 135)[8]? = some (16, z_il 3 1) := rfl
theorem c135_17 : (zT 135)[9]? = some (17, z_i2l) := rfl
theorem c135_18 : (zT 135)[10]? = some (18, z_lc 0 1) := rfl
theorem c135_19 : (zT 135)[11]? = some (19, z_lc 2 3) := rfl
theorem c135_22 : (zT 135)[12]? = some (22, z_cS 105 6 3) := rfl
theorem c135_25 : (zT 135)[13]? = some (25, z_ifeq 52) := rfl
theorem c135_28 : (zT 135)[14]? = some (28, z_il 4 2) := rfl
theorem c135_30 : (zT 135)[15]? = some (30, z_cS 128 1 1) := rfl
theorem c135_33 : (zT 135)[16]? = some (33, z_ifeq 52) := rfl
theorem c135_36 : (zT 135)[17]? = some (36, z_al 0 1) := rfl
theorem c135_37 : (zT 135)[18]? = some (37, z_il 1 1) := rfl
theorem c135_38 : (zT 135)[19]? = some (38, z_il 2 1) := rfl
theorem c135_39 : (zT 135)[20]? = some (39, z_il 3 1) := rfl
theorem c135_40 : (zT 135)[21]? = some (40, z_il 4 2) := rfl
theorem c135_42 : (zT 135)[22]? = some (42, z_ic (-4) 2) := rfl
theorem c135_44 : (zT 135)[23]? = some (44, z_ic (-4) 2) := rfl
theorem c135_46 : (zT 135)[24]? = some (46, z_cV 12 130 11 6) := rfl
theorem c135_49 : (zT 135)[25]? = some (49, z_goto 54) := rfl
theorem c135_52 : (zT 135)[26]? = some (52, z_ic (-2147483648) 2) := rfl
theorem c135_54 : (zT 135)[27]? = some (54, z_ir) := rfl
theorem c136_0 : (zT 136)[0]? = some (0, z_al 0 1) := rfl
theorem c136_1 : (zT 136)[1]? = some (1, z_il 1 1) := rfl
theorem c136_2 : (zT 136)[2]? = some (2, z_cV 12 127 2 1) := rfl
theorem c136_5 : (zT 136)[3]? = some (5, z_ifeq 25) := rfl
theorem c136_8 : (zT 136)[4]? = some (8, z_il 2 1) := rfl
theorem c136_9 : (zT 136)[5]? = some (9, z_cS 128 1 1) := rfl
theorem c136_12 : (zT 136)[6]? = some (12, z_ifeq 25) := rfl
theorem c136_15 : (zT 136)[7]? = some (15, z_il 3 1) := rfl
theorem c136_16 : (zT 136)[8]? = some (16, z_i2l) := rfl
theorem c136_17 : (zT 136)[9]? = some (17, z_lc 0 1) := rfl
theorem c136_18 : (zT 136)[10]? = some (18, z_lc 1 1) := rfl
theorem c136_19 : (zT 136)[11]? = some (19, z_cS 105 6 3) := rfl
theorem c136_22 : (zT 136)[12]? = some (22, z_ifne 27) := rfl
theorem c136_25 : (zT 136)[13]? = some (25, z_ic (-1) 1) := rfl
theorem c136_26 : (zT 136)[14]? = some (26, z_ir) := rfl
theorem c136_27 : (zT 136)[15]? = some (27, z_il 3 1) := rfl
theorem c136_28 : (zT 136)[16]? = some (28, z_ifne 42) := rfl
theorem c136_31 : (zT 136)[17]? = some (31, z_al 0 1) := rfl
theorem c136_32 : (zT 136)[18]? = some (32, z_il 1 1) := rfl
theorem c136_33 : (zT 136)[19]? = some (33, z_il 2 1) := rfl
theorem c136_34 : (zT 136)[20]? = some (34, z_ic (-4) 2) := rfl
theorem c136_36 : (zT 136)[21]? = some (36, z_ic (-4) 2) := rfl
theorem c136_38 : (zT 136)[22]? = some (38, z_cV 12 132 7 4) := rfl
theorem c136_41 : (zT 136)[23]? = some (41, z_ir) := rfl
theorem c136_42 : (zT 136)[24]? = some (42, z_ic 0 1) := rfl
theorem c136_43 : (zT 136)[25]? = some (43, z_is 4 2) := rfl
theorem c136_45 : (zT 136)[26]? = some (45, z_ic 0 1) := rfl
theorem c136_46 : (zT 136)[27]? = some (46, z_is 5 2) := rfl
theorem c136_48 : (zT 136)[28]? = some (48, z_il 5 2) := rfl
theorem c136_50 : (zT 136)[29]? = some (50, z_ic 3 1) := rfl
theorem c136_51 : (zT 136)[30]? = some (51, z_ige 80) := rfl
theorem c136_54 : (zT 136)[31]? = some (54, z_il 4 2) := rfl
theorem c136_56 : (zT 136)[32]? = some (56, z_al 0 1) := rfl
theorem c136_57 : (zT 136)[33]? = some (57, z_il 1 1) := rfl
theorem c136_58 : (zT 136)[34]? = some (58, z_il 5 2) := rfl
theorem c136_60 : (zT 136)[35]? = some (60, z_il 2 1) := rfl
theorem c136_61 : (zT 136)[36]? = some (61, z_ic (-4) 2) := rfl
theorem c136_63 : (zT 136)[37]? = some (63, z_ic (-4) 2) := rfl
theorem c136_65 : (zT 136)[38]? = some (65, z_cV 12 131 7 5) := rfl
theorem c136_68 : (zT 136)[39]? = some (68, z_cS 107 1 1) := rfl
theorem c136_71 : (zT 136)[40]? = some (71, z_iadd) := rfl
theorem c136_72 : (zT 136)[41]? = some (72, z_is 4 2) := rfl
theorem c136_74 : (zT 136)[42]? = some (74, z_inc 5 1) := rfl
theorem c136_77 : (zT 136)[43]? = some (77, z_goto 48) := rfl
theorem c136_80 : (zT 136)[44]? = some (80, z_il 4 2) := rfl
theorem c136_82 : (zT 136)[45]? = some (82, z_ir) := rfl
theorem c137_0 : (zT 137)[0]? = some (0, z_il 1 1) := rfl
theorem c137_1 : (zT 137)[1]? = some (1, z_ifne 8) := rfl
theorem c137_4 : (zT 137)[2]? = some (4, z_il 2 1) := rfl
theorem c137_5 : (zT 137)[3]? = some (5, z_ifeq 46) := rfl
theorem c137_8 : (zT 137)[4]? = some (8, z_il 1 1) := rfl
theorem c137_9 : (zT 137)[5]? = some (9, z_ic 3 1) := rfl
theorem c137_10 : (zT 137)[6]? = some (10, z_ine 21) := rfl
theorem c137_13 : (zT 137)[7]? = some (13, z_al 0 1) := rfl
theorem c137_14 : (zT 137)[8]? = some (14, z_il 2 1) := rfl
theorem c137_15 : (zT 137)[9]? = some (15, z_cV 12 126 2 1) := rfl
theorem c137_18 : (zT 137)[10]? = some (18, z_ifne 46) := rfl
theorem c137_21 : (zT 137)[11]? = some (21, z_il 1 1) := rfl
theorem c137_22 : (zT 137)[12]? = some (22, z_i2l) := rfl
theorem c137_23 : (zT 137)[13]? = some (23, z_lc 1 1) := rfl
theorem c137_24 : (zT 137)[14]? = some (24, z_lc 4 3) := rfl
theorem c137_27 : (zT 137)[15]? = some (27, z_cS 105 6 3) := rfl
theorem c137_30 : (zT 137)[16]? = some (30, z_ifeq 50) := rfl
theorem c137_33 : (zT 137)[17]? = some (33, z_il 1 1) := rfl
theorem c137_34 : (zT 137)[18]? = some (34, z_ic 3 1) := rfl
theorem c137_35 : (zT 137)[19]? = some (35, z_ieq 50) := rfl
theorem c137_38 : (zT 137)[20]? = some (38, z_al 0 1) := rfl
theorem c137_39 : (zT 137)[21]? = some (39, z_il 2 1) := rfl
theorem c137_40 : (zT 137)[22]? = some (40, z_cV 12 125 2 1) := rfl
theorem c137_43 : (zT 137)[23]? = some (43, z_ifeq 50) := rfl
theorem c137_46 : (zT 137)[24]? = some (46, z_ic 1 1) := rfl
theorem c137_47 : (zT 137)[25]? = some (47, z_goto 51) := rfl
theorem c137_50 : (zT 137)[26]? = some (50, z_ic 0 1) := rfl
theorem c137_51 : (zT 137)[27]? = some (51, z_zr) := rfl
theorem c138_0 : (zT 138)[0]? = some (0, z_il 2 1) := rfl
theorem c138_1 : (zT 138)[1]? = some (1, z_sw 146 [(1, 32), (2, 43), (3, 54), (4, 85)]) := rfl
theorem c138_32 : (zT 138)[2]? = some (32, z_al 0 1) := rfl
theorem c138_33 : (zT 138)[3]? = some (33, z_il 1 1) := rfl
theorem c138_34 : (zT 138)[4]? = some (34, z_il 4 2) := rfl
theorem c138_36 : (zT 138)[5]? = some (36, z_il 3 1) := rfl
theorem c138_37 : (zT 138)[6]? = some (37, z_ic (-4) 2) := rfl
theorem c138_39 : (zT 138)[7]? = some (39, z_cV 12 132 7 4) := rfl
theorem c138_42 : (zT 138)[8]? = some (42, z_ir) := rfl
theorem c138_43 : (zT 138)[9]? = some (43, z_al 0 1) := rfl
theorem c138_44 : (zT 138)[10]? = some (44, z_il 1 1) := rfl
theorem c138_45 : (zT 138)[11]? = some (45, z_il 4 2) := rfl
theorem c138_47 : (zT 138)[12]? = some (47, z_ic (-4) 2) := rfl
theorem c138_49 : (zT 138)[13]? = some (49, z_il 3 1) := rfl
theorem c138_50 : (zT 138)[14]? = some (50, z_cV 12 132 7 4) := rfl
theorem c138_53 : (zT 138)[15]? = some (53, z_ir) := rfl
theorem c138_54 : (zT 138)[16]? = some (54, z_al 0 1) := rfl
theorem c138_55 : (zT 138)[17]? = some (55, z_al 0 1) := rfl
theorem c138_56 : (zT 138)[18]? = some (56, z_gR 12 7) := rfl
theorem c138_59 : (zT 138)[19]? = some (59, z_il 3 1) := rfl
theorem c138_60 : (zT 138)[20]? = some (60, z_iald 20) := rfl
theorem c138_61 : (zT 138)[21]? = some (61, z_ifne 74) := rfl
theorem c138_64 : (zT 138)[22]? = some (64, z_il 1 1) := rfl
theorem c138_65 : (zT 138)[23]? = some (65, z_ic 1 1) := rfl
theorem c138_66 : (zT 138)[24]? = some (66, z_il 3 1) := rfl
theorem c138_67 : (zT 138)[25]? = some (67, z_ishl) := rfl
theorem c138_68 : (zT 138)[26]? = some (68, z_ic (-1) 1) := rfl
theorem c138_69 : (zT 138)[27]? = some (69, z_ixor) := rfl
theorem c138_70 : (zT 138)[28]? = some (70, z_iand) := rfl
theorem c138_71 : (zT 138)[29]? = some (71, z_goto 75) := rfl
theorem c138_74 : (zT 138)[30]? = some (74, z_il 1 1) := rfl
theorem c138_75 : (zT 138)[31]? = some (75, z_il 4 2) := rfl
theorem c138_77 : (zT 138)[32]? = some (77, z_ic (-4) 2) := rfl
theorem c138_79 : (zT 138)[33]? = some (79, z_ic (-4) 2) := rfl
theorem c138_81 : (zT 138)[34]? = some (81, z_cV 12 132 7 4) := rfl
theorem c138_84 : (zT 138)[35]? = some (84, z_ir) := rfl
theorem c138_85 : (zT 138)[36]? = some (85, z_ic 0 1) := rfl
theorem c138_86 : (zT 138)[37]? = some (86, z_is 5 2) := rfl
theorem c138_88 : (zT 138)[38]? = some (88, z_ic 0 1) := rfl
theorem c138_89 : (zT 138)[39]? = some (89, z_is 6 2) := rfl
theorem c138_91 : (zT 138)[40]? = some (91, z_il 6 2) := rfl
theorem c138_93 : (zT 138)[41]? = some (93, z_ic 3 1) := rfl
theorem c138_94 : (zT 138)[42]? = some (94, z_ige 125) := rfl
theorem c138_97 : (zT 138)[43]? = some (97, z_il 5 2) := rfl
theorem c138_99 : (zT 138)[44]? = some (99, z_al 0 1) := rfl
theorem c138_100 : (zT 138)[45]? = some (100, z_il 1 1) := rfl
theorem c138_101 : (zT 138)[46]? = some (101, z_il 3 1) := rfl
theorem c138_102 : (zT 138)[47]? = some (102, z_il 6 2) := rfl
theorem c138_104 : (zT 138)[48]? = some (104, z_il 4 2) := rfl
theorem c138_106 : (zT 138)[49]? = some (106, z_ic (-4) 2) := rfl
theorem c138_108 : (zT 138)[50]? = some (108, z_ic (-4) 2) := rfl
theorem c138_110 : (zT 138)[51]? = some (110, z_cV 12 130 11 6) := rfl
theorem c138_113 : (zT 138)[52]? = some (113, z_cS 107 1 1) := rfl
theorem c138_116 : (zT 138)[53]? = some (116, z_iadd) := rfl
theorem c138_117 : (zT 138)[54]? = some (117, z_is 5 2) := rfl
theorem c138_119 : (zT 138)[55]? = some (119, z_inc 6 1) := rfl
theorem c138_122 : (zT 138)[56]? = some (122, z_goto 91) := rfl
theorem c138_125 : (zT 138)[57]? = some (125, z_il 5 2) := rfl
theorem c138_127 : (zT 138)[58]? = some (127, z_ic 20 2) := rfl
theorem c138_129 : (zT 138)[59]? = some (129, z_idiv) := rfl
theorem c138_130 : (zT 138)[60]? = some (130, z_ic 9 2) := rfl
theorem c138_132 : (zT 138)[61]? = some (132, z_ile 140) := rfl
theorem c138_135 : (zT 138)[62]? = some (135, z_ic 9 2) := rfl
theorem c138_137 : (zT 138)[63]? = some (137, z_goto 145) := rfl
theorem c138_140 : (zT 138)[64]? = some (140, z_il 5 2) := rfl
theorem c138_142 : (zT 138)[65]? = some (142, z_ic 20 2) := rfl
theorem c138_144 : (zT 138)[66]? = some (144, z_idiv) := rfl
theorem c138_145 : (zT 138)[67]? = some (145, z_ir) := rfl
theorem c138_146 : (zT 138)[68]? = some (146, z_al 0 1) := rfl
theorem c138_147 : (zT 138)[69]? = some (147, z_il 1 1) := rfl
theorem c138_148 : (zT 138)[70]? = some (148, z_il 4 2) := rfl
theorem c138_150 : (zT 138)[71]? = some (150, z_ic (-4) 2) := rfl
theorem c138_152 : (zT 138)[72]? = some (152, z_ic (-4) 2) := rfl
theorem c138_154 : (zT 138)[73]? = some (154, z_cV 12 132 7 4) := rfl
theorem c138_157 : (zT 138)[74]? = some (157, z_ir) := rfl
theorem c139_0 : (zT 139)[0]? = some (0, z_al 0 1) := rfl
theorem c139_1 : (zT 139)[1]? = some (1, z_il 1 1) := rfl
theorem c139_2 : (zT 139)[2]? = some (2, z_cV 12 127 2 1) := rfl
theorem c139_5 : (zT 139)[3]? = some (5, z_ifeq 37) := rfl
theorem c139_8 : (zT 139)[4]? = some (8, z_al 0 1) := rfl
theorem c139_9 : (zT 139)[5]? = some (9, z_il 2 1) := rfl
theorem c139_10 : (zT 139)[6]? = some (10, z_il 3 1) := rfl
theorem c139_11 : (zT 139)[7]? = some (11, z_cV 12 137 3 2) := rfl
theorem c139_14 : (zT 139)[8]? = some (14, z_ifeq 37) := rfl
theorem c139_17 : (zT 139)[9]? = some (17, z_il 4 2) := rfl
theorem c139_19 : (zT 139)[10]? = some (19, z_cS 128 1 1) := rfl
theorem c139_22 : (zT 139)[11]? = some (22, z_ifeq 37) := rfl
theorem c139_25 : (zT 139)[12]? = some (25, z_al 0 1) := rfl
theorem c139_26 : (zT 139)[13]? = some (26, z_il 1 1) := rfl
theorem c139_27 : (zT 139)[14]? = some (27, z_il 2 1) := rfl
theorem c139_28 : (zT 139)[15]? = some (28, z_il 3 1) := rfl
theorem c139_29 : (zT 139)[16]? = some (29, z_il 4 2) := rfl
theorem c139_31 : (zT 139)[17]? = some (31, z_cV 12 138 7 4) := rfl
theorem c139_34 : (zT 139)[18]? = some (34, z_goto 38) := rfl
theorem c139_37 : (zT 139)[19]? = some (37, z_ic (-1) 1) := rfl
theorem c139_38 : (zT 139)[20]? = some (38, z_ir) := rfl
theorem c140_0 : (zT 140)[0]? = some (0, z_ic 0 1) := rfl
theorem c140_1 : (zT 140)[1]? = some (1, z_is 3 1) := rfl
theorem c140_2 : (zT 140)[2]? = some (2, z_ic 0 1) := rfl
theorem c140_3 : (zT 140)[3]? = some (3, z_is 4 2) := rfl
theorem c140_5 : (zT 140)[4]? = some (5, z_il 4 2) := rfl
theorem c140_7 : (zT 140)[5]? = some (7, z_al 0 1) := rfl
theorem c140_8 : (zT 140)[6]? = some (8, z_gR 12 2) := rfl
theorem c140_11 : (zT 140)[7]? = some (11, z_ic 0 1) := rfl
theorem c140_12 : (zT 140)[8]? = some (12, z_iald 20) := rfl
theorem c140_13 : (zT 140)[9]? = some (13, z_ige 76) := rfl
theorem c140_16 : (zT 140)[10]? = some (16, z_il 1 1) := rfl
theorem c140_17 : (zT 140)[11]? = some (17, z_ic 1 1) := rfl
theorem c140_18 : (zT 140)[12]? = some (18, z_ine 76) := rfl
theorem c140_21 : (zT 140)[13]? = some (21, z_il 3 1) := rfl
theorem c140_22 : (zT 140)[14]? = some (22, z_ifne 64) := rfl
theorem c140_25 : (zT 140)[15]? = some (25, z_il 4 2) := rfl
theorem c140_27 : (zT 140)[16]? = some (27, z_il 2 1) := rfl
theorem c140_28 : (zT 140)[17]? = some (28, z_ieq 68) := rfl
theorem c140_31 : (zT 140)[18]? = some (31, z_al 0 1) := rfl
theorem c140_32 : (zT 140)[19]? = some (32, z_gR 12 3) := rfl
theorem c140_35 : (zT 140)[20]? = some (35, z_il 4 2) := rfl
theorem c140_37 : (zT 140)[21]? = some (37, z_iald 20) := rfl
theorem c140_38 : (zT 140)[22]? = some (38, z_al 0 1) := rfl
theorem c140_39 : (zT 140)[23]? = some (39, z_gR 12 3) := rfl
theorem c140_42 : (zT 140)[24]? = some (42, z_il 2 1) := rfl
theorem c140_43 : (zT 140)[25]? = some (43, z_iald 20) := rfl
theorem c140_44 : (zT 140)[26]? = some (44, z_al 0 1) := rfl
theorem c140_45 : (zT 140)[27]? = some (45, z_gR 12 2) := rfl
theorem c140_48 : (zT 140)[28]? = some (48, z_ic 0 1) := rfl
theorem c140_49 : (zT 140)[29]? = some (49, z_iald 20) := rfl
theorem c140_50 : (zT 140)[30]? = some (50, z_ic 1 1) := rfl
theorem c140_51 : (zT 140)[31]? = some (51, z_isub) := rfl
theorem c140_52 : (zT 140)[32]? = some (52, z_idiv) := rfl
theorem c140_53 : (zT 140)[33]? = some (53, z_iadd) := rfl
theorem c140_54 : (zT 140)[34]? = some (54, z_al 0 1) := rfl
theorem c140_55 : (zT 140)[35]? = some (55, z_gR 12 4) := rfl
theorem c140_58 : (zT 140)[36]? = some (58, z_il 4 2) := rfl
theorem c140_60 : (zT 140)[37]? = some (60, z_iald 20) := rfl
theorem c140_61 : (zT 140)[38]? = some (61, z_ile 68) := rfl
theorem c140_64 : (zT 140)[39]? = some (64, z_ic 1 1) := rfl
theorem c140_65 : (zT 140)[40]? = some (65, z_goto 69) := rfl
theorem c140_68 : (zT 140)[41]? = some (68, z_ic 0 1) := rfl
theorem c140_69 : (zT 140)[42]? = some (69, z_is 3 1) := rfl
theorem c140_70 : (zT 140)[43]? = some (70, z_inc 4 1) := rfl
theorem c140_73 : (zT 140)[44]? = some (73, z_goto 5) := rfl
theorem c140_76 : (zT 140)[45]? = some (76, z_ic 0 1) := rfl
theorem c140_77 : (zT 140)[46]? = some (77, z_is 4 2) := rfl
theorem c140_79 : (zT 140)[47]? = some (79, z_il 4 2) := rfl
theorem c140_81 : (zT 140)[48]? = some (81, z_al 0 1) := rfl
theorem c140_82 : (zT 140)[49]? = some (82, z_gR 12 5) := rfl
theorem c140_85 : (zT 140)[50]? = some (85, z_ic 0 1) := rfl
theorem c140_86 : (zT 140)[51]? = some (86, z_iald 20) := rfl
theorem c140_87 : (zT 140)[52]? = some (87, z_ige 140) := rfl
theorem c140_90 : (zT 140)[53]? = some (90, z_il 1 1) := rfl
theorem c140_91 : (zT 140)[54]? = some (91, z_ic 2 1) := rfl
theorem c140_92 : (zT 140)[55]? = some (92, z_ieq 100) := rfl
theorem c140_95 : (zT 140)[56]? = some (95, z_il 1 1) := rfl
theorem c140_96 : (zT 140)[57]? = some (96, z_ic 4 1) := rfl
theorem c140_97 : (zT 140)[58]? = some (97, z_ine 140) := rfl
theorem c140_100 : (zT 140)[59]? = some (100, z_il 3 1) := rfl
theorem c140_101 : (zT 140)[60]? = some (101, z_ifne 128) := rfl
theorem c140_104 : (zT 140)[61]? = some (104, z_al 0 1) := rfl
theorem c140_105 : (zT 140)[62]? = some (105, z_gR 12 6) := rfl
theorem c140_108 : (zT 140)[63]? = some (108, z_il 4 2) := rfl
theorem c140_110 : (zT 140)[64]? = some (110, z_iald 20) := rfl
theorem c140_111 : (zT 140)[65]? = some (111, z_il 2 1) := rfl
theorem c140_112 : (zT 140)[66]? = some (112, z_ine 132) := rfl
theorem c140_115 : (zT 140)[67]? = some (115, z_al 0 1) := rfl
theorem c140_116 : (zT 140)[68]? = some (116, z_gR 12 12) := rfl
theorem c140_119 : (zT 140)[69]? = some (119, z_il 4 2) := rfl
theorem c140_121 : (zT 140)[70]? = some (121, z_iald 20) := rfl
theorem c140_122 : (zT 140)[71]? = some (122, z_ic 300 3) := rfl
theorem c140_125 : (zT 140)[72]? = some (125, z_ilt 132) := rfl
theorem c140_128 : (zT 140)[73]? = some (128, z_ic 1 1) := rfl
theorem c140_129 : (zT 140)[74]? = some (129, z_goto 133) := rfl
theorem c140_132 : (zT 140)[75]? = some (132, z_ic 0 1) := rfl
theorem c140_133 : (zT 140)[76]? = some (133, z_is 3 1) := rfl
theorem c140_134 : (zT 140)[77]? = some (134, z_inc 4 1) := rfl
theorem c140_137 : (zT 140)[78]? = some (137, z_goto 79) := rfl
theorem c140_140 : (zT 140)[79]? = some (140, z_il 3 1) := rfl
theorem c140_141 : (zT 140)[80]? = some (141, z_ifeq 148) := rfl
theorem c140_144 : (zT 140)[81]? = some (144, z_ic 1 1) := rfl
theorem c140_145 : (zT 140)[82]? = some (145, z_goto 149) := rfl
theorem c140_148 : (zT 140)[83]? = some (148, z_ic 0 1) := rfl
theorem c140_149 : (zT 140)[84]? = some (149, z_ir) := rfl
theorem c141_0 : (zT 141)[0]? = some (0, z_al 0 1) := rfl
theorem c141_1 : (zT 141)[1]? = some (1, z_il 1 1) := rfl
theorem c141_2 : (zT 141)[2]? = some (2, z_il 2 1) := rfl
theorem c141_3 : (zT 141)[3]? = some (3, z_cV 12 137 3 2) := rfl
theorem c141_6 : (zT 141)[4]? = some (6, z_ifeq 18) := rfl
theorem c141_9 : (zT 141)[5]? = some (9, z_al 0 1) := rfl
theorem c141_10 : (zT 141)[6]? = some (10, z_il 1 1) := rfl
theorem c141_11 : (zT 141)[7]? = some (11, z_il 2 1) := rfl
theorem c141_12 : (zT 141)[8]? = some (12, z_cV 12 140 5 2) := rfl
theorem c141_15 : (zT 141)[9]? = some (15, z_goto 19) := rfl
theorem c141_18 : (zT 141)[10]? = some (18, z_ic (-1) 1) := rfl
theorem c141_19 : (zT 141)[11]? = some (19, z_ir) := rfl
theorem c142_0 : (zT 142)[0]? = some (0, z_al 0 1) := rfl
theorem c142_1 : (zT 142)[1]? = some (1, z_gR 12 12) := rfl
theorem c142_4 : (zT 142)[2]? = some (4, z_il 1 1) := rfl
theorem c142_5 : (zT 142)[3]? = some (5, z_iald 20) := rfl
theorem c142_6 : (zT 142)[4]? = some (6, z_is 3 1) := rfl
theorem c142_7 : (zT 142)[5]? = some (7, z_ic 0 1) := rfl
theorem c142_8 : (zT 142)[6]? = some (8, z_is 4 2) := rfl
theorem c142_10 : (zT 142)[7]? = some (10, z_il 4 2) := rfl
theorem c142_12 : (zT 142)[8]? = some (12, z_il 2 1) := rfl
theorem c142_13 : (zT 142)[9]? = some (13, z_ige 52) := rfl
theorem c142_16 : (zT 142)[10]? = some (16, z_il 3 1) := rfl
theorem c142_17 : (zT 142)[11]? = some (17, z_ifle 52) := rfl
theorem c142_20 : (zT 142)[12]? = some (20, z_il 3 1) := rfl
theorem c142_21 : (zT 142)[13]? = some (21, z_il 3 1) := rfl
theorem c142_22 : (zT 142)[14]? = some (22, z_al 0 1) := rfl
theorem c142_23 : (zT 142)[15]? = some (23, z_gR 12 13) := rfl
theorem c142_26 : (zT 142)[16]? = some (26, z_il 1 1) := rfl
theorem c142_27 : (zT 142)[17]? = some (27, z_iald 20) := rfl
theorem c142_28 : (zT 142)[18]? = some (28, z_imul) := rfl
theorem c142_29 : (zT 142)[19]? = some (29, z_ic 100 2) := rfl
theorem c142_31 : (zT 142)[20]? = some (31, z_idiv) := rfl
theorem c142_32 : (zT 142)[21]? = some (32, z_ic 1 1) := rfl
theorem c142_33 : (zT 142)[22]? = some (33, z_iadd) := rfl
theorem c142_34 : (zT 142)[23]? = some (34, z_isub) := rfl
theorem c142_35 : (zT 142)[24]? = some (35, z_is 3 1) := rfl
theorem c142_36 : (zT 142)[25]? = some (36, z_il 3 1) := rfl
theorem c142_37 : (zT 142)[26]? = some (37, z_ifge 44) := rfl
theorem c142_40 : (zT 142)[27]? = some (40, z_ic 0 1) := rfl
theorem c142_41 : (zT 142)[28]? = some (41, z_goto 45) := rfl
theorem c142_44 : (zT 142)[29]? = some (44, z_il 3 1) := rfl
theorem c142_45 : (zT 142)[30]? = some (45, z_is 3 1) := rfl
theorem c142_46 : (zT 142)[31]? = some (46, z_inc 4 1) := rfl
theorem c142_49 : (zT 142)[32]? = some (49, z_goto 10) := rfl
theorem c142_52 : (zT 142)[33]? = some (52, z_il 3 1) := rfl
theorem c142_53 : (zT 142)[34]? = some (53, z_ir) := rfl
theorem c143_0 : (zT 143)[0]? = some (0, z_al 0 1) := rfl
theorem c143_1 : (zT 143)[1]? = some (1, z_il 1 1) := rfl
theorem c143_2 : (zT 143)[2]? = some (2, z_cV 12 126 2 1) := rfl
theorem c143_5 : (zT 143)[3]? = some (5, z_ifeq 29) := rfl
theorem c143_8 : (zT 143)[4]? = some (8, z_il 2 1) := rfl
theorem c143_9 : (zT 143)[5]? = some (9, z_i2l) := rfl
theorem c143_10 : (zT 143)[6]? = some (10, z_lc 0 1) := rfl
theorem c143_11 : (zT 143)[7]? = some (11, z_lc 999 3) := rfl
theorem c143_14 : (zT 143)[8]? = some (14, z_cS 105 6 3) := rfl
theorem c143_17 : (zT 143)[9]? = some (17, z_ifeq 29) := rfl
theorem c143_20 : (zT 143)[10]? = some (20, z_al 0 1) := rfl
theorem c143_21 : (zT 143)[11]? = some (21, z_il 1 1) := rfl
theorem c143_22 : (zT 143)[12]? = some (22, z_il 2 1) := rfl
theorem c143_23 : (zT 143)[13]? = some (23, z_cV 12 142 5 2) := rfl
theorem c143_26 : (zT 143)[14]? = some (26, z_goto 30) := rfl
theorem c143_29 : (zT 143)[15]? = some (29, z_ic (-1) 1) := rfl
theorem c143_30 : (zT 143)[16]? = some (30, z_ir) := rfl
theorem c144_0 : (zT 144)[0]? = some (0, z_ic 0 1) := rfl
theorem c144_1 : (zT 144)[1]? = some (1, z_is 1 1) := rfl
theorem c144_2 : (zT 144)[2]? = some (2, z_il 1 1) := rfl
theorem c144_3 : (zT 144)[3]? = some (3, z_ic 999 3) := rfl
theorem c144_6 : (zT 144)[4]? = some (6, z_igt 62) := rfl
theorem c144_9 : (zT 144)[5]? = some (9, z_ic 1 1) := rfl
theorem c144_10 : (zT 144)[6]? = some (10, z_is 2 1) := rfl
theorem c144_11 : (zT 144)[7]? = some (11, z_ic 0 1) := rfl
theorem c144_12 : (zT 144)[8]? = some (12, z_is 3 1) := rfl
theorem c144_13 : (zT 144)[9]? = some (13, z_il 3 1) := rfl
theorem c144_14 : (zT 144)[10]? = some (14, z_al 0 1) := rfl
theorem c144_15 : (zT 144)[11]? = some (15, z_gR 12 5) := rfl
theorem c144_18 : (zT 144)[12]? = some (18, z_ic 0 1) := rfl
theorem c144_19 : (zT 144)[13]? = some (19, z_iald 20) := rfl
theorem c144_20 : (zT 144)[14]? = some (20, z_ige 50) := rfl
theorem c144_23 : (zT 144)[15]? = some (23, z_il 2 1) := rfl
theorem c144_24 : (zT 144)[16]? = some (24, z_ifeq 50) := rfl
theorem c144_27 : (zT 144)[17]? = some (27, z_al 0 1) := rfl
theorem c144_28 : (zT 144)[18]? = some (28, z_il 3 1) := rfl
theorem c144_29 : (zT 144)[19]? = some (29, z_il 1 1) := rfl
theorem c144_30 : (zT 144)[20]? = some (30, z_cV 12 142 5 2) := rfl
theorem c144_33 : (zT 144)[21]? = some (33, z_ic 50 2) := rfl
theorem c144_35 : (zT 144)[22]? = some (35, z_ige 42) := rfl
theorem c144_38 : (zT 144)[23]? = some (38, z_ic 1 1) := rfl
theorem c144_39 : (zT 144)[24]? = some (39, z_goto 43) := rfl
theorem c144_42 : (zT 144)[25]? = some (42, z_ic 0 1) := rfl
theorem c144_43 : (zT 144)[26]? = some (43, z_is 2 1) := rfl
theorem c144_44 : (zT 144)[27]? = some (44, z_inc 3 1) := rfl
theorem c144_47 : (zT 144)[28]? = some (47, z_goto 13) := rfl
theorem c144_50 : (zT 144)[29]? = some (50, z_il 2 1) := rfl
theorem c144_51 : (zT 144)[30]? = some (51, z_ifeq 56) := rfl
theorem c144_54 : (zT 144)[31]? = some (54, z_il 1 1) := rfl
theorem c144_55 : (zT 144)[32]? = some (55, z_ir) := rfl
theorem c144_56 : (zT 144)[33]? = some (56, z_inc 1 1) := rfl
theorem c144_59 : (zT 144)[34]? = some (59, z_goto 2) := rfl
theorem c144_62 : (zT 144)[35]? = some (62, z_ic (-4) 2) := rfl
theorem c144_64 : (zT 144)[36]? = some (64, z_ir) := rfl
theorem c145_0 : (zT 145)[0]? = some (0, z_ic 0 1) := rfl
theorem c145_1 : (zT 145)[1]? = some (1, z_is 1 1) := rfl
theorem c145_2 : (zT 145)[2]? = some (2, z_il 0 1) := rfl
theorem c145_3 : (zT 145)[3]? = some (3, z_is 2 1) := rfl
theorem c145_4 : (zT 145)[4]? = some (4, z_il 2 1) := rfl
theorem c145_5 : (zT 145)[5]? = some (5, z_ifeq 20) := rfl
theorem c145_8 : (zT 145)[6]? = some (8, z_inc 1 1) := rfl
theorem c145_11 : (zT 145)[7]? = some (11, z_il 2 1) := rfl
theorem c145_12 : (zT 145)[8]? = some (12, z_il 2 1) := rfl
theorem c145_13 : (zT 145)[9]? = some (13, z_ic 1 1) := rfl
theorem c145_14 : (zT 145)[10]? = some (14, z_isub) := rfl
theorem c145_15 : (zT 145)[11]? = some (15, z_iand) := rfl
theorem c145_16 : (zT 145)[12]? = some (16, z_is 2 1) := rfl
theorem c145_17 : (zT 145)[13]? = some (17, z_goto 4) := rfl
theorem c145_20 : (zT 145)[14]? = some (20, z_il 1 1) := rfl
theorem c145_21 : (zT 145)[15]? = some (21, z_ir) := rfl
theorem c146_0 : (zT 146)[0]? = some (0, z_lc 1 1) := rfl
theorem c146_1 : (zT 146)[1]? = some (1, z_ls 2 1) := rfl
theorem c146_2 : (zT 146)[2]? = some (2, z_ic 0 1) := rfl
theorem c146_3 : (zT 146)[3]? = some (3, z_is 4 2) := rfl
theorem c146_5 : (zT 146)[4]? = some (5, z_il 4 2) := rfl
theorem c146_7 : (zT 146)[5]? = some (7, z_al 0 1) := rfl
theorem c146_8 : (zT 146)[6]? = some (8, z_gR 12 5) := rfl
theorem c146_11 : (zT 146)[7]? = some (11, z_ic 0 1) := rfl
theorem c146_12 : (zT 146)[8]? = some (12, z_iald 20) := rfl
theorem c146_13 : (zT 146)[9]? = some (13, z_ige 56) := rfl
theorem c146_16 : (zT 146)[10]? = some (16, z_ll 2 1) := rfl
theorem c146_17 : (zT 146)[11]? = some (17, z_il 1 1) := rfl
theorem c146_18 : (zT 146)[12]? = some (18, z_il 4 2) := rfl
theorem c146_20 : (zT 146)[13]? = some (20, z_cS 106 2 2) := rfl
theorem c146_23 : (zT 146)[14]? = some (23, z_ifeq 37) := rfl
theorem c146_26 : (zT 146)[15]? = some (26, z_al 0 1) := rfl
theorem c146_27 : (zT 146)[16]? = some (27, z_gR 12 9) := rfl
theorem c146_30 : (zT 146)[17]? = some (30, z_il 4 2) := rfl
theorem c146_32 : (zT 146)[18]? = some (32, z_iald 20) := rfl
theorem c146_33 : (zT 146)[19]? = some (33, z_i2l) := rfl
theorem c146_34 : (zT 146)[20]? = some (34, z_goto 48) := rfl
theorem c146_37 : (zT 146)[21]? = some (37, z_ic 10 2) := rfl
theorem c146_39 : (zT 146)[22]? = some (39, z_al 0 1) := rfl
theorem c146_40 : (zT 146)[23]? = some (40, z_gR 12 9) := rfl
theorem c146_43 : (zT 146)[24]? = some (43, z_il 4 2) := rfl
theorem c146_45 : (zT 146)[25]? = some (45, z_iald 20) := rfl
theorem c146_46 : (zT 146)[26]? = some (46, z_isub) := rfl
theorem c146_47 : (zT 146)[27]? = some (47, z_i2l) := rfl
theorem c146_48 : (zT 146)[28]? = some (48, z_lmul) := rfl
theorem c146_49 : (zT 146)[29]? = some (49, z_ls 2 1) := rfl
theorem c146_50 : (zT 146)[30]? = some (50, z_inc 4 1) := rfl
theorem c146_53 : (zT 146)[31]? = some (53, z_goto 5) := rfl
theorem c146_56 : (zT 146)[32]? = some (56, z_ll 2 1) := rfl
theorem c146_57 : (zT 146)[33]? = some (57, z_lr) := rfl
theorem c147_0 : (zT 147)[0]? = some (0, z_ic 1 1) := rfl
theorem c147_1 : (zT 147)[1]? = some (1, z_is 2 1) := rfl
theorem c147_2 : (zT 147)[2]? = some (2, z_ic 0 1) := rfl
theorem c147_3 : (zT 147)[3]? = some (3, z_is 3 1) := rfl
theorem c147_4 : (zT 147)[4]? = some (4, z_il 3 1) := rfl
theorem c147_5 : (zT 147)[5]? = some (5, z_al 0 1) := rfl
theorem c147_6 : (zT 147)[6]? = some (6, z_gR 12 24) := rfl
theorem c147_9 : (zT 147)[7]? = some (9, z_ic 0 1) := rfl
theorem c147_10 : (zT 147)[8]? = some (10, z_iald 20) := rfl
theorem c147_11 : (zT 147)[9]? = some (11, z_ige 62) := rfl
theorem c147_14 : (zT 147)[10]? = some (14, z_il 2 1) := rfl
theorem c147_15 : (zT 147)[11]? = some (15, z_ifeq 62) := rfl
theorem c147_18 : (zT 147)[12]? = some (18, z_al 0 1) := rfl
theorem c147_19 : (zT 147)[13]? = some (19, z_il 1 1) := rfl
theorem c147_20 : (zT 147)[14]? = some (20, z_al 0 1) := rfl
theorem c147_21 : (zT 147)[15]? = some (21, z_gR 12 25) := rfl
theorem c147_24 : (zT 147)[16]? = some (24, z_il 3 1) := rfl
theorem c147_25 : (zT 147)[17]? = some (25, z_iald 20) := rfl
theorem c147_26 : (zT 147)[18]? = some (26, z_al 0 1) := rfl
theorem c147_27 : (zT 147)[19]? = some (27, z_gR 12 26) := rfl
theorem c147_30 : (zT 147)[20]? = some (30, z_il 3 1) := rfl
theorem c147_31 : (zT 147)[21]? = some (31, z_iald 20) := rfl
theorem c147_32 : (zT 147)[22]? = some (32, z_al 0 1) := rfl
theorem c147_33 : (zT 147)[23]? = some (33, z_gR 12 27) := rfl
theorem c147_36 : (zT 147)[24]? = some (36, z_il 3 1) := rfl
theorem c147_37 : (zT 147)[25]? = some (37, z_iald 20) := rfl
theorem c147_38 : (zT 147)[26]? = some (38, z_cV 12 138 7 4) := rfl
theorem c147_41 : (zT 147)[27]? = some (41, z_al 0 1) := rfl
theorem c147_42 : (zT 147)[28]? = some (42, z_gR 12 28) := rfl
theorem c147_45 : (zT 147)[29]? = some (45, z_il 3 1) := rfl
theorem c147_46 : (zT 147)[30]? = some (46, z_iald 20) := rfl
theorem c147_47 : (zT 147)[31]? = some (47, z_ine 54) := rfl
theorem c147_50 : (zT 147)[32]? = some (50, z_ic 1 1) := rfl
theorem c147_51 : (zT 147)[33]? = some (51, z_goto 55) := rfl
theorem c147_54 : (zT 147)[34]? = some (54, z_ic 0 1) := rfl
theorem c147_55 : (zT 147)[35]? = some (55, z_is 2 1) := rfl
theorem c147_56 : (zT 147)[36]? = some (56, z_inc 3 1) := rfl
theorem c147_59 : (zT 147)[37]? = some (59, z_goto 4) := rfl
theorem c147_62 : (zT 147)[38]? = some (62, z_il 2 1) := rfl
theorem c147_63 : (zT 147)[39]? = some (63, z_zr) := rfl
theorem c148_0 : (zT 148)[0]? = some (0, z_al 0 1) := rfl
theorem c148_1 : (zT 148)[1]? = some (1, z_ic 0 1) := rfl
theorem c148_2 : (zT 148)[2]? = some (2, z_pI 12 32) := rfl
theorem c148_5 : (zT 148)[3]? = some (5, z_ic 0 1) := rfl
theorem c148_6 : (zT 148)[4]? = some (6, z_is 1 1) := rfl
theorem c148_7 : (zT 148)[5]? = some (7, z_il 1 1) := rfl
theorem c148_8 : (zT 148)[6]? = some (8, z_ic 1 1) := rfl
theorem c148_9 : (zT 148)[7]? = some (9, z_al 0 1) := rfl
theorem c148_10 : (zT 148)[8]? = some (10, z_gR 12 5) := rfl
theorem c148_13 : (zT 148)[9]? = some (13, z_ic 0 1) := rfl
theorem c148_14 : (zT 148)[10]? = some (14, z_iald 20) := rfl
theorem c148_15 : (zT 148)[11]? = some (15, z_ishl) := rfl
theorem c148_16 : (zT 148)[12]? = some (16, z_ige 85) := rfl
theorem c148_19 : (zT 148)[13]? = some (19, z_il 1 1) := rfl
theorem c148_20 : (zT 148)[14]? = some (20, z_cS 145 3 1) := rfl
theorem c148_23 : (zT 148)[15]? = some (23, z_ic 3 1) := rfl
theorem c148_24 : (zT 148)[16]? = some (24, z_ige 79) := rfl
theorem c148_27 : (zT 148)[17]? = some (27, z_al 0 1) := rfl
theorem c148_28 : (zT 148)[18]? = some (28, z_il 1 1) := rfl
theorem c148_29 : (zT 148)[19]? = some (29, z_cV 12 146 5 1) := rfl
theorem c148_32 : (zT 148)[20]? = some (32, z_lc 0 1) := rfl
theorem c148_33 : (zT 148)[21]? = some (33, z_lcmp) := rfl
theorem c148_34 : (zT 148)[22]? = some (34, z_ifle 79) := rfl
theorem c148_37 : (zT 148)[23]? = some (37, z_al 0 1) := rfl
theorem c148_38 : (zT 148)[24]? = some (38, z_il 1 1) := rfl
theorem c148_39 : (zT 148)[25]? = some (39, z_cV 12 147 4 1) := rfl
theorem c148_42 : (zT 148)[26]? = some (42, z_ifeq 79) := rfl
theorem c148_45 : (zT 148)[27]? = some (45, z_al 0 1) := rfl
theorem c148_46 : (zT 148)[28]? = some (46, z_gR 12 33) := rfl
theorem c148_49 : (zT 148)[29]? = some (49, z_al 0 1) := rfl
theorem c148_50 : (zT 148)[30]? = some (50, z_gI 12 32) := rfl
theorem c148_53 : (zT 148)[31]? = some (53, z_il 1 1) := rfl
theorem c148_54 : (zT 148)[32]? = some (54, z_iast) := rfl
theorem c148_55 : (zT 148)[33]? = some (55, z_al 0 1) := rfl
theorem c148_56 : (zT 148)[34]? = some (56, z_gR 12 34) := rfl
theorem c148_59 : (zT 148)[35]? = some (59, z_al 0 1) := rfl
theorem c148_60 : (zT 148)[36]? = some (60, z_gI 12 32) := rfl
theorem c148_63 : (zT 148)[37]? = some (63, z_al 0 1) := rfl
theorem c148_64 : (zT 148)[38]? = some (64, z_il 1 1) := rfl
theorem c148_65 : (zT 148)[39]? = some (65, z_cV 12 146 5 1) := rfl
theorem c148_68 : (zT 148)[40]? = some (68, z_last) := rfl
theorem c148_69 : (zT 148)[41]? = some (69, z_al 0 1) := rfl
theorem c148_70 : (zT 148)[42]? = some (70, z_dup) := rfl
theorem c148_71 : (zT 148)[43]? = some (71, z_gI 12 32) := rfl
theorem c148_74 : (zT 148)[44]? = some (74, z_ic 1 1) := rfl
theorem c148_75 : (zT 148)[45]? = some (75, z_iadd) := rfl
theorem c148_76 : (zT 148)[46]? = some (76, z_pI 12 32) := rfl
theorem c148_79 : (zT 148)[47]? = some (79, z_inc 1 1) := rfl
theorem c148_82 : (zT 148)[48]? = some (82, z_goto 7) := rfl
theorem c148_85 : (zT 148)[49]? = some (85, z_vr) := rfl
theorem c149_0 : (zT 149)[0]? = some (0, z_lc 0 1) := rfl
theorem c149_1 : (zT 149)[1]? = some (1, z_ls 1 1) := rfl
theorem c149_2 : (zT 149)[2]? = some (2, z_ic 0 1) := rfl
theorem c149_3 : (zT 149)[3]? = some (3, z_is 3 1) := rfl
theorem c149_4 : (zT 149)[4]? = some (4, z_il 3 1) := rfl
theorem c149_5 : (zT 149)[5]? = some (5, z_al 0 1) := rfl
theorem c149_6 : (zT 149)[6]? = some (6, z_gI 12 32) := rfl
theorem c149_9 : (zT 149)[7]? = some (9, z_ige 27) := rfl
theorem c149_12 : (zT 149)[8]? = some (12, z_ll 1 1) := rfl
theorem c149_13 : (zT 149)[9]? = some (13, z_al 0 1) := rfl
theorem c149_14 : (zT 149)[10]? = some (14, z_gR 12 34) := rfl
theorem c149_17 : (zT 149)[11]? = some (17, z_il 3 1) := rfl
theorem c149_18 : (zT 149)[12]? = some (18, z_lald) := rfl
theorem c149_19 : (zT 149)[13]? = some (19, z_ladd) := rfl
theorem c149_20 : (zT 149)[14]? = some (20, z_ls 1 1) := rfl
theorem c149_21 : (zT 149)[15]? = some (21, z_inc 3 1) := rfl
theorem c149_24 : (zT 149)[16]? = some (24, z_goto 4) := rfl
theorem c149_27 : (zT 149)[17]? = some (27, z_ll 1 1) := rfl
theorem c149_28 : (zT 149)[18]? = some (28, z_lr) := rfl
theorem c150_0 : (zT 150)[0]? = some (0, z_al 0 1) := rfl
theorem c150_1 : (zT 150)[1]? = some (1, z_il 1 1) := rfl
theorem c150_2 : (zT 150)[2]? = some (2, z_il 2 1) := rfl
theorem c150_3 : (zT 150)[3]? = some (3, z_cV 12 137 3 2) := rfl
theorem c150_6 : (zT 150)[4]? = some (6, z_ifeq 29) := rfl
theorem c150_9 : (zT 150)[5]? = some (9, z_il 3 1) := rfl
theorem c150_10 : (zT 150)[6]? = some (10, z_cS 128 1 1) := rfl
theorem c150_13 : (zT 150)[7]? = some (13, z_ifeq 29) := rfl
theorem c150_16 : (zT 150)[8]? = some (16, z_il 4 2) := rfl
theorem c150_18 : (zT 150)[9]? = some (18, z_i2l) := rfl
theorem c150_19 : (zT 150)[10]? = some (19, z_lc 0 1) := rfl
theorem c150_20 : (zT 150)[11]? = some (20, z_lc 9 3) := rfl
theorem c150_23 : (zT 150)[12]? = some (23, z_cS 105 6 3) := rfl
theorem c150_26 : (zT 150)[13]? = some (26, z_ifne 31) := rfl
theorem c150_29 : (zT 150)[14]? = some (29, z_ic (-1) 1) := rfl
theorem c150_30 : (zT 150)[15]? = some (30, z_ir) := rfl
theorem c150_31 : (zT 150)[16]? = some (31, z_al 0 1) := rfl
theorem c150_32 : (zT 150)[17]? = some (32, z_gR 12 24) := rfl
theorem c150_35 : (zT 150)[18]? = some (35, z_ic 0 1) := rfl
theorem c150_36 : (zT 150)[19]? = some (36, z_iald 20) := rfl
theorem c150_37 : (zT 150)[20]? = some (37, z_is 5 2) := rfl
theorem c150_39 : (zT 150)[21]? = some (39, z_il 5 2) := rfl
theorem c150_41 : (zT 150)[22]? = some (41, z_ic 10 2) := rfl
theorem c150_43 : (zT 150)[23]? = some (43, z_ine 49) := rfl
theorem c150_46 : (zT 150)[24]? = some (46, z_ic (-3) 2) := rfl
theorem c150_48 : (zT 150)[25]? = some (48, z_ir) := rfl
theorem c150_49 : (zT 150)[26]? = some (49, z_al 0 1) := rfl
theorem c150_50 : (zT 150)[27]? = some (50, z_gR 12 25) := rfl
theorem c150_53 : (zT 150)[28]? = some (53, z_il 5 2) := rfl
theorem c150_55 : (zT 150)[29]? = some (55, z_il 1 1) := rfl
theorem c150_56 : (zT 150)[30]? = some (56, z_iast) := rfl
theorem c150_57 : (zT 150)[31]? = some (57, z_al 0 1) := rfl
theorem c150_58 : (zT 150)[32]? = some (58, z_gR 12 26) := rfl
theorem c150_61 : (zT 150)[33]? = some (61, z_il 5 2) := rfl
theorem c150_63 : (zT 150)[34]? = some (63, z_il 2 1) := rfl
theorem c150_64 : (zT 150)[35]? = some (64, z_iast) := rfl
theorem c150_65 : (zT 150)[36]? = some (65, z_al 0 1) := rfl
theorem c150_66 : (zT 150)[37]? = some (66, z_gR 12 27) := rfl
theorem c150_69 : (zT 150)[38]? = some (69, z_il 5 2) := rfl
theorem c150_71 : (zT 150)[39]? = some (71, z_il 3 1) := rfl
theorem c150_72 : (zT 150)[40]? = some (72, z_iast) := rfl
theorem c150_73 : (zT 150)[41]? = some (73, z_al 0 1) := rfl
theorem c150_74 : (zT 150)[42]? = some (74, z_gR 12 28) := rfl
theorem c150_77 : (zT 150)[43]? = some (77, z_il 5 2) := rfl
theorem c150_79 : (zT 150)[44]? = some (79, z_il 4 2) := rfl
theorem c150_81 : (zT 150)[45]? = some (81, z_iast) := rfl
theorem c150_82 : (zT 150)[46]? = some (82, z_al 0 1) := rfl
theorem c150_83 : (zT 150)[47]? = some (83, z_gR 12 24) := rfl
theorem c150_86 : (zT 150)[48]? = some (86, z_ic 0 1) := rfl
theorem c150_87 : (zT 150)[49]? = some (87, z_dup2) := rfl
theorem c150_88 : (zT 150)[50]? = some (88, z_iald 20) := rfl
theorem c150_89 : (zT 150)[51]? = some (89, z_ic 1 1) := rfl
theorem c150_90 : (zT 150)[52]? = some (90, z_iadd) := rfl
theorem c150_91 : (zT 150)[53]? = some (91, z_iast) := rfl
theorem c150_92 : (zT 150)[54]? = some (92, z_al 0 1) := rfl
theorem c150_93 : (zT 150)[55]? = some (93, z_gR 12 24) := rfl
theorem c150_96 : (zT 150)[56]? = some (96, z_ic 0 1) := rfl
theorem c150_97 : (zT 150)[57]? = some (97, z_iald 20) := rfl
theorem c150_98 : (zT 150)[58]? = some (98, z_ir) := rfl
theorem c151_0 : (zT 151)[0]? = some (0, z_al 0 1) := rfl
theorem c151_1 : (zT 151)[1]? = some (1, z_gR 12 24) := rfl
theorem c151_4 : (zT 151)[2]? = some (4, z_ic 0 1) := rfl
theorem c151_5 : (zT 151)[3]? = some (5, z_iald 20) := rfl
theorem c151_6 : (zT 151)[4]? = some (6, z_is 1 1) := rfl
theorem c151_7 : (zT 151)[5]? = some (7, z_al 0 1) := rfl
theorem c151_8 : (zT 151)[6]? = some (8, z_gR 12 24) := rfl
theorem c151_11 : (zT 151)[7]? = some (11, z_ic 0 1) := rfl
theorem c151_12 : (zT 151)[8]? = some (12, z_ic 0 1) := rfl
theorem c151_13 : (zT 151)[9]? = some (13, z_iast) := rfl
theorem c151_14 : (zT 151)[10]? = some (14, z_il 1 1) := rfl
theorem c151_15 : (zT 151)[11]? = some (15, z_ir) := rfl
theorem c152_0 : (zT 152)[0]? = some (0, z_il 1 1) := rfl
theorem c152_1 : (zT 152)[1]? = some (1, z_i2l) := rfl
theorem c152_2 : (zT 152)[2]? = some (2, z_lc 0 1) := rfl
theorem c152_3 : (zT 152)[3]? = some (3, z_lc 1 1) := rfl
theorem c152_4 : (zT 152)[4]? = some (4, z_cS 105 6 3) := rfl
theorem c152_7 : (zT 152)[5]? = some (7, z_ifne 14) := rfl
theorem c152_10 : (zT 152)[6]? = some (10, z_lc (-1) 3) := rfl
theorem c152_13 : (zT 152)[7]? = some (13, z_lr) := rfl
theorem c152_14 : (zT 152)[8]? = some (14, z_al 0 1) := rfl
theorem c152_15 : (zT 152)[9]? = some (15, z_cV 12 148 2 0) := rfl
theorem c152_18 : (zT 152)[10]? = some (18, z_il 1 1) := rfl
theorem c152_19 : (zT 152)[11]? = some (19, z_ifne 30) := rfl
theorem c152_22 : (zT 152)[12]? = some (22, z_al 0 1) := rfl
theorem c152_23 : (zT 152)[13]? = some (23, z_gI 12 32) := rfl
theorem c152_26 : (zT 152)[14]? = some (26, z_i2l) := rfl
theorem c152_27 : (zT 152)[15]? = some (27, z_goto 34) := rfl
theorem c152_30 : (zT 152)[16]? = some (30, z_al 0 1) := rfl
theorem c152_31 : (zT 152)[17]? = some (31, z_cV 12 149 4 0) := rfl
theorem c152_34 : (zT 152)[18]? = some (34, z_lr) := rfl
theorem c153_0 : (zT 153)[0]? = some (0, z_ll 0 1) := rfl
theorem c153_1 : (zT 153)[1]? = some (1, z_ls 4 2) := rfl
theorem c153_3 : (zT 153)[2]? = some (3, z_ll 2 1) := rfl
theorem c153_4 : (zT 153)[3]? = some (4, z_ls 6 2) := rfl
theorem c153_6 : (zT 153)[4]? = some (6, z_ll 6 2) := rfl
theorem c153_8 : (zT 153)[5]? = some (8, z_lc 0 1) := rfl
theorem c153_9 : (zT 153)[6]? = some (9, z_lcmp) := rfl
theorem c153_10 : (zT 153)[7]? = some (10, z_ifeq 31) := rfl
theorem c153_13 : (zT 153)[8]? = some (13, z_ll 4 2) := rfl
theorem c153_15 : (zT 153)[9]? = some (15, z_ll 6 2) := rfl
theorem c153_17 : (zT 153)[10]? = some (17, z_lrem) := rfl
theorem c153_18 : (zT 153)[11]? = some (18, z_ls 8 2) := rfl
theorem c153_20 : (zT 153)[12]? = some (20, z_ll 6 2) := rfl
theorem c153_22 : (zT 153)[13]? = some (22, z_ls 4 2) := rfl
theorem c153_24 : (zT 153)[14]? = some (24, z_ll 8 2) := rfl
theorem c153_26 : (zT 153)[15]? = some (26, z_ls 6 2) := rfl
theorem c153_28 : (zT 153)[16]? = some (28, z_goto 6) := rfl
theorem c153_31 : (zT 153)[17]? = some (31, z_ll 4 2) := rfl
theorem c153_33 : (zT 153)[18]? = some (33, z_lr) := rfl
theorem c154_0 : (zT 154)[0]? = some (0, z_al 0 1) := rfl
theorem c154_1 : (zT 154)[1]? = some (1, z_il 1 1) := rfl
theorem c154_2 : (zT 154)[2]? = some (2, z_cV 12 126 2 1) := rfl
theorem c154_5 : (zT 154)[3]? = some (5, z_ifeq 18) := rfl
theorem c154_8 : (zT 154)[4]? = some (8, z_il 2 1) := rfl
theorem c154_9 : (zT 154)[5]? = some (9, z_i2l) := rfl
theorem c154_10 : (zT 154)[6]? = some (10, z_lc 0 1) := rfl
theorem c154_11 : (zT 154)[7]? = some (11, z_lc 1 1) := rfl
theorem c154_12 : (zT 154)[8]? = some (12, z_cS 105 6 3) := rfl
theorem c154_15 : (zT 154)[9]? = some (15, z_ifne 22) := rfl
theorem c154_18 : (zT 154)[10]? = some (18, z_lc (-1) 3) := rfl
theorem c154_21 : (zT 154)[11]? = some (21, z_lr) := rfl
theorem c154_22 : (zT 154)[12]? = some (22, z_al 0 1) := rfl
theorem c154_23 : (zT 154)[13]? = some (23, z_cV 12 148 2 0) := rfl
theorem c154_26 : (zT 154)[14]? = some (26, z_al 0 1) := rfl
theorem c154_27 : (zT 154)[15]? = some (27, z_gI 12 32) := rfl
theorem c154_30 : (zT 154)[16]? = some (30, z_ifne 37) := rfl
theorem c154_33 : (zT 154)[17]? = some (33, z_lc (-4) 3) := rfl
theorem c154_36 : (zT 154)[18]? = some (36, z_lr) := rfl
theorem c154_37 : (zT 154)[19]? = some (37, z_lc 0 1) := rfl
theorem c154_38 : (zT 154)[20]? = some (38, z_ls 3 1) := rfl
theorem c154_39 : (zT 154)[21]? = some (39, z_ic 0 1) := rfl
theorem c154_40 : (zT 154)[22]? = some (40, z_is 5 2) := rfl
theorem c154_42 : (zT 154)[23]? = some (42, z_il 5 2) := rfl
theorem c154_44 : (zT 154)[24]? = some (44, z_al 0 1) := rfl
theorem c154_45 : (zT 154)[25]? = some (45, z_gI 12 32) := rfl
theorem c154_48 : (zT 154)[26]? = some (48, z_ige 85) := rfl
theorem c154_51 : (zT 154)[27]? = some (51, z_ll 3 1) := rfl
theorem c154_52 : (zT 154)[28]? = some (52, z_al 0 1) := rfl
theorem c154_53 : (zT 154)[29]? = some (53, z_gR 12 33) := rfl
theorem c154_56 : (zT 154)[30]? = some (56, z_il 5 2) := rfl
theorem c154_58 : (zT 154)[31]? = some (58, z_iald 20) := rfl
theorem c154_59 : (zT 154)[32]? = some (59, z_il 1 1) := rfl
theorem c154_60 : (zT 154)[33]? = some (60, z_cS 106 2 2) := rfl
theorem c154_63 : (zT 154)[34]? = some (63, z_ifeq 76) := rfl
theorem c154_66 : (zT 154)[35]? = some (66, z_al 0 1) := rfl
theorem c154_67 : (zT 154)[36]? = some (67, z_gR 12 34) := rfl
theorem c154_70 : (zT 154)[37]? = some (70, z_il 5 2) := rfl
theorem c154_72 : (zT 154)[38]? = some (72, z_lald) := rfl
theorem c154_73 : (zT 154)[39]? = some (73, z_goto 77) := rfl
theorem c154_76 : (zT 154)[40]? = some (76, z_lc 0 1) := rfl
theorem c154_77 : (zT 154)[41]? = some (77, z_ladd) := rfl
theorem c154_78 : (zT 154)[42]? = some (78, z_ls 3 1) := rfl
theorem c154_79 : (zT 154)[43]? = some (79, z_inc 5 1) := rfl
theorem c154_82 : (zT 154)[44]? = some (82, z_goto 42) := rfl
theorem c154_85 : (zT 154)[45]? = some (85, z_ll 3 1) := rfl
theorem c154_86 : (zT 154)[46]? = some (86, z_al 0 1) := rfl
theorem c154_87 : (zT 154)[47]? = some (87, z_cV 12 149 4 0) := rfl
theorem c154_90 : (zT 154)[48]? = some (90, z_cS 153 10 2) := rfl
theorem c154_93 : (zT 154)[49]? = some (93, z_ls 5 2) := rfl
theorem c154_95 : (zT 154)[50]? = some (95, z_il 2 1) := rfl
theorem c154_96 : (zT 154)[51]? = some (96, z_ifne 106) := rfl
theorem c154_99 : (zT 154)[52]? = some (99, z_ll 3 1) := rfl
theorem c154_100 : (zT 154)[53]? = some (100, z_ll 5 2) := rfl
theorem c154_102 : (zT 154)[54]? = some (102, z_ldiv) := rfl
theorem c154_103 : (zT 154)[55]? = some (103, z_goto 113) := rfl
theorem c154_106 : (zT 154)[56]? = some (106, z_al 0 1) := rfl
theorem c154_107 : (zT 154)[57]? = some (107, z_cV 12 149 4 0) := rfl
theorem c154_110 : (zT 154)[58]? = some (110, z_ll 5 2) := rfl
theorem c154_112 : (zT 154)[59]? = some (112, z_ldiv) := rfl
theorem c154_113 : (zT 154)[60]? = some (113, z_lr) := rfl
theorem c155_0 : (zT 155)[0]? = some (0, z_al 0 1) := rfl
theorem c155_1 : (zT 155)[1]? = some (1, z_cV 12 148 2 0) := rfl
theorem c155_4 : (zT 155)[2]? = some (4, z_ic (-4) 2) := rfl
theorem c155_6 : (zT 155)[3]? = some (6, z_is 1 1) := rfl
theorem c155_7 : (zT 155)[4]? = some (7, z_ic 0 1) := rfl
theorem c155_8 : (zT 155)[5]? = some (8, z_is 2 1) := rfl
theorem c155_9 : (zT 155)[6]? = some (9, z_il 2 1) := rfl
theorem c155_10 : (zT 155)[7]? = some (10, z_al 0 1) := rfl
theorem c155_11 : (zT 155)[8]? = some (11, z_gI 12 32) := rfl
theorem c155_14 : (zT 155)[9]? = some (14, z_ige 49) := rfl
theorem c155_17 : (zT 155)[10]? = some (17, z_il 1 1) := rfl
theorem c155_18 : (zT 155)[11]? = some (18, z_iflt 37) := rfl
theorem c155_21 : (zT 155)[12]? = some (21, z_al 0 1) := rfl
theorem c155_22 : (zT 155)[13]? = some (22, z_gR 12 34) := rfl
theorem c155_25 : (zT 155)[14]? = some (25, z_il 2 1) := rfl
theorem c155_26 : (zT 155)[15]? = some (26, z_lald) := rfl
theorem c155_27 : (zT 155)[16]? = some (27, z_al 0 1) := rfl
theorem c155_28 : (zT 155)[17]? = some (28, z_gR 12 34) := rfl
theorem c155_31 : (zT 155)[18]? = some (31, z_il 1 1) := rfl
theorem c155_32 : (zT 155)[19]? = some (32, z_lald) := rfl
theorem c155_33 : (zT 155)[20]? = some (33, z_lcmp) := rfl
theorem c155_34 : (zT 155)[21]? = some (34, z_ifle 41) := rfl
theorem c155_37 : (zT 155)[22]? = some (37, z_il 2 1) := rfl
theorem c155_38 : (zT 155)[23]? = some (38, z_goto 42) := rfl
theorem c155_41 : (zT 155)[24]? = some (41, z_il 1 1) := rfl
theorem c155_42 : (zT 155)[25]? = some (42, z_is 1 1) := rfl
theorem c155_43 : (zT 155)[26]? = some (43, z_inc 2 1) := rfl
theorem c155_46 : (zT 155)[27]? = some (46, z_goto 9) := rfl
theorem c155_49 : (zT 155)[28]? = some (49, z_il 1 1) := rfl
theorem c155_50 : (zT 155)[29]? = some (50, z_ifge 58) := rfl
theorem c155_53 : (zT 155)[30]? = some (53, z_ic (-4) 2) := rfl
theorem c155_55 : (zT 155)[31]? = some (55, z_goto 64) := rfl
theorem c155_58 : (zT 155)[32]? = some (58, z_al 0 1) := rfl
theorem c155_59 : (zT 155)[33]? = some (59, z_gR 12 33) := rfl
theorem c155_62 : (zT 155)[34]? = some (62, z_il 1 1) := rfl
theorem c155_63 : (zT 155)[35]? = some (63, z_iald 20) := rfl
theorem c155_64 : (zT 155)[36]? = some (64, z_ir) := rfl
theorem c156_0 : (zT 156)[0]? = some (0, z_ic 0 1) := rfl
theorem c156_1 : (zT 156)[1]? = some (1, z_is 4 2) := rfl
theorem c156_3 : (zT 156)[2]? = some (3, z_il 4 2) := rfl
theorem c156_5 : (zT 156)[3]? = some (5, z_ic 10 2) := rfl
theorem c156_7 : (zT 156)[4]? = some (7, z_ige 24) := rfl
theorem c156_10 : (zT 156)[5]? = some (10, z_al 0 1) := rfl
theorem c156_11 : (zT 156)[6]? = some (11, z_gR 12 35) := rfl
theorem c156_14 : (zT 156)[7]? = some (14, z_il 4 2) := rfl
theorem c156_16 : (zT 156)[8]? = some (16, z_lc 0 1) := rfl
theorem c156_17 : (zT 156)[9]? = some (17, z_last) := rfl
theorem c156_18 : (zT 156)[10]? = some (18, z_inc 4 1) := rfl
theorem c156_21 : (zT 156)[11]? = some (21, z_goto 3) := rfl
theorem c156_24 : (zT 156)[12]? = some (24, z_ic 0 1) := rfl
theorem c156_25 : (zT 156)[13]? = some (25, z_is 4 2) := rfl
theorem c156_27 : (zT 156)[14]? = some (27, z_il 4 2) := rfl
theorem c156_29 : (zT 156)[15]? = some (29, z_al 0 1) := rfl
theorem c156_30 : (zT 156)[16]? = some (30, z_gI 12 32) := rfl
theorem c156_33 : (zT 156)[17]? = some (33, z_ige 71) := rfl
theorem c156_36 : (zT 156)[18]? = some (36, z_al 0 1) := rfl
theorem c156_37 : (zT 156)[19]? = some (37, z_gR 12 35) := rfl
theorem c156_40 : (zT 156)[20]? = some (40, z_al 0 1) := rfl
theorem c156_41 : (zT 156)[21]? = some (41, z_al 0 1) := rfl
theorem c156_42 : (zT 156)[22]? = some (42, z_gR 12 33) := rfl
theorem c156_45 : (zT 156)[23]? = some (45, z_il 4 2) := rfl
theorem c156_47 : (zT 156)[24]? = some (47, z_iald 20) := rfl
theorem c156_48 : (zT 156)[25]? = some (48, z_il 1 1) := rfl
theorem c156_49 : (zT 156)[26]? = some (49, z_il 2 1) := rfl
theorem c156_50 : (zT 156)[27]? = some (50, z_il 3 1) := rfl
theorem c156_51 : (zT 156)[28]? = some (51, z_cV 12 138 7 4) := rfl
theorem c156_54 : (zT 156)[29]? = some (54, z_dup2) := rfl
theorem c156_55 : (zT 156)[30]? = some (55, z_lald) := rfl
theorem c156_56 : (zT 156)[31]? = some (56, z_al 0 1) := rfl
theorem c156_57 : (zT 156)[32]? = some (57, z_gR 12 34) := rfl
theorem c156_60 : (zT 156)[33]? = some (60, z_il 4 2) := rfl
theorem c156_62 : (zT 156)[34]? = some (62, z_lald) := rfl
theorem c156_63 : (zT 156)[35]? = some (63, z_ladd) := rfl
theorem c156_64 : (zT 156)[36]? = some (64, z_last) := rfl
theorem c156_65 : (zT 156)[37]? = some (65, z_inc 4 1) := rfl
theorem c156_68 : (zT 156)[38]? = some (68, z_goto 27) := rfl
theorem c156_71 : (zT 156)[39]? = some (71, z_lc 0 1) := rfl
theorem c156_72 : (zT 156)[40]? = some (72, z_ls 4 2) := rfl
theorem c156_74 : (zT 156)[41]? = some (74, z_ic 0 1) := rfl
theorem c156_75 : (zT 156)[42]? = some (75, z_is 6 2) := rfl
theorem c156_77 : (zT 156)[43]? = some (77, z_il 6 2) := rfl
theorem c156_79 : (zT 156)[44]? = some (79, z_ic 10 2) := rfl
theorem c156_81 : (zT 156)[45]? = some (81, z_ige 117) := rfl
theorem c156_84 : (zT 156)[46]? = some (84, z_al 0 1) := rfl
theorem c156_85 : (zT 156)[47]? = some (85, z_gR 12 35) := rfl
theorem c156_88 : (zT 156)[48]? = some (88, z_il 6 2) := rfl
theorem c156_90 : (zT 156)[49]? = some (90, z_lald) := rfl
theorem c156_91 : (zT 156)[50]? = some (91, z_ll 4 2) := rfl
theorem c156_93 : (zT 156)[51]? = some (93, z_lcmp) := rfl
theorem c156_94 : (zT 156)[52]? = some (94, z_ifle 107) := rfl
theorem c156_97 : (zT 156)[53]? = some (97, z_al 0 1) := rfl
theorem c156_98 : (zT 156)[54]? = some (98, z_gR 12 35) := rfl
theorem c156_101 : (zT 156)[55]? = some (101, z_il 6 2) := rfl
theorem c156_103 : (zT 156)[56]? = some (103, z_lald) := rfl
theorem c156_104 : (zT 156)[57]? = some (104, z_goto 109) := rfl
theorem c156_107 : (zT 156)[58]? = some (107, z_ll 4 2) := rfl
theorem c156_109 : (zT 156)[59]? = some (109, z_ls 4 2) := rfl
theorem c156_111 : (zT 156)[60]? = some (111, z_inc 6 1) := rfl
theorem c156_114 : (zT 156)[61]? = some (114, z_goto 77) := rfl
theorem c156_117 : (zT 156)[62]? = some (117, z_ll 4 2) := rfl
theorem c156_119 : (zT 156)[63]? = some (119, z_lr) := rfl
theorem c157_0 : (zT 157)[0]? = some (0, z_il 0 1) := rfl
theorem c157_1 : (zT 157)[1]? = some (1, z_ifne 8) := rfl
theorem c157_4 : (zT 157)[2]? = some (4, z_ic 1 1) := rfl
theorem c157_5 : (zT 157)[3]? = some (5, z_goto 36) := rfl
theorem c157_8 : (zT 157)[4]? = some (8, z_il 0 1) := rfl
theorem c157_9 : (zT 157)[5]? = some (9, z_ic 1 1) := rfl
theorem c157_10 : (zT 157)[6]? = some (10, z_ine 17) := rfl
theorem c157_13 : (zT 157)[7]? = some (13, z_ic 3 1) := rfl
theorem c157_14 : (zT 157)[8]? = some (14, z_goto 36) := rfl
theorem c157_17 : (zT 157)[9]? = some (17, z_il 0 1) := rfl
theorem c157_18 : (zT 157)[10]? = some (18, z_ic 2 1) := rfl
theorem c157_19 : (zT 157)[11]? = some (19, z_ine 26) := rfl
theorem c157_22 : (zT 157)[12]? = some (22, z_ic 2 1) := rfl
theorem c157_23 : (zT 157)[13]? = some (23, z_goto 36) := rfl
theorem c157_26 : (zT 157)[14]? = some (26, z_il 0 1) := rfl
theorem c157_27 : (zT 157)[15]? = some (27, z_ic 3 1) := rfl
theorem c157_28 : (zT 157)[16]? = some (28, z_ine 35) := rfl
theorem c157_31 : (zT 157)[17]? = some (31, z_ic 4 1) := rfl
theorem c157_32 : (zT 157)[18]? = some (32, z_goto 36) := rfl
theorem c157_35 : (zT 157)[19]? = some (35, z_ic 5 1) := rfl
theorem c157_36 : (zT 157)[20]? = some (36, z_ir) := rfl
theorem c158_0 : (zT 158)[0]? = some (0, z_il 1 1) := rfl
theorem c158_1 : (zT 158)[1]? = some (1, z_cS 128 1 1) := rfl
theorem c158_4 : (zT 158)[2]? = some (4, z_ifeq 19) := rfl
theorem c158_7 : (zT 158)[3]? = some (7, z_il 2 1) := rfl
theorem c158_8 : (zT 158)[4]? = some (8, z_i2l) := rfl
theorem c158_9 : (zT 158)[5]? = some (9, z_lc 0 1) := rfl
theorem c158_10 : (zT 158)[6]? = some (10, z_lc 2 3) := rfl
theorem c158_13 : (zT 158)[7]? = some (13, z_cS 105 6 3) := rfl
theorem c158_16 : (zT 158)[8]? = some (16, z_ifne 23) := rfl
theorem c158_19 : (zT 158)[9]? = some (19, z_lc (-1) 3) := rfl
theorem c158_22 : (zT 158)[10]? = some (22, z_lr) := rfl
theorem c158_23 : (zT 158)[11]? = some (23, z_al 0 1) := rfl
theorem c158_24 : (zT 158)[12]? = some (24, z_cV 12 148 2 0) := rfl
theorem c158_27 : (zT 158)[13]? = some (27, z_al 0 1) := rfl
theorem c158_28 : (zT 158)[14]? = some (28, z_gI 12 32) := rfl
theorem c158_31 : (zT 158)[15]? = some (31, z_ifne 38) := rfl
theorem c158_34 : (zT 158)[16]? = some (34, z_lc (-4) 3) := rfl
theorem c158_37 : (zT 158)[17]? = some (37, z_lr) := rfl
theorem c158_38 : (zT 158)[18]? = some (38, z_ic (-4) 2) := rfl
theorem c158_40 : (zT 158)[19]? = some (40, z_is 3 1) := rfl
theorem c158_41 : (zT 158)[20]? = some (41, z_lc 0 1) := rfl
theorem c158_42 : (zT 158)[21]? = some (42, z_ls 4 2) := rfl
theorem c158_44 : (zT 158)[22]? = some (44, z_ic 0 1) := rfl
theorem c158_45 : (zT 158)[23]? = some (45, z_is 6 2) := rfl
theorem c158_47 : (zT 158)[24]? = some (47, z_ic 0 1) := rfl
theorem c158_48 : (zT 158)[25]? = some (48, z_is 7 2) := rfl
theorem c158_50 : (zT 158)[26]? = some (50, z_il 7 2) := rfl
theorem c158_52 : (zT 158)[27]? = some (52, z_ic 5 1) := rfl
theorem c158_53 : (zT 158)[28]? = some (53, z_ige 163) := rfl
theorem c158_56 : (zT 158)[29]? = some (56, z_ic 0 1) := rfl
theorem c158_57 : (zT 158)[30]? = some (57, z_is 8 2) := rfl
theorem c158_59 : (zT 158)[31]? = some (59, z_il 8 2) := rfl
theorem c158_61 : (zT 158)[32]? = some (61, z_ic 8 2) := rfl
theorem c158_63 : (zT 158)[33]? = some (63, z_ige 157) := rfl
theorem c158_66 : (zT 158)[34]? = some (66, z_al 0 1) := rfl
theorem c158_67 : (zT 158)[35]? = some (67, z_il 7 2) := rfl
theorem c158_69 : (zT 158)[36]? = some (69, z_il 8 2) := rfl
theorem c158_71 : (zT 158)[37]? = some (71, z_cV 12 137 3 2) := rfl
theorem c158_74 : (zT 158)[38]? = some (74, z_ifeq 151) := rfl
theorem c158_77 : (zT 158)[39]? = some (77, z_al 0 1) := rfl
theorem c158_78 : (zT 158)[40]? = some (78, z_il 7 2) := rfl
theorem c158_80 : (zT 158)[41]? = some (80, z_il 8 2) := rfl
theorem c158_82 : (zT 158)[42]? = some (82, z_il 1 1) := rfl
theorem c158_83 : (zT 158)[43]? = some (83, z_cV 12 156 7 3) := rfl
theorem c158_86 : (zT 158)[44]? = some (86, z_ls 9 2) := rfl
theorem c158_88 : (zT 158)[45]? = some (88, z_ic 10 2) := rfl
theorem c158_90 : (zT 158)[46]? = some (90, z_al 0 1) := rfl
theorem c158_91 : (zT 158)[47]? = some (91, z_il 7 2) := rfl
theorem c158_93 : (zT 158)[48]? = some (93, z_il 8 2) := rfl
theorem c158_95 : (zT 158)[49]? = some (95, z_cV 12 140 5 2) := rfl
theorem c158_98 : (zT 158)[50]? = some (98, z_imul) := rfl
theorem c158_99 : (zT 158)[51]? = some (99, z_il 7 2) := rfl
theorem c158_101 : (zT 158)[52]? = some (101, z_cS 157 1 1) := rfl
theorem c158_104 : (zT 158)[53]? = some (104, z_iadd) := rfl
theorem c158_105 : (zT 158)[54]? = some (105, z_is 11 2) := rfl
theorem c158_107 : (zT 158)[55]? = some (107, z_il 3 1) := rfl
theorem c158_108 : (zT 158)[56]? = some (108, z_iflt 134) := rfl
theorem c158_111 : (zT 158)[57]? = some (111, z_ll 9 2) := rfl
theorem c158_113 : (zT 158)[58]? = some (113, z_ll 4 2) := rfl
theorem c158_115 : (zT 158)[59]? = some (115, z_lcmp) := rfl
theorem c158_116 : (zT 158)[60]? = some (116, z_iflt 134) := rfl
theorem c158_119 : (zT 158)[61]? = some (119, z_ll 9 2) := rfl
theorem c158_121 : (zT 158)[62]? = some (121, z_ll 4 2) := rfl
theorem c158_123 : (zT 158)[63]? = some (123, z_lcmp) := rfl
theorem c158_124 : (zT 158)[64]? = some (124, z_ifne 151) := rfl
theorem c158_127 : (zT 158)[65]? = some (127, z_il 11 2) := rfl
theorem c158_129 : (zT 158)[66]? = some (129, z_il 6 2) := rfl
theorem c158_131 : (zT 158)[67]? = some (131, z_ige 151) := rfl
theorem c158_134 : (zT 158)[68]? = some (134, z_ic 8 2) := rfl
theorem c158_136 : (zT 158)[69]? = some (136, z_il 7 2) := rfl
theorem c158_138 : (zT 158)[70]? = some (138, z_imul) := rfl
theorem c158_139 : (zT 158)[71]? = some (139, z_il 8 2) := rfl
theorem c158_141 : (zT 158)[72]? = some (141, z_iadd) := rfl
theorem c158_142 : (zT 158)[73]? = some (142, z_is 3 1) := rfl
theorem c158_143 : (zT 158)[74]? = some (143, z_ll 9 2) := rfl
theorem c158_145 : (zT 158)[75]? = some (145, z_ls 4 2) := rfl
theorem c158_147 : (zT 158)[76]? = some (147, z_il 11 2) := rfl
theorem c158_149 : (zT 158)[77]? = some (149, z_is 6 2) := rfl
theorem c158_151 : (zT 158)[78]? = some (151, z_inc 8 1) := rfl
theorem c158_154 : (zT 158)[79]? = some (154, z_goto 59) := rfl
theorem c158_157 : (zT 158)[80]? = some (157, z_inc 7 1) := rfl
theorem c158_160 : (zT 158)[81]? = some (160, z_goto 50) := rfl
theorem c158_163 : (zT 158)[82]? = some (163, z_il 2 1) := rfl
theorem c158_164 : (zT 158)[83]? = some (164, z_ifne 175) := rfl
theorem c158_167 : (zT 158)[84]? = some (167, z_il 3 1) := rfl
theorem c158_168 : (zT 158)[85]? = some (168, z_ic 8 2) := rfl
theorem c158_170 : (zT 158)[86]? = some (170, z_idiv) := rfl
theorem c158_171 : (zT 158)[87]? = some (171, z_i2l) := rfl
theorem c158_172 : (zT 158)[88]? = some (172, z_goto 190) := rfl
theorem c158_175 : (zT 158)[89]? = some (175, z_il 2 1) := rfl
theorem c158_176 : (zT 158)[90]? = some (176, z_ic 1 1) := rfl
theorem c158_177 : (zT 158)[91]? = some (177, z_ine 188) := rfl
theorem c158_180 : (zT 158)[92]? = some (180, z_il 3 1) := rfl
theorem c158_181 : (zT 158)[93]? = some (181, z_ic 8 2) := rfl
theorem c158_183 : (zT 158)[94]? = some (183, z_irem) := rfl
theorem c158_184 : (zT 158)[95]? = some (184, z_i2l) := rfl
theorem c158_185 : (zT 158)[96]? = some (185, z_goto 190) := rfl
theorem c158_188 : (zT 158)[97]? = some (188, z_ll 4 2) := rfl
theorem c158_190 : (zT 158)[98]? = some (190, z_lr) := rfl
theorem c159_0 : (zT 159)[0]? = some (0, z_al 0 1) := rfl
theorem c159_1 : (zT 159)[1]? = some (1, z_il 1 1) := rfl
theorem c159_2 : (zT 159)[2]? = some (2, z_ic 30 2) := rfl
theorem c159_4 : (zT 159)[3]? = some (4, z_ic (-4) 2) := rfl
theorem c159_6 : (zT 159)[4]? = some (6, z_ic (-4) 2) := rfl
theorem c159_8 : (zT 159)[5]? = some (8, z_cV 12 132 7 4) := rfl
theorem c159_11 : (zT 159)[6]? = some (11, z_ifne 18) := rfl
theorem c159_14 : (zT 159)[7]? = some (14, z_ic 1 1) := rfl
theorem c159_15 : (zT 159)[8]? = some (15, z_goto 19) := rfl
theorem c159_18 : (zT 159)[9]? = some (18, z_ic 0 1) := rfl
theorem c159_19 : (zT 159)[10]? = some (19, z_zr) := rfl
theorem c160_0 : (zT 160)[0]? = some (0, z_ic 0 1) := rfl
theorem c160_1 : (zT 160)[1]? = some (1, z_is 2 1) := rfl
theorem c160_2 : (zT 160)[2]? = some (2, z_ic 0 1) := rfl
theorem c160_3 : (zT 160)[3]? = some (3, z_is 3 1) := rfl
theorem c160_4 : (zT 160)[4]? = some (4, z_il 3 1) := rfl
theorem c160_5 : (zT 160)[5]? = some (5, z_al 0 1) := rfl
theorem c160_6 : (zT 160)[6]? = some (6, z_gR 12 5) := rfl
theorem c160_9 : (zT 160)[7]? = some (9, z_ic 0 1) := rfl
theorem c160_10 : (zT 160)[8]? = some (10, z_iald 20) := rfl
theorem c160_11 : (zT 160)[9]? = some (11, z_ige 41) := rfl
theorem c160_14 : (zT 160)[10]? = some (14, z_il 2 1) := rfl
theorem c160_15 : (zT 160)[11]? = some (15, z_il 1 1) := rfl
theorem c160_16 : (zT 160)[12]? = some (16, z_il 3 1) := rfl
theorem c160_17 : (zT 160)[13]? = some (17, z_cS 106 2 2) := rfl
theorem c160_20 : (zT 160)[14]? = some (20, z_ifeq 32) := rfl
theorem c160_23 : (zT 160)[15]? = some (23, z_al 0 1) := rfl
theorem c160_24 : (zT 160)[16]? = some (24, z_gR 12 11) := rfl
theorem c160_27 : (zT 160)[17]? = some (27, z_il 3 1) := rfl
theorem c160_28 : (zT 160)[18]? = some (28, z_iald 20) := rfl
theorem c160_29 : (zT 160)[19]? = some (29, z_goto 33) := rfl
theorem c160_32 : (zT 160)[20]? = some (32, z_ic 0 1) := rfl
theorem c160_33 : (zT 160)[21]? = some (33, z_iadd) := rfl
theorem c160_34 : (zT 160)[22]? = some (34, z_is 2 1) := rfl
theorem c160_35 : (zT 160)[23]? = some (35, z_inc 3 1) := rfl
theorem c160_38 : (zT 160)[24]? = some (38, z_goto 4) := rfl
theorem c160_41 : (zT 160)[25]? = some (41, z_il 2 1) := rfl
theorem c160_42 : (zT 160)[26]? = some (42, z_ir) := rfl
theorem c161_0 : (zT 161)[0]? = some (0, z_il 1 1) := rfl
theorem c161_1 : (zT 161)[1]? = some (1, z_i2l) := rfl
theorem c161_2 : (zT 161)[2]? = some (2, z_lc 0 1) := rfl
theorem c161_3 : (zT 161)[3]? = some (3, z_lc 100 3) := rfl
theorem c161_6 : (zT 161)[4]? = some (6, z_cS 105 6 3) := rfl
theorem c161_9 : (zT 161)[5]? = some (9, z_ifeq 22) := rfl
theorem c161_12 : (zT 161)[6]? = some (12, z_il 2 1) := rfl
theorem c161_13 : (zT 161)[7]? = some (13, z_i2l) := rfl
theorem c161_14 : (zT 161)[8]? = some (14, z_lc 0 1) := rfl
theorem c161_15 : (zT 161)[9]? = some (15, z_lc 1 1) := rfl
theorem c161_16 : (zT 161)[10]? = some (16, z_cS 105 6 3) := rfl
theorem c161_19 : (zT 161)[11]? = some (19, z_ifne 24) := rfl
theorem c161_22 : (zT 161)[12]? = some (22, z_ic (-1) 1) := rfl
theorem c161_23 : (zT 161)[13]? = some (23, z_ir) := rfl
theorem c161_24 : (zT 161)[14]? = some (24, z_al 0 1) := rfl
theorem c161_25 : (zT 161)[15]? = some (25, z_cV 12 148 2 0) := rfl
theorem c161_28 : (zT 161)[16]? = some (28, z_al 0 1) := rfl
theorem c161_29 : (zT 161)[17]? = some (29, z_gI 12 32) := rfl
theorem c161_32 : (zT 161)[18]? = some (32, z_ifne 38) := rfl
theorem c161_35 : (zT 161)[19]? = some (35, z_ic (-4) 2) := rfl
theorem c161_37 : (zT 161)[20]? = some (37, z_ir) := rfl
theorem c161_38 : (zT 161)[21]? = some (38, z_ic (-4) 2) := rfl
theorem c161_40 : (zT 161)[22]? = some (40, z_is 3 1) := rfl
theorem c161_41 : (zT 161)[23]? = some (41, z_ic 0 1) := rfl
theorem c161_42 : (zT 161)[24]? = some (42, z_is 4 2) := rfl
theorem c161_44 : (zT 161)[25]? = some (44, z_il 4 2) := rfl
theorem c161_46 : (zT 161)[26]? = some (46, z_ic 1 1) := rfl
theorem c161_47 : (zT 161)[27]? = some (47, z_al 0 1) := rfl
theorem c161_48 : (zT 161)[28]? = some (48, z_gR 12 5) := rfl
theorem c161_51 : (zT 161)[29]? = some (51, z_ic 0 1) := rfl
theorem c161_52 : (zT 161)[30]? = some (52, z_iald 20) := rfl
theorem c161_53 : (zT 161)[31]? = some (53, z_ishl) := rfl
theorem c161_54 : (zT 161)[32]? = some (54, z_ige 173) := rfl
theorem c161_57 : (zT 161)[33]? = some (57, z_lc 0 1) := rfl
theorem c161_58 : (zT 161)[34]? = some (58, z_ls 5 2) := rfl
theorem c161_60 : (zT 161)[35]? = some (60, z_ic 0 1) := rfl
theorem c161_61 : (zT 161)[36]? = some (61, z_is 7 2) := rfl
theorem c161_63 : (zT 161)[37]? = some (63, z_il 7 2) := rfl
theorem c161_65 : (zT 161)[38]? = some (65, z_al 0 1) := rfl
theorem c161_66 : (zT 161)[39]? = some (66, z_gI 12 32) := rfl
theorem c161_69 : (zT 161)[40]? = some (69, z_ige 113) := rfl
theorem c161_72 : (zT 161)[41]? = some (72, z_ll 5 2) := rfl
theorem c161_74 : (zT 161)[42]? = some (74, z_al 0 1) := rfl
theorem c161_75 : (zT 161)[43]? = some (75, z_al 0 1) := rfl
theorem c161_76 : (zT 161)[44]? = some (76, z_gR 12 33) := rfl
theorem c161_79 : (zT 161)[45]? = some (79, z_il 7 2) := rfl
theorem c161_81 : (zT 161)[46]? = some (81, z_iald 20) := rfl
theorem c161_82 : (zT 161)[47]? = some (82, z_il 4 2) := rfl
theorem c161_84 : (zT 161)[48]? = some (84, z_ic (-1) 1) := rfl
theorem c161_85 : (zT 161)[49]? = some (85, z_ixor) := rfl
theorem c161_86 : (zT 161)[50]? = some (86, z_iand) := rfl
theorem c161_87 : (zT 161)[51]? = some (87, z_cV 12 159 2 1) := rfl
theorem c161_90 : (zT 161)[52]? = some (90, z_ifeq 103) := rfl
theorem c161_93 : (zT 161)[53]? = some (93, z_al 0 1) := rfl
theorem c161_94 : (zT 161)[54]? = some (94, z_gR 12 34) := rfl
theorem c161_97 : (zT 161)[55]? = some (97, z_il 7 2) := rfl
theorem c161_99 : (zT 161)[56]? = some (99, z_lald) := rfl
theorem c161_100 : (zT 161)[57]? = some (100, z_goto 104) := rfl
theorem c161_103 : (zT 161)[58]? = some (103, z_lc 0 1) := rfl
theorem c161_104 : (zT 161)[59]? = some (104, z_ladd) := rfl
theorem c161_105 : (zT 161)[60]? = some (105, z_ls 5 2) := rfl
theorem c161_107 : (zT 161)[61]? = some (107, z_inc 7 1) := rfl
theorem c161_110 : (zT 161)[62]? = some (110, z_goto 63) := rfl
theorem c161_113 : (zT 161)[63]? = some (113, z_lc 100 3) := rfl
theorem c161_116 : (zT 161)[64]? = some (116, z_ll 5 2) := rfl
theorem c161_118 : (zT 161)[65]? = some (118, z_lmul) := rfl
theorem c161_119 : (zT 161)[66]? = some (119, z_il 1 1) := rfl
theorem c161_120 : (zT 161)[67]? = some (120, z_i2l) := rfl
theorem c161_121 : (zT 161)[68]? = some (121, z_al 0 1) := rfl
theorem c161_122 : (zT 161)[69]? = some (122, z_cV 12 149 4 0) := rfl
theorem c161_125 : (zT 161)[70]? = some (125, z_lmul) := rfl
theorem c161_126 : (zT 161)[71]? = some (126, z_lcmp) := rfl
theorem c161_127 : (zT 161)[72]? = some (127, z_iflt 134) := rfl
theorem c161_130 : (zT 161)[73]? = some (130, z_ic 1 1) := rfl
theorem c161_131 : (zT 161)[74]? = some (131, z_goto 135) := rfl
theorem c161_134 : (zT 161)[75]? = some (134, z_ic 0 1) := rfl
theorem c161_135 : (zT 161)[76]? = some (135, z_is 7 2) := rfl
theorem c161_137 : (zT 161)[77]? = some (137, z_il 7 2) := rfl
theorem c161_139 : (zT 161)[78]? = some (139, z_ifeq 165) := rfl
theorem c161_142 : (zT 161)[79]? = some (142, z_il 3 1) := rfl
theorem c161_143 : (zT 161)[80]? = some (143, z_iflt 160) := rfl
theorem c161_146 : (zT 161)[81]? = some (146, z_al 0 1) := rfl
theorem c161_147 : (zT 161)[82]? = some (147, z_il 4 2) := rfl
theorem c161_149 : (zT 161)[83]? = some (149, z_cV 12 160 4 1) := rfl
theorem c161_152 : (zT 161)[84]? = some (152, z_al 0 1) := rfl
theorem c161_153 : (zT 161)[85]? = some (153, z_il 3 1) := rfl
theorem c161_154 : (zT 161)[86]? = some (154, z_cV 12 160 4 1) := rfl
theorem c161_157 : (zT 161)[87]? = some (157, z_ige 165) := rfl
theorem c161_160 : (zT 161)[88]? = some (160, z_il 4 2) := rfl
theorem c161_162 : (zT 161)[89]? = some (162, z_goto 166) := rfl
theorem c161_165 : (zT 161)[90]? = some (165, z_il 3 1) := rfl
theorem c161_166 : (zT 161)[91]? = some (166, z_is 3 1) := rfl
theorem c161_167 : (zT 161)[92]? = some (167, z_inc 4 1) := rfl
theorem c161_170 : (zT 161)[93]? = some (170, z_goto 44) := rfl
theorem c161_173 : (zT 161)[94]? = some (173, z_il 3 1) := rfl
theorem c161_174 : (zT 161)[95]? = some (174, z_ifge 182) := rfl
theorem c161_177 : (zT 161)[96]? = some (177, z_ic (-4) 2) := rfl
theorem c161_179 : (zT 161)[97]? = some (179, z_goto 195) := rfl
theorem c161_182 : (zT 161)[98]? = some (182, z_il 2 1) := rfl
theorem c161_183 : (zT 161)[99]? = some (183, z_ifne 190) := rfl
theorem c161_186 : (zT 161)[100]? = some (186, z_il 3 1) := rfl
theorem c161_187 : (zT 161)[101]? = some (187, z_goto 195) := rfl
theorem c161_190 : (zT 161)[102]? = some (190, z_al 0 1) := rfl
theorem c161_191 : (zT 161)[103]? = some (191, z_il 3 1) := rfl
theorem c161_192 : (zT 161)[104]? = some (192, z_cV 12 160 4 1) := rfl
theorem c161_195 : (zT 161)[105]? = some (195, z_ir) := rfl
theorem c162_0 : (zT 162)[0]? = some (0, z_lc 0 1) := rfl
theorem c162_1 : (zT 162)[1]? = some (1, z_ls 2 1) := rfl
theorem c162_2 : (zT 162)[2]? = some (2, z_ic 0 1) := rfl
theorem c162_3 : (zT 162)[3]? = some (3, z_is 4 2) := rfl
theorem c162_5 : (zT 162)[4]? = some (5, z_il 4 2) := rfl
theorem c162_7 : (zT 162)[5]? = some (7, z_al 0 1) := rfl
theorem c162_8 : (zT 162)[6]? = some (8, z_gI 12 32) := rfl
theorem c162_11 : (zT 162)[7]? = some (11, z_ige 52) := rfl
theorem c162_14 : (zT 162)[8]? = some (14, z_ll 2 1) := rfl
theorem c162_15 : (zT 162)[9]? = some (15, z_al 0 1) := rfl
theorem c162_16 : (zT 162)[10]? = some (16, z_al 0 1) := rfl
theorem c162_17 : (zT 162)[11]? = some (17, z_gR 12 33) := rfl
theorem c162_20 : (zT 162)[12]? = some (20, z_il 4 2) := rfl
theorem c162_22 : (zT 162)[13]? = some (22, z_iald 20) := rfl
theorem c162_23 : (zT 162)[14]? = some (23, z_il 1 1) := rfl
theorem c162_24 : (zT 162)[15]? = some (24, z_ic (-1) 1) := rfl
theorem c162_25 : (zT 162)[16]? = some (25, z_ixor) := rfl
theorem c162_26 : (zT 162)[17]? = some (26, z_iand) := rfl
theorem c162_27 : (zT 162)[18]? = some (27, z_cV 12 159 2 1) := rfl
theorem c162_30 : (zT 162)[19]? = some (30, z_ifeq 37) := rfl
theorem c162_33 : (zT 162)[20]? = some (33, z_lc 0 1) := rfl
theorem c162_34 : (zT 162)[21]? = some (34, z_goto 44) := rfl
theorem c162_37 : (zT 162)[22]? = some (37, z_al 0 1) := rfl
theorem c162_38 : (zT 162)[23]? = some (38, z_gR 12 34) := rfl
theorem c162_41 : (zT 162)[24]? = some (41, z_il 4 2) := rfl
theorem c162_43 : (zT 162)[25]? = some (43, z_lald) := rfl
theorem c162_44 : (zT 162)[26]? = some (44, z_ladd) := rfl
theorem c162_45 : (zT 162)[27]? = some (45, z_ls 2 1) := rfl
theorem c162_46 : (zT 162)[28]? = some (46, z_inc 4 1) := rfl
theorem c162_49 : (zT 162)[29]? = some (49, z_goto 5) := rfl
theorem c162_52 : (zT 162)[30]? = some (52, z_ll 2 1) := rfl
theorem c162_53 : (zT 162)[31]? = some (53, z_lr) := rfl
theorem c163_0 : (zT 163)[0]? = some (0, z_ic 1 1) := rfl
theorem c163_1 : (zT 163)[1]? = some (1, z_al 0 1) := rfl
theorem c163_2 : (zT 163)[2]? = some (2, z_gR 12 5) := rfl
theorem c163_5 : (zT 163)[3]? = some (5, z_ic 0 1) := rfl
theorem c163_6 : (zT 163)[4]? = some (6, z_iald 20) := rfl
theorem c163_7 : (zT 163)[5]? = some (7, z_ishl) := rfl
theorem c163_8 : (zT 163)[6]? = some (8, z_ic 1 1) := rfl
theorem c163_9 : (zT 163)[7]? = some (9, z_isub) := rfl
theorem c163_10 : (zT 163)[8]? = some (10, z_is 1 1) := rfl
theorem c163_11 : (zT 163)[9]? = some (11, z_al 0 1) := rfl
theorem c163_12 : (zT 163)[10]? = some (12, z_gR 12 36) := rfl
theorem c163_15 : (zT 163)[11]? = some (15, z_il 1 1) := rfl
theorem c163_16 : (zT 163)[12]? = some (16, z_lc 0 1) := rfl
theorem c163_17 : (zT 163)[13]? = some (17, z_last) := rfl
theorem c163_18 : (zT 163)[14]? = some (18, z_il 1 1) := rfl
theorem c163_19 : (zT 163)[15]? = some (19, z_ic 1 1) := rfl
theorem c163_20 : (zT 163)[16]? = some (20, z_isub) := rfl
theorem c163_21 : (zT 163)[17]? = some (21, z_is 2 1) := rfl
theorem c163_22 : (zT 163)[18]? = some (22, z_il 2 1) := rfl
theorem c163_23 : (zT 163)[19]? = some (23, z_iflt 149) := rfl
theorem c163_26 : (zT 163)[20]? = some (26, z_al 0 1) := rfl
theorem c163_27 : (zT 163)[21]? = some (27, z_il 2 1) := rfl
theorem c163_28 : (zT 163)[22]? = some (28, z_cV 12 162 5 1) := rfl
theorem c163_31 : (zT 163)[23]? = some (31, z_ls 3 1) := rfl
theorem c163_32 : (zT 163)[24]? = some (32, z_al 0 1) := rfl
theorem c163_33 : (zT 163)[25]? = some (33, z_gR 12 37) := rfl
theorem c163_36 : (zT 163)[26]? = some (36, z_il 2 1) := rfl
theorem c163_37 : (zT 163)[27]? = some (37, z_ic (-4) 2) := rfl
theorem c163_39 : (zT 163)[28]? = some (39, z_iast) := rfl
theorem c163_40 : (zT 163)[29]? = some (40, z_al 0 1) := rfl
theorem c163_41 : (zT 163)[30]? = some (41, z_gR 12 36) := rfl
theorem c163_44 : (zT 163)[31]? = some (44, z_il 2 1) := rfl
theorem c163_45 : (zT 163)[32]? = some (45, z_lc 0 1) := rfl
theorem c163_46 : (zT 163)[33]? = some (46, z_last) := rfl
theorem c163_47 : (zT 163)[34]? = some (47, z_ic 0 1) := rfl
theorem c163_48 : (zT 163)[35]? = some (48, z_is 5 2) := rfl
theorem c163_50 : (zT 163)[36]? = some (50, z_il 5 2) := rfl
theorem c163_52 : (zT 163)[37]? = some (52, z_al 0 1) := rfl
theorem c163_53 : (zT 163)[38]? = some (53, z_gR 12 5) := rfl
theorem c163_56 : (zT 163)[39]? = some (56, z_ic 0 1) := rfl
theorem c163_57 : (zT 163)[40]? = some (57, z_iald 20) := rfl
theorem c163_58 : (zT 163)[41]? = some (58, z_ige 143) := rfl
theorem c163_61 : (zT 163)[42]? = some (61, z_il 2 1) := rfl
theorem c163_62 : (zT 163)[43]? = some (62, z_il 5 2) := rfl
theorem c163_64 : (zT 163)[44]? = some (64, z_cS 106 2 2) := rfl
theorem c163_67 : (zT 163)[45]? = some (67, z_ifne 137) := rfl
theorem c163_70 : (zT 163)[46]? = some (70, z_ll 3 1) := rfl
theorem c163_71 : (zT 163)[47]? = some (71, z_lc 0 1) := rfl
theorem c163_72 : (zT 163)[48]? = some (72, z_lcmp) := rfl
theorem c163_73 : (zT 163)[49]? = some (73, z_ifle 137) := rfl
theorem c163_76 : (zT 163)[50]? = some (76, z_ll 3 1) := rfl
theorem c163_77 : (zT 163)[51]? = some (77, z_al 0 1) := rfl
theorem c163_78 : (zT 163)[52]? = some (78, z_gR 12 11) := rfl
theorem c163_81 : (zT 163)[53]? = some (81, z_il 5 2) := rfl
theorem c163_83 : (zT 163)[54]? = some (83, z_iald 20) := rfl
theorem c163_84 : (zT 163)[55]? = some (84, z_i2l) := rfl
theorem c163_85 : (zT 163)[56]? = some (85, z_lmul) := rfl
theorem c163_86 : (zT 163)[57]? = some (86, z_al 0 1) := rfl
theorem c163_87 : (zT 163)[58]? = some (87, z_gR 12 36) := rfl
theorem c163_90 : (zT 163)[59]? = some (90, z_il 2 1) := rfl
theorem c163_91 : (zT 163)[60]? = some (91, z_ic 1 1) := rfl
theorem c163_92 : (zT 163)[61]? = some (92, z_il 5 2) := rfl
theorem c163_94 : (zT 163)[62]? = some (94, z_ishl) := rfl
theorem c163_95 : (zT 163)[63]? = some (95, z_ior) := rfl
theorem c163_96 : (zT 163)[64]? = some (96, z_lald) := rfl
theorem c163_97 : (zT 163)[65]? = some (97, z_ladd) := rfl
theorem c163_98 : (zT 163)[66]? = some (98, z_ls 6 2) := rfl
theorem c163_100 : (zT 163)[67]? = some (100, z_al 0 1) := rfl
theorem c163_101 : (zT 163)[68]? = some (101, z_gR 12 37) := rfl
theorem c163_104 : (zT 163)[69]? = some (104, z_il 2 1) := rfl
theorem c163_105 : (zT 163)[70]? = some (105, z_iald 20) := rfl
theorem c163_106 : (zT 163)[71]? = some (106, z_iflt 121) := rfl
theorem c163_109 : (zT 163)[72]? = some (109, z_ll 6 2) := rfl
theorem c163_111 : (zT 163)[73]? = some (111, z_al 0 1) := rfl
theorem c163_112 : (zT 163)[74]? = some (112, z_gR 12 36) := rfl
theorem c163_115 : (zT 163)[75]? = some (115, z_il 2 1) := rfl
theorem c163_116 : (zT 163)[76]? = some (116, z_lald) := rfl
theorem c163_117 : (zT 163)[77]? = some (117, z_lcmp) := rfl
theorem c163_118 : (zT 163)[78]? = some (118, z_ifge 137) := rfl
theorem c163_121 : (zT 163)[79]? = some (121, z_al 0 1) := rfl
theorem c163_122 : (zT 163)[80]? = some (122, z_gR 12 36) := rfl
theorem c163_125 : (zT 163)[81]? = some (125, z_il 2 1) := rfl
theorem c163_126 : (zT 163)[82]? = some (126, z_ll 6 2) := rfl
theorem c163_128 : (zT 163)[83]? = some (128, z_last) := rfl
theorem c163_129 : (zT 163)[84]? = some (129, z_al 0 1) := rfl
theorem c163_130 : (zT 163)[85]? = some (130, z_gR 12 37) := rfl
theorem c163_133 : (zT 163)[86]? = some (133, z_il 2 1) := rfl
theorem c163_134 : (zT 163)[87]? = some (134, z_il 5 2) := rfl
theorem c163_136 : (zT 163)[88]? = some (136, z_iast) := rfl
theorem c163_137 : (zT 163)[89]? = some (137, z_inc 5 1) := rfl
theorem c163_140 : (zT 163)[90]? = some (140, z_goto 50) := rfl
theorem c163_143 : (zT 163)[91]? = some (143, z_inc 2 (-1)) := rfl
theorem c163_146 : (zT 163)[92]? = some (146, z_goto 22) := rfl
theorem c163_149 : (zT 163)[93]? = some (149, z_vr) := rfl
theorem c164_0 : (zT 164)[0]? = some (0, z_il 1 1) := rfl
theorem c164_1 : (zT 164)[1]? = some (1, z_i2l) := rfl
theorem c164_2 : (zT 164)[2]? = some (2, z_lc 0 1) := rfl
theorem c164_3 : (zT 164)[3]? = some (3, z_lc 1 1) := rfl
theorem c164_4 : (zT 164)[4]? = some (4, z_cS 105 6 3) := rfl
theorem c164_7 : (zT 164)[5]? = some (7, z_ifne 14) := rfl
theorem c164_10 : (zT 164)[6]? = some (10, z_lc (-1) 3) := rfl
theorem c164_13 : (zT 164)[7]? = some (13, z_lr) := rfl
theorem c164_14 : (zT 164)[8]? = some (14, z_al 0 1) := rfl
theorem c164_15 : (zT 164)[9]? = some (15, z_cV 12 148 2 0) := rfl
theorem c164_18 : (zT 164)[10]? = some (18, z_al 0 1) := rfl
theorem c164_19 : (zT 164)[11]? = some (19, z_gI 12 32) := rfl
theorem c164_22 : (zT 164)[12]? = some (22, z_ifne 37) := rfl
theorem c164_25 : (zT 164)[13]? = some (25, z_il 1 1) := rfl
theorem c164_26 : (zT 164)[14]? = some (26, z_ifne 33) := rfl
theorem c164_29 : (zT 164)[15]? = some (29, z_lc 0 1) := rfl
theorem c164_30 : (zT 164)[16]? = some (30, z_goto 36) := rfl
theorem c164_33 : (zT 164)[17]? = some (33, z_lc (-4) 3) := rfl
theorem c164_36 : (zT 164)[18]? = some (36, z_lr) := rfl
theorem c164_37 : (zT 164)[19]? = some (37, z_al 0 1) := rfl
theorem c164_38 : (zT 164)[20]? = some (38, z_cV 12 163 8 0) := rfl
theorem c164_41 : (zT 164)[21]? = some (41, z_il 1 1) := rfl
theorem c164_42 : (zT 164)[22]? = some (42, z_ifne 54) := rfl
theorem c164_45 : (zT 164)[23]? = some (45, z_al 0 1) := rfl
theorem c164_46 : (zT 164)[24]? = some (46, z_gR 12 36) := rfl
theorem c164_49 : (zT 164)[25]? = some (49, z_ic 0 1) := rfl
theorem c164_50 : (zT 164)[26]? = some (50, z_lald) := rfl
theorem c164_51 : (zT 164)[27]? = some (51, z_goto 61) := rfl
theorem c164_54 : (zT 164)[28]? = some (54, z_al 0 1) := rfl
theorem c164_55 : (zT 164)[29]? = some (55, z_gR 12 37) := rfl
theorem c164_58 : (zT 164)[30]? = some (58, z_ic 0 1) := rfl
theorem c164_59 : (zT 164)[31]? = some (59, z_iald 20) := rfl
theorem c164_60 : (zT 164)[32]? = some (60, z_i2l) := rfl
theorem c164_61 : (zT 164)[33]? = some (61, z_lr) := rfl
theorem c165_0 : (zT 165)[0]? = some (0, z_al 0 1) := rfl
theorem c165_1 : (zT 165)[1]? = some (1, z_il 1 1) := rfl
theorem c165_2 : (zT 165)[2]? = some (2, z_cV 12 127 2 1) := rfl
theorem c165_5 : (zT 165)[3]? = some (5, z_ifne 10) := rfl
theorem c165_8 : (zT 165)[4]? = some (8, z_ic (-1) 1) := rfl
theorem c165_9 : (zT 165)[5]? = some (9, z_ir) := rfl
theorem c165_10 : (zT 165)[6]? = some (10, z_ic 0 1) := rfl
theorem c165_11 : (zT 165)[7]? = some (11, z_is 2 1) := rfl
theorem c165_12 : (zT 165)[8]? = some (12, z_ic 0 1) := rfl
theorem c165_13 : (zT 165)[9]? = some (13, z_is 3 1) := rfl
theorem c165_14 : (zT 165)[10]? = some (14, z_il 3 1) := rfl
theorem c165_15 : (zT 165)[11]? = some (15, z_al 0 1) := rfl
theorem c165_16 : (zT 165)[12]? = some (16, z_gR 12 5) := rfl
theorem c165_19 : (zT 165)[13]? = some (19, z_ic 0 1) := rfl
theorem c165_20 : (zT 165)[14]? = some (20, z_iald 20) := rfl
theorem c165_21 : (zT 165)[15]? = some (21, z_ige 67) := rfl
theorem c165_24 : (zT 165)[16]? = some (24, z_il 2 1) := rfl
theorem c165_25 : (zT 165)[17]? = some (25, z_il 1 1) := rfl
theorem c165_26 : (zT 165)[18]? = some (26, z_il 3 1) := rfl
theorem c165_27 : (zT 165)[19]? = some (27, z_cS 106 2 2) := rfl
theorem c165_30 : (zT 165)[20]? = some (30, z_ifeq 58) := rfl
theorem c165_33 : (zT 165)[21]? = some (33, z_al 0 1) := rfl
theorem c165_34 : (zT 165)[22]? = some (34, z_il 1 1) := rfl
theorem c165_35 : (zT 165)[23]? = some (35, z_ic 1 1) := rfl
theorem c165_36 : (zT 165)[24]? = some (36, z_il 3 1) := rfl
theorem c165_37 : (zT 165)[25]? = some (37, z_ishl) := rfl
theorem c165_38 : (zT 165)[26]? = some (38, z_ic (-1) 1) := rfl
theorem c165_39 : (zT 165)[27]? = some (39, z_ixor) := rfl
theorem c165_40 : (zT 165)[28]? = some (40, z_iand) := rfl
theorem c165_41 : (zT 165)[29]? = some (41, z_cV 12 133 4 1) := rfl
theorem c165_44 : (zT 165)[30]? = some (44, z_al 0 1) := rfl
theorem c165_45 : (zT 165)[31]? = some (45, z_il 1 1) := rfl
theorem c165_46 : (zT 165)[32]? = some (46, z_cV 12 133 4 1) := rfl
theorem c165_49 : (zT 165)[33]? = some (49, z_ile 58) := rfl
theorem c165_52 : (zT 165)[34]? = some (52, z_ic 1 1) := rfl
theorem c165_53 : (zT 165)[35]? = some (53, z_il 3 1) := rfl
theorem c165_54 : (zT 165)[36]? = some (54, z_ishl) := rfl
theorem c165_55 : (zT 165)[37]? = some (55, z_goto 59) := rfl
theorem c165_58 : (zT 165)[38]? = some (58, z_ic 0 1) := rfl
theorem c165_59 : (zT 165)[39]? = some (59, z_ior) := rfl
theorem c165_60 : (zT 165)[40]? = some (60, z_is 2 1) := rfl
theorem c165_61 : (zT 165)[41]? = some (61, z_inc 3 1) := rfl
theorem c165_64 : (zT 165)[42]? = some (64, z_goto 14) := rfl
theorem c165_67 : (zT 165)[43]? = some (67, z_il 2 1) := rfl
theorem c165_68 : (zT 165)[44]? = some (68, z_ir) := rfl
theorem c166_0 : (zT 166)[0]? = some (0, z_ic 0 1) := rfl
theorem c166_1 : (zT 166)[1]? = some (1, z_is 1 1) := rfl
theorem c166_2 : (zT 166)[2]? = some (2, z_ic 0 1) := rfl
theorem c166_3 : (zT 166)[3]? = some (3, z_is 2 1) := rfl
theorem c166_4 : (zT 166)[4]? = some (4, z_il 2 1) := rfl
theorem c166_5 : (zT 166)[5]? = some (5, z_al 0 1) := rfl
theorem c166_6 : (zT 166)[6]? = some (6, z_gR 12 18) := rfl
theorem c166_9 : (zT 166)[7]? = some (9, z_ic 0 1) := rfl
theorem c166_10 : (zT 166)[8]? = some (10, z_iald 20) := rfl
theorem c166_11 : (zT 166)[9]? = some (11, z_ige 99) := rfl
theorem c166_14 : (zT 166)[10]? = some (14, z_al 0 1) := rfl
theorem c166_15 : (zT 166)[11]? = some (15, z_gR 12 21) := rfl
theorem c166_18 : (zT 166)[12]? = some (18, z_il 2 1) := rfl
theorem c166_19 : (zT 166)[13]? = some (19, z_iald 20) := rfl
theorem c166_20 : (zT 166)[14]? = some (20, z_i2l) := rfl
theorem c166_21 : (zT 166)[15]? = some (21, z_ls 3 1) := rfl
theorem c166_22 : (zT 166)[16]? = some (22, z_lc 100 3) := rfl
theorem c166_25 : (zT 166)[17]? = some (25, z_ls 5 2) := rfl
theorem c166_27 : (zT 166)[18]? = some (27, z_al 0 1) := rfl
theorem c166_28 : (zT 166)[19]? = some (28, z_gR 12 19) := rfl
theorem c166_31 : (zT 166)[20]? = some (31, z_il 2 1) := rfl
theorem c166_32 : (zT 166)[21]? = some (32, z_iald 20) := rfl
theorem c166_33 : (zT 166)[22]? = some (33, z_is 7 2) := rfl
theorem c166_35 : (zT 166)[23]? = some (35, z_il 7 2) := rfl
theorem c166_37 : (zT 166)[24]? = some (37, z_al 0 1) := rfl
theorem c166_38 : (zT 166)[25]? = some (38, z_gR 12 2) := rfl
theorem c166_41 : (zT 166)[26]? = some (41, z_ic 0 1) := rfl
theorem c166_42 : (zT 166)[27]? = some (42, z_iald 20) := rfl
theorem c166_43 : (zT 166)[28]? = some (43, z_ige 71) := rfl
theorem c166_46 : (zT 166)[29]? = some (46, z_ll 3 1) := rfl
theorem c166_47 : (zT 166)[30]? = some (47, z_al 0 1) := rfl
theorem c166_48 : (zT 166)[31]? = some (48, z_gR 12 3) := rfl
theorem c166_51 : (zT 166)[32]? = some (51, z_il 7 2) := rfl
theorem c166_53 : (zT 166)[33]? = some (53, z_iald 20) := rfl
theorem c166_54 : (zT 166)[34]? = some (54, z_i2l) := rfl
theorem c166_55 : (zT 166)[35]? = some (55, z_lmul) := rfl
theorem c166_56 : (zT 166)[36]? = some (56, z_ls 3 1) := rfl
theorem c166_57 : (zT 166)[37]? = some (57, z_ll 5 2) := rfl
theorem c166_59 : (zT 166)[38]? = some (59, z_lc 10 3) := rfl
theorem c166_62 : (zT 166)[39]? = some (62, z_lmul) := rfl
theorem c166_63 : (zT 166)[40]? = some (63, z_ls 5 2) := rfl
theorem c166_65 : (zT 166)[41]? = some (65, z_inc 7 1) := rfl
theorem c166_68 : (zT 166)[42]? = some (68, z_goto 35) := rfl
theorem c166_71 : (zT 166)[43]? = some (71, z_il 1 1) := rfl
theorem c166_72 : (zT 166)[44]? = some (72, z_ll 3 1) := rfl
theorem c166_73 : (zT 166)[45]? = some (73, z_ll 5 2) := rfl
theorem c166_75 : (zT 166)[46]? = some (75, z_lcmp) := rfl
theorem c166_76 : (zT 166)[47]? = some (76, z_iflt 90) := rfl
theorem c166_79 : (zT 166)[48]? = some (79, z_ic 1 1) := rfl
theorem c166_80 : (zT 166)[49]? = some (80, z_al 0 1) := rfl
theorem c166_81 : (zT 166)[50]? = some (81, z_gR 12 20) := rfl
theorem c166_84 : (zT 166)[51]? = some (84, z_il 2 1) := rfl
theorem c166_85 : (zT 166)[52]? = some (85, z_iald 20) := rfl
theorem c166_86 : (zT 166)[53]? = some (86, z_ishl) := rfl
theorem c166_87 : (zT 166)[54]? = some (87, z_goto 91) := rfl
theorem c166_90 : (zT 166)[55]? = some (90, z_ic 0 1) := rfl
theorem c166_91 : (zT 166)[56]? = some (91, z_ior) := rfl
theorem c166_92 : (zT 166)[57]? = some (92, z_is 1 1) := rfl
theorem c166_93 : (zT 166)[58]? = some (93, z_inc 2 1) := rfl
theorem c166_96 : (zT 166)[59]? = some (96, z_goto 4) := rfl
theorem c166_99 : (zT 166)[60]? = some (99, z_il 1 1) := rfl
theorem c166_100 : (zT 166)[61]? = some (100, z_ir) := rfl
theorem c167_0 : (zT 167)[0]? = some (0, z_ic 1000000 3) := rfl
theorem c167_3 : (zT 167)[1]? = some (3, z_is 3 1) := rfl
theorem c167_4 : (zT 167)[2]? = some (4, z_ic 0 1) := rfl
theorem c167_5 : (zT 167)[3]? = some (5, z_is 4 2) := rfl
theorem c167_7 : (zT 167)[4]? = some (7, z_il 4 2) := rfl
theorem c167_9 : (zT 167)[5]? = some (9, z_il 2 1) := rfl
theorem c167_10 : (zT 167)[6]? = some (10, z_ige 77) := rfl
theorem c167_13 : (zT 167)[7]? = some (13, z_al 0 1) := rfl
theorem c167_14 : (zT 167)[8]? = some (14, z_gR 12 23) := rfl
theorem c167_17 : (zT 167)[9]? = some (17, z_al 0 1) := rfl
theorem c167_18 : (zT 167)[10]? = some (18, z_gR 12 7) := rfl
theorem c167_21 : (zT 167)[11]? = some (21, z_il 1 1) := rfl
theorem c167_22 : (zT 167)[12]? = some (22, z_iald 20) := rfl
theorem c167_23 : (zT 167)[13]? = some (23, z_iald 20) := rfl
theorem c167_24 : (zT 167)[14]? = some (24, z_al 0 1) := rfl
theorem c167_25 : (zT 167)[15]? = some (25, z_gR 12 8) := rfl
theorem c167_28 : (zT 167)[16]? = some (28, z_il 1 1) := rfl
theorem c167_29 : (zT 167)[17]? = some (29, z_iald 20) := rfl
theorem c167_30 : (zT 167)[18]? = some (30, z_il 4 2) := rfl
theorem c167_32 : (zT 167)[19]? = some (32, z_iadd) := rfl
theorem c167_33 : (zT 167)[20]? = some (33, z_imul) := rfl
theorem c167_34 : (zT 167)[21]? = some (34, z_ic 10 2) := rfl
theorem c167_36 : (zT 167)[22]? = some (36, z_idiv) := rfl
theorem c167_37 : (zT 167)[23]? = some (37, z_is 5 2) := rfl
theorem c167_39 : (zT 167)[24]? = some (39, z_il 5 2) := rfl
theorem c167_41 : (zT 167)[25]? = some (41, z_ic 999 3) := rfl
theorem c167_44 : (zT 167)[26]? = some (44, z_ile 53) := rfl
theorem c167_47 : (zT 167)[27]? = some (47, z_ic 999 3) := rfl
theorem c167_50 : (zT 167)[28]? = some (50, z_goto 55) := rfl
theorem c167_53 : (zT 167)[29]? = some (53, z_il 5 2) := rfl
theorem c167_55 : (zT 167)[30]? = some (55, z_is 5 2) := rfl
theorem c167_57 : (zT 167)[31]? = some (57, z_il 3 1) := rfl
theorem c167_58 : (zT 167)[32]? = some (58, z_il 3 1) := rfl
theorem c167_59 : (zT 167)[33]? = some (59, z_i2l) := rfl
theorem c167_60 : (zT 167)[34]? = some (60, z_il 5 2) := rfl
theorem c167_62 : (zT 167)[35]? = some (62, z_i2l) := rfl
theorem c167_63 : (zT 167)[36]? = some (63, z_lmul) := rfl
theorem c167_64 : (zT 167)[37]? = some (64, z_lc 1000 3) := rfl
theorem c167_67 : (zT 167)[38]? = some (67, z_ldiv) := rfl
theorem c167_68 : (zT 167)[39]? = some (68, z_l2i) := rfl
theorem c167_69 : (zT 167)[40]? = some (69, z_isub) := rfl
theorem c167_70 : (zT 167)[41]? = some (70, z_is 3 1) := rfl
theorem c167_71 : (zT 167)[42]? = some (71, z_inc 4 1) := rfl
theorem c167_74 : (zT 167)[43]? = some (74, z_goto 7) := rfl
theorem c167_77 : (zT 167)[44]? = some (77, z_ic 1000000 3) := rfl
theorem c167_80 : (zT 167)[45]? = some (80, z_il 3 1) := rfl
theorem c167_81 : (zT 167)[46]? = some (81, z_isub) := rfl
theorem c167_82 : (zT 167)[47]? = some (82, z_ir) := rfl
theorem c168_0 : (zT 168)[0]? = some (0, z_al 0 1) := rfl
theorem c168_1 : (zT 168)[1]? = some (1, z_il 1 1) := rfl
theorem c168_2 : (zT 168)[2]? = some (2, z_cV 12 126 2 1) := rfl
theorem c168_5 : (zT 168)[3]? = some (5, z_ifeq 29) := rfl
theorem c168_8 : (zT 168)[4]? = some (8, z_il 2 1) := rfl
theorem c168_9 : (zT 168)[5]? = some (9, z_i2l) := rfl
theorem c168_10 : (zT 168)[6]? = some (10, z_lc 1 1) := rfl
theorem c168_11 : (zT 168)[7]? = some (11, z_lc 50 3) := rfl
theorem c168_14 : (zT 168)[8]? = some (14, z_cS 105 6 3) := rfl
theorem c168_17 : (zT 168)[9]? = some (17, z_ifeq 29) := rfl
theorem c168_20 : (zT 168)[10]? = some (20, z_al 0 1) := rfl
theorem c168_21 : (zT 168)[11]? = some (21, z_il 1 1) := rfl
theorem c168_22 : (zT 168)[12]? = some (22, z_il 2 1) := rfl
theorem c168_23 : (zT 168)[13]? = some (23, z_cV 12 167 6 2) := rfl
theorem c168_26 : (zT 168)[14]? = some (26, z_goto 30) := rfl
theorem c168_29 : (zT 168)[15]? = some (29, z_ic (-1) 1) := rfl
theorem c168_30 : (zT 168)[16]? = some (30, z_ir) := rfl
theorem c169_0 : (zT 169)[0]? = some (0, z_il 1 1) := rfl
theorem c169_1 : (zT 169)[1]? = some (1, z_i2l) := rfl
theorem c169_2 : (zT 169)[2]? = some (2, z_lc 1 1) := rfl
theorem c169_3 : (zT 169)[3]? = some (3, z_lc 50 3) := rfl
theorem c169_6 : (zT 169)[4]? = some (6, z_cS 105 6 3) := rfl
theorem c169_9 : (zT 169)[5]? = some (9, z_ifne 14) := rfl
theorem c169_12 : (zT 169)[6]? = some (12, z_ic (-1) 1) := rfl
theorem c169_13 : (zT 169)[7]? = some (13, z_ir) := rfl
theorem c169_14 : (zT 169)[8]? = some (14, z_ic 0 1) := rfl
theorem c169_15 : (zT 169)[9]? = some (15, z_is 2 1) := rfl
theorem c169_16 : (zT 169)[10]? = some (16, z_ic 1 1) := rfl
theorem c169_17 : (zT 169)[11]? = some (17, z_is 3 1) := rfl
theorem c169_18 : (zT 169)[12]? = some (18, z_il 3 1) := rfl
theorem c169_19 : (zT 169)[13]? = some (19, z_al 0 1) := rfl
theorem c169_20 : (zT 169)[14]? = some (20, z_gR 12 5) := rfl
theorem c169_23 : (zT 169)[15]? = some (23, z_ic 0 1) := rfl
theorem c169_24 : (zT 169)[16]? = some (24, z_iald 20) := rfl
theorem c169_25 : (zT 169)[17]? = some (25, z_ige 55) := rfl
theorem c169_28 : (zT 169)[18]? = some (28, z_al 0 1) := rfl
theorem c169_29 : (zT 169)[19]? = some (29, z_il 3 1) := rfl
theorem c169_30 : (zT 169)[20]? = some (30, z_il 1 1) := rfl
theorem c169_31 : (zT 169)[21]? = some (31, z_cV 12 167 6 2) := rfl
theorem c169_34 : (zT 169)[22]? = some (34, z_al 0 1) := rfl
theorem c169_35 : (zT 169)[23]? = some (35, z_il 2 1) := rfl
theorem c169_36 : (zT 169)[24]? = some (36, z_il 1 1) := rfl
theorem c169_37 : (zT 169)[25]? = some (37, z_cV 12 167 6 2) := rfl
theorem c169_40 : (zT 169)[26]? = some (40, z_ile 47) := rfl
theorem c169_43 : (zT 169)[27]? = some (43, z_il 3 1) := rfl
theorem c169_44 : (zT 169)[28]? = some (44, z_goto 48) := rfl
theorem c169_47 : (zT 169)[29]? = some (47, z_il 2 1) := rfl
theorem c169_48 : (zT 169)[30]? = some (48, z_is 2 1) := rfl
theorem c169_49 : (zT 169)[31]? = some (49, z_inc 3 1) := rfl
theorem c169_52 : (zT 169)[32]? = some (52, z_goto 18) := rfl
theorem c169_55 : (zT 169)[33]? = some (55, z_il 2 1) := rfl
theorem c169_56 : (zT 169)[34]? = some (56, z_ir) := rfl
theorem c170_0 : (zT 170)[0]? = some (0, z_il 1 1) := rfl
theorem c170_1 : (zT 170)[1]? = some (1, z_i2l) := rfl
theorem c170_2 : (zT 170)[2]? = some (2, z_lc 0 1) := rfl
theorem c170_3 : (zT 170)[3]? = some (3, z_lc 9999 3) := rfl
theorem c170_6 : (zT 170)[4]? = some (6, z_cS 105 6 3) := rfl
theorem c170_9 : (zT 170)[5]? = some (9, z_ifne 14) := rfl
theorem c170_12 : (zT 170)[6]? = some (12, z_ic (-1) 1) := rfl
theorem c170_13 : (zT 170)[7]? = some (13, z_ir) := rfl
theorem c170_14 : (zT 170)[8]? = some (14, z_ic 0 1) := rfl
theorem c170_15 : (zT 170)[9]? = some (15, z_is 2 1) := rfl
theorem c170_16 : (zT 170)[10]? = some (16, z_ic 0 1) := rfl
theorem c170_17 : (zT 170)[11]? = some (17, z_is 3 1) := rfl
theorem c170_18 : (zT 170)[12]? = some (18, z_il 3 1) := rfl
theorem c170_19 : (zT 170)[13]? = some (19, z_al 0 1) := rfl
theorem c170_20 : (zT 170)[14]? = some (20, z_gR 12 5) := rfl
theorem c170_23 : (zT 170)[15]? = some (23, z_ic 0 1) := rfl
theorem c170_24 : (zT 170)[16]? = some (24, z_iald 20) := rfl
theorem c170_25 : (zT 170)[17]? = some (25, z_ige 85) := rfl
theorem c170_28 : (zT 170)[18]? = some (28, z_lc 7919 3) := rfl
theorem c170_31 : (zT 170)[19]? = some (31, z_il 1 1) := rfl
theorem c170_32 : (zT 170)[20]? = some (32, z_i2l) := rfl
theorem c170_33 : (zT 170)[21]? = some (33, z_lmul) := rfl
theorem c170_34 : (zT 170)[22]? = some (34, z_lc 6151 3) := rfl
theorem c170_37 : (zT 170)[23]? = some (37, z_il 3 1) := rfl
theorem c170_38 : (zT 170)[24]? = some (38, z_i2l) := rfl
theorem c170_39 : (zT 170)[25]? = some (39, z_lmul) := rfl
theorem c170_40 : (zT 170)[26]? = some (40, z_ladd) := rfl
theorem c170_41 : (zT 170)[27]? = some (41, z_lc 1 1) := rfl
theorem c170_42 : (zT 170)[28]? = some (42, z_ladd) := rfl
theorem c170_43 : (zT 170)[29]? = some (43, z_ls 4 2) := rfl
theorem c170_45 : (zT 170)[30]? = some (45, z_il 2 1) := rfl
theorem c170_46 : (zT 170)[31]? = some (46, z_ll 4 2) := rfl
theorem c170_48 : (zT 170)[32]? = some (48, z_ll 4 2) := rfl
theorem c170_50 : (zT 170)[33]? = some (50, z_lmul) := rfl
theorem c170_51 : (zT 170)[34]? = some (51, z_lc 65521 3) := rfl
theorem c170_54 : (zT 170)[35]? = some (54, z_lrem) := rfl
theorem c170_55 : (zT 170)[36]? = some (55, z_lc 10 3) := rfl
theorem c170_58 : (zT 170)[37]? = some (58, z_lrem) := rfl
theorem c170_59 : (zT 170)[38]? = some (59, z_al 0 1) := rfl
theorem c170_60 : (zT 170)[39]? = some (60, z_gR 12 9) := rfl
theorem c170_63 : (zT 170)[40]? = some (63, z_il 3 1) := rfl
theorem c170_64 : (zT 170)[41]? = some (64, z_iald 20) := rfl
theorem c170_65 : (zT 170)[42]? = some (65, z_i2l) := rfl
theorem c170_66 : (zT 170)[43]? = some (66, z_lcmp) := rfl
theorem c170_67 : (zT 170)[44]? = some (67, z_ifge 76) := rfl
theorem c170_70 : (zT 170)[45]? = some (70, z_ic 1 1) := rfl
theorem c170_71 : (zT 170)[46]? = some (71, z_il 3 1) := rfl
theorem c170_72 : (zT 170)[47]? = some (72, z_ishl) := rfl
theorem c170_73 : (zT 170)[48]? = some (73, z_goto 77) := rfl
theorem c170_76 : (zT 170)[49]? = some (76, z_ic 0 1) := rfl
theorem c170_77 : (zT 170)[50]? = some (77, z_ior) := rfl
theorem c170_78 : (zT 170)[51]? = some (78, z_is 2 1) := rfl
theorem c170_79 : (zT 170)[52]? = some (79, z_inc 3 1) := rfl
theorem c170_82 : (zT 170)[53]? = some (82, z_goto 18) := rfl
theorem c170_85 : (zT 170)[54]? = some (85, z_il 2 1) := rfl
theorem c170_86 : (zT 170)[55]? = some (86, z_ir) := rfl
theorem c171_0 : (zT 171)[0]? = some (0, z_al 0 1) := rfl
theorem c171_1 : (zT 171)[1]? = some (1, z_gR 12 24) := rfl
theorem c171_4 : (zT 171)[2]? = some (4, z_il 2 1) := rfl
theorem c171_5 : (zT 171)[3]? = some (5, z_al 0 1) := rfl
theorem c171_6 : (zT 171)[4]? = some (6, z_gR 12 24) := rfl
theorem c171_9 : (zT 171)[5]? = some (9, z_il 1 1) := rfl
theorem c171_10 : (zT 171)[6]? = some (10, z_iald 20) := rfl
theorem c171_11 : (zT 171)[7]? = some (11, z_iast) := rfl
theorem c171_12 : (zT 171)[8]? = some (12, z_ic 0 1) := rfl
theorem c171_13 : (zT 171)[9]? = some (13, z_is 3 1) := rfl
theorem c171_14 : (zT 171)[10]? = some (14, z_il 3 1) := rfl
theorem c171_15 : (zT 171)[11]? = some (15, z_ic 10 2) := rfl
theorem c171_17 : (zT 171)[12]? = some (17, z_ige 114) := rfl
theorem c171_20 : (zT 171)[13]? = some (20, z_al 0 1) := rfl
theorem c171_21 : (zT 171)[14]? = some (21, z_gR 12 25) := rfl
theorem c171_24 : (zT 171)[15]? = some (24, z_ic 10 2) := rfl
theorem c171_26 : (zT 171)[16]? = some (26, z_il 2 1) := rfl
theorem c171_27 : (zT 171)[17]? = some (27, z_imul) := rfl
theorem c171_28 : (zT 171)[18]? = some (28, z_il 3 1) := rfl
theorem c171_29 : (zT 171)[19]? = some (29, z_iadd) := rfl
theorem c171_30 : (zT 171)[20]? = some (30, z_al 0 1) := rfl
theorem c171_31 : (zT 171)[21]? = some (31, z_gR 12 25) := rfl
theorem c171_34 : (zT 171)[22]? = some (34, z_ic 10 2) := rfl
theorem c171_36 : (zT 171)[23]? = some (36, z_il 1 1) := rfl
theorem c171_37 : (zT 171)[24]? = some (37, z_imul) := rfl
theorem c171_38 : (zT 171)[25]? = some (38, z_il 3 1) := rfl
theorem c171_39 : (zT 171)[26]? = some (39, z_iadd) := rfl
theorem c171_40 : (zT 171)[27]? = some (40, z_iald 20) := rfl
theorem c171_41 : (zT 171)[28]? = some (41, z_iast) := rfl
theorem c171_42 : (zT 171)[29]? = some (42, z_al 0 1) := rfl
theorem c171_43 : (zT 171)[30]? = some (43, z_gR 12 26) := rfl
theorem c171_46 : (zT 171)[31]? = some (46, z_ic 10 2) := rfl
theorem c171_48 : (zT 171)[32]? = some (48, z_il 2 1) := rfl
theorem c171_49 : (zT 171)[33]? = some (49, z_imul) := rfl
theorem c171_50 : (zT 171)[34]? = some (50, z_il 3 1) := rfl
theorem c171_51 : (zT 171)[35]? = some (51, z_iadd) := rfl
theorem c171_52 : (zT 171)[36]? = some (52, z_al 0 1) := rfl
theorem c171_53 : (zT 171)[37]? = some (53, z_gR 12 26) := rfl
theorem c171_56 : (zT 171)[38]? = some (56, z_ic 10 2) := rfl
theorem c171_58 : (zT 171)[39]? = some (58, z_il 1 1) := rfl
theorem c171_59 : (zT 171)[40]? = some (59, z_imul) := rfl
theorem c171_60 : (zT 171)[41]? = some (60, z_il 3 1) := rfl
theorem c171_61 : (zT 171)[42]? = some (61, z_iadd) := rfl
theorem c171_62 : (zT 171)[43]? = some (62, z_iald 20) := rfl
theorem c171_63 : (zT 171)[44]? = some (63, z_iast) := rfl
theorem c171_64 : (zT 171)[45]? = some (64, z_al 0 1) := rfl
theorem c171_65 : (zT 171)[46]? = some (65, z_gR 12 27) := rfl
theorem c171_68 : (zT 171)[47]? = some (68, z_ic 10 2) := rfl
theorem c171_70 : (zT 171)[48]? = some (70, z_il 2 1) := rfl
theorem c171_71 : (zT 171)[49]? = some (71, z_imul) := rfl
theorem c171_72 : (zT 171)[50]? = some (72, z_il 3 1) := rfl
theorem c171_73 : (zT 171)[51]? = some (73, z_iadd) := rfl
theorem c171_74 : (zT 171)[52]? = some (74, z_al 0 1) := rfl
theorem c171_75 : (zT 171)[53]? = some (75, z_gR 12 27) := rfl
theorem c171_78 : (zT 171)[54]? = some (78, z_ic 10 2) := rfl
theorem c171_80 : (zT 171)[55]? = some (80, z_il 1 1) := rfl
theorem c171_81 : (zT 171)[56]? = some (81, z_imul) := rfl
theorem c171_82 : (zT 171)[57]? = some (82, z_il 3 1) := rfl
theorem c171_83 : (zT 171)[58]? = some (83, z_iadd) := rfl
theorem c171_84 : (zT 171)[59]? = some (84, z_iald 20) := rfl
theorem c171_85 : (zT 171)[60]? = some (85, z_iast) := rfl
theorem c171_86 : (zT 171)[61]? = some (86, z_al 0 1) := rfl
theorem c171_87 : (zT 171)[62]? = some (87, z_gR 12 28) := rfl
theorem c171_90 : (zT 171)[63]? = some (90, z_ic 10 2) := rfl
theorem c171_92 : (zT 171)[64]? = some (92, z_il 2 1) := rfl
theorem c171_93 : (zT 171)[65]? = some (93, z_imul) := rfl
theorem c171_94 : (zT 171)[66]? = some (94, z_il 3 1) := rfl
theorem c171_95 : (zT 171)[67]? = some (95, z_iadd) := rfl
theorem c171_96 : (zT 171)[68]? = some (96, z_al 0 1) := rfl
theorem c171_97 : (zT 171)[69]? = some (97, z_gR 12 28) := rfl
theorem c171_100 : (zT 171)[70]? = some (100, z_ic 10 2) := rfl
theorem c171_102 : (zT 171)[71]? = some (102, z_il 1 1) := rfl
theorem c171_103 : (zT 171)[72]? = some (103, z_imul) := rfl
theorem c171_104 : (zT 171)[73]? = some (104, z_il 3 1) := rfl
theorem c171_105 : (zT 171)[74]? = some (105, z_iadd) := rfl
theorem c171_106 : (zT 171)[75]? = some (106, z_iald 20) := rfl
theorem c171_107 : (zT 171)[76]? = some (107, z_iast) := rfl
theorem c171_108 : (zT 171)[77]? = some (108, z_inc 3 1) := rfl
theorem c171_111 : (zT 171)[78]? = some (111, z_goto 14) := rfl
theorem c171_114 : (zT 171)[79]? = some (114, z_vr) := rfl
theorem c172_0 : (zT 172)[0]? = some (0, z_al 0 1) := rfl
theorem c172_1 : (zT 172)[1]? = some (1, z_gI 12 29) := rfl
theorem c172_4 : (zT 172)[2]? = some (4, z_ic 2 1) := rfl
theorem c172_5 : (zT 172)[3]? = some (5, z_ine 11) := rfl
theorem c172_8 : (zT 172)[4]? = some (8, z_ic (-3) 2) := rfl
theorem c172_10 : (zT 172)[5]? = some (10, z_ir) := rfl
theorem c172_11 : (zT 172)[6]? = some (11, z_al 0 1) := rfl
theorem c172_12 : (zT 172)[7]? = some (12, z_dup) := rfl
theorem c172_13 : (zT 172)[8]? = some (13, z_gI 12 29) := rfl
theorem c172_16 : (zT 172)[9]? = some (16, z_ic 1 1) := rfl
theorem c172_17 : (zT 172)[10]? = some (17, z_iadd) := rfl
theorem c172_18 : (zT 172)[11]? = some (18, z_pI 12 29) := rfl
theorem c172_21 : (zT 172)[12]? = some (21, z_al 0 1) := rfl
theorem c172_22 : (zT 172)[13]? = some (22, z_ic 0 1) := rfl
theorem c172_23 : (zT 172)[14]? = some (23, z_al 0 1) := rfl
theorem c172_24 : (zT 172)[15]? = some (24, z_gI 12 29) := rfl
theorem c172_27 : (zT 172)[16]? = some (27, z_cV 12 171 4 2) := rfl
theorem c172_30 : (zT 172)[17]? = some (30, z_al 0 1) := rfl
theorem c172_31 : (zT 172)[18]? = some (31, z_gI 12 29) := rfl
theorem c172_34 : (zT 172)[19]? = some (34, z_ir) := rfl
theorem c173_0 : (zT 173)[0]? = some (0, z_al 0 1) := rfl
theorem c173_1 : (zT 173)[1]? = some (1, z_gI 12 29) := rfl
theorem c173_4 : (zT 173)[2]? = some (4, z_ifne 10) := rfl
theorem c173_7 : (zT 173)[3]? = some (7, z_ic (-2) 2) := rfl
theorem c173_9 : (zT 173)[4]? = some (9, z_ir) := rfl
theorem c173_10 : (zT 173)[5]? = some (10, z_al 0 1) := rfl
theorem c173_11 : (zT 173)[6]? = some (11, z_al 0 1) := rfl
theorem c173_12 : (zT 173)[7]? = some (12, z_gI 12 29) := rfl
theorem c173_15 : (zT 173)[8]? = some (15, z_ic 0 1) := rfl
theorem c173_16 : (zT 173)[9]? = some (16, z_cV 12 171 4 2) := rfl
theorem c173_19 : (zT 173)[10]? = some (19, z_al 0 1) := rfl
theorem c173_20 : (zT 173)[11]? = some (20, z_dup) := rfl
theorem c173_21 : (zT 173)[12]? = some (21, z_gI 12 29) := rfl
theorem c173_24 : (zT 173)[13]? = some (24, z_ic 1 1) := rfl
theorem c173_25 : (zT 173)[14]? = some (25, z_isub) := rfl
theorem c173_26 : (zT 173)[15]? = some (26, z_pI 12 29) := rfl
theorem c173_29 : (zT 173)[16]? = some (29, z_al 0 1) := rfl
theorem c173_30 : (zT 173)[17]? = some (30, z_gI 12 29) := rfl
theorem c173_33 : (zT 173)[18]? = some (33, z_ir) := rfl
theorem c174_0 : (zT 174)[0]? = some (0, z_il 1 1) := rfl
theorem c174_1 : (zT 174)[1]? = some (1, z_sw 67 [(0, 36), (1, 43), (2, 50), (3, 55), (4, 62)]) := rfl
theorem c174_36 : (zT 174)[2]? = some (36, z_al 0 1) := rfl
theorem c174_37 : (zT 174)[3]? = some (37, z_gR 12 2) := rfl
theorem c174_40 : (zT 174)[4]? = some (40, z_ic 0 1) := rfl
theorem c174_41 : (zT 174)[5]? = some (41, z_iald 20) := rfl
theorem c174_42 : (zT 174)[6]? = some (42, z_ir) := rfl
theorem c174_43 : (zT 174)[7]? = some (43, z_al 0 1) := rfl
theorem c174_44 : (zT 174)[8]? = some (44, z_gR 12 5) := rfl
theorem c174_47 : (zT 174)[9]? = some (47, z_ic 0 1) := rfl
theorem c174_48 : (zT 174)[10]? = some (48, z_iald 20) := rfl
theorem c174_49 : (zT 174)[11]? = some (49, z_ir) := rfl
theorem c174_50 : (zT 174)[12]? = some (50, z_al 0 1) := rfl
theorem c174_51 : (zT 174)[13]? = some (51, z_gI 12 0) := rfl
theorem c174_54 : (zT 174)[14]? = some (54, z_ir) := rfl
theorem c174_55 : (zT 174)[15]? = some (55, z_al 0 1) := rfl
theorem c174_56 : (zT 174)[16]? = some (56, z_gR 12 24) := rfl
theorem c174_59 : (zT 174)[17]? = some (59, z_ic 0 1) := rfl
theorem c174_60 : (zT 174)[18]? = some (60, z_iald 20) := rfl
theorem c174_61 : (zT 174)[19]? = some (61, z_ir) := rfl
theorem c174_62 : (zT 174)[20]? = some (62, z_al 0 1) := rfl
theorem c174_63 : (zT 174)[21]? = some (63, z_gI 12 29) := rfl
theorem c174_66 : (zT 174)[22]? = some (66, z_ir) := rfl
theorem c174_67 : (zT 174)[23]? = some (67, z_ic (-1) 1) := rfl
theorem c174_68 : (zT 174)[24]? = some (68, z_ir) := rfl
theorem c176_16 : (zT 176)[0]? = some (16, z_ic 0 1) := rfl
theorem c176_17 : (zT 176)[1]? = some (17, z_is 3 1) := rfl
theorem c176_18 : (zT 176)[2]? = some (18, z_il 3 1) := rfl
theorem c176_19 : (zT 176)[3]? = some (19, z_al 0 1) := rfl
theorem c176_20 : (zT 176)[4]? = some (20, z_alen 30) := rfl
theorem c176_21 : (zT 176)[5]? = some (21, z_ic 5 1) := rfl
theorem c176_22 : (zT 176)[6]? = some (22, z_isub) := rfl
theorem c176_23 : (zT 176)[7]? = some (23, z_igt 964) := rfl
theorem c176_26 : (zT 176)[8]? = some (26, z_al 0 1) := rfl
theorem c176_27 : (zT 176)[9]? = some (27, z_il 3 1) := rfl
theorem c176_28 : (zT 176)[10]? = some (28, z_iald 30) := rfl
theorem c176_29 : (zT 176)[11]? = some (29, z_ic 31 2) := rfl
theorem c176_31 : (zT 176)[12]? = some (31, z_iand) := rfl
theorem c176_32 : (zT 176)[13]? = some (32, z_sw 958 [(0, 160), (1, 223), (2, 236), (3, 249), (4, 262), (5, 295), (6, 338), (7, 391), (8, 434), (9, 487), (10, 520), (11, 553), (12, 566), (13, 619), (14, 632), (15, 656), (16, 690), (17, 703), (18, 737), (19, 770), (20, 794), (21, 817), (22, 830), (23, 863), (24, 886), (25, 909), (26, 922), (27, 935)]) := rfl
theorem c176_160 : (zT 176)[14]? = some (160, z_al 1 1) := rfl
theorem c176_161 : (zT 176)[15]? = some (161, z_al 0 1) := rfl
theorem c176_162 : (zT 176)[16]? = some (162, z_il 3 1) := rfl
theorem c176_163 : (zT 176)[17]? = some (163, z_ic 1 1) := rfl
theorem c176_164 : (zT 176)[18]? = some (164, z_iadd) := rfl
theorem c176_165 : (zT 176)[19]? = some (165, z_iald 30) := rfl
theorem c176_166 : (zT 176)[20]? = some (166, z_al 0 1) := rfl
theorem c176_167 : (zT 176)[21]? = some (167, z_il 3 1) := rfl
theorem c176_168 : (zT 176)[22]? = some (168, z_ic 2 1) := rfl
theorem c176_169 : (zT 176)[23]? = some (169, z_iadd) := rfl
theorem c176_170 : (zT 176)[24]? = some (170, z_iald 30) := rfl
theorem c176_171 : (zT 176)[25]? = some (171, z_i2l) := rfl
theorem c176_172 : (zT 176)[26]? = some (172, z_ic 32 2) := rfl
theorem c176_174 : (zT 176)[27]? = some (174, z_lshl) := rfl
theorem c176_175 : (zT 176)[28]? = some (175, z_al 0 1) := rfl
theorem c176_176 : (zT 176)[29]? = some (176, z_il 3 1) := rfl
theorem c176_177 : (zT 176)[30]? = some (177, z_ic 3 1) := rfl
theorem c176_178 : (zT 176)[31]? = some (178, z_iadd) := rfl
theorem c176_179 : (zT 176)[32]? = some (179, z_iald 30) := rfl
theorem c176_180 : (zT 176)[33]? = some (180, z_i2l) := rfl
theorem c176_181 : (zT 176)[34]? = some (181, z_lc 4294967295 3) := rfl
theorem c176_184 : (zT 176)[35]? = some (184, z_land) := rfl
theorem c176_185 : (zT 176)[36]? = some (185, z_lor) := rfl
theorem c176_186 : (zT 176)[37]? = some (186, z_cV 11 70 4 2) := rfl
theorem c176_189 : (zT 176)[38]? = some (189, z_al 2 1) := rfl
theorem c176_190 : (zT 176)[39]? = some (190, z_al 0 1) := rfl
theorem c176_191 : (zT 176)[40]? = some (191, z_il 3 1) := rfl
theorem c176_192 : (zT 176)[41]? = some (192, z_ic 1 1) := rfl
theorem c176_193 : (zT 176)[42]? = some (193, z_iadd) := rfl
theorem c176_194 : (zT 176)[43]? = some (194, z_iald 30) := rfl
theorem c176_195 : (zT 176)[44]? = some (195, z_al 0 1) := rfl
theorem c176_196 : (zT 176)[45]? = some (196, z_il 3 1) := rfl
theorem c176_197 : (zT 176)[46]? = some (197, z_ic 2 1) := rfl
theorem c176_198 : (zT 176)[47]? = some (198, z_iadd) := rfl
theorem c176_199 : (zT 176)[48]? = some (199, z_iald 30) := rfl
theorem c176_200 : (zT 176)[49]? = some (200, z_i2l) := rfl
theorem c176_201 : (zT 176)[50]? = some (201, z_ic 32 2) := rfl
theorem c176_203 : (zT 176)[51]? = some (203, z_lshl) := rfl
theorem c176_204 : (zT 176)[52]? = some (204, z_al 0 1) := rfl
theorem c176_205 : (zT 176)[53]? = some (205, z_il 3 1) := rfl
theorem c176_206 : (zT 176)[54]? = some (206, z_ic 3 1) := rfl
theorem c176_207 : (zT 176)[55]? = some (207, z_iadd) := rfl
theorem c176_208 : (zT 176)[56]? = some (208, z_iald 30) := rfl
theorem c176_209 : (zT 176)[57]? = some (209, z_i2l) := rfl
theorem c176_210 : (zT 176)[58]? = some (210, z_lc 4294967295 3) := rfl
theorem c176_213 : (zT 176)[59]? = some (213, z_land) := rfl
theorem c176_214 : (zT 176)[60]? = some (214, z_lor) := rfl
theorem c176_215 : (zT 176)[61]? = some (215, z_cV 12 110 5 2) := rfl
theorem c176_218 : (zT 176)[62]? = some (218, z_ieq 958) := rfl
theorem c176_221 : (zT 176)[63]? = some (221, z_ic 0 1) := rfl
theorem c176_222 : (zT 176)[64]? = some (222, z_zr) := rfl
theorem c176_223 : (zT 176)[65]? = some (223, z_al 1 1) := rfl
theorem c176_224 : (zT 176)[66]? = some (224, z_cV 11 71 2 0) := rfl
theorem c176_227 : (zT 176)[67]? = some (227, z_al 2 1) := rfl
theorem c176_228 : (zT 176)[68]? = some (228, z_cV 12 111 2 0) := rfl
theorem c176_231 : (zT 176)[69]? = some (231, z_ieq 958) := rfl
theorem c176_234 : (zT 176)[70]? = some (234, z_ic 0 1) := rfl
theorem c176_235 : (zT 176)[71]? = some (235, z_zr) := rfl
theorem c176_236 : (zT 176)[72]? = some (236, z_al 1 1) := rfl
theorem c176_237 : (zT 176)[73]? = some (237, z_cV 11 72 1 0) := rfl
theorem c176_240 : (zT 176)[74]? = some (240, z_al 2 1) := rfl
theorem c176_241 : (zT 176)[75]? = some (241, z_cV 12 123 1 0) := rfl
theorem c176_244 : (zT 176)[76]? = some (244, z_ieq 958) := rfl
theorem c176_247 : (zT 176)[77]? = some (247, z_ic 0 1) := rfl
theorem c176_248 : (zT 176)[78]? = some (248, z_zr) := rfl
theorem c176_249 : (zT 176)[79]? = some (249, z_al 1 1) := rfl
theorem c176_250 : (zT 176)[80]? = some (250, z_cV 11 73 2 0) := rfl
theorem c176_253 : (zT 176)[81]? = some (253, z_al 2 1) := rfl
theorem c176_254 : (zT 176)[82]? = some (254, z_cV 12 124 2 0) := rfl
theorem c176_257 : (zT 176)[83]? = some (257, z_ieq 958) := rfl
theorem c176_260 : (zT 176)[84]? = some (260, z_ic 0 1) := rfl
theorem c176_261 : (zT 176)[85]? = some (261, z_zr) := rfl
theorem c176_262 : (zT 176)[86]? = some (262, z_al 1 1) := rfl
theorem c176_263 : (zT 176)[87]? = some (263, z_al 0 1) := rfl
theorem c176_264 : (zT 176)[88]? = some (264, z_il 3 1) := rfl
theorem c176_265 : (zT 176)[89]? = some (265, z_ic 1 1) := rfl
theorem c176_266 : (zT 176)[90]? = some (266, z_iadd) := rfl
theorem c176_267 : (zT 176)[91]? = some (267, z_iald 30) := rfl
theorem c176_268 : (zT 176)[92]? = some (268, z_al 0 1) := rfl
theorem c176_269 : (zT 176)[93]? = some (269, z_il 3 1) := rfl
theorem c176_270 : (zT 176)[94]? = some (270, z_ic 2 1) := rfl
theorem c176_271 : (zT 176)[95]? = some (271, z_iadd) := rfl
theorem c176_272 : (zT 176)[96]? = some (272, z_iald 30) := rfl
theorem c176_273 : (zT 176)[97]? = some (273, z_cV 11 74 4 2) := rfl
theorem c176_276 : (zT 176)[98]? = some (276, z_al 2 1) := rfl
theorem c176_277 : (zT 176)[99]? = some (277, z_al 0 1) := rfl
theorem c176_278 : (zT 176)[100]? = some (278, z_il 3 1) := rfl
theorem c176_279 : (zT 176)[101]? = some (279, z_ic 1 1) := rfl
theorem c176_280 : (zT 176)[102]? = some (280, z_iadd) := rfl
theorem c176_281 : (zT 176)[103]? = some (281, z_iald 30) := rfl
theorem c176_282 : (zT 176)[104]? = some (282, z_al 0 1) := rfl
theorem c176_283 : (zT 176)[105]? = some (283, z_il 3 1) := rfl
theorem c176_284 : (zT 176)[106]? = some (284, z_ic 2 1) := rfl
theorem c176_285 : (zT 176)[107]? = some (285, z_iadd) := rfl
theorem c176_286 : (zT 176)[108]? = some (286, z_iald 30) := rfl
theorem c176_287 : (zT 176)[109]? = some (287, z_cV 12 129 3 2) := rfl
theorem c176_290 : (zT 176)[110]? = some (290, z_ieq 958) := rfl
theorem c176_293 : (zT 176)[111]? = some (293, z_ic 0 1) := rfl
theorem c176_294 : (zT 176)[112]? = some (294, z_zr) := rfl
theorem c176_295 : (zT 176)[113]? = some (295, z_al 1 1) := rfl
theorem c176_296 : (zT 176)[114]? = some (296, z_al 0 1) := rfl
theorem c176_297 : (zT 176)[115]? = some (297, z_il 3 1) := rfl
theorem c176_298 : (zT 176)[116]? = some (298, z_ic 1 1) := rfl
theorem c176_299 : (zT 176)[117]? = some (299, z_iadd) := rfl
theorem c176_300 : (zT 176)[118]? = some (300, z_iald 30) := rfl
theorem c176_301 : (zT 176)[119]? = some (301, z_al 0 1) := rfl
theorem c176_302 : (zT 176)[120]? = some (302, z_il 3 1) := rfl
theorem c176_303 : (zT 176)[121]? = some (303, z_ic 2 1) := rfl
theorem c176_304 : (zT 176)[122]? = some (304, z_iadd) := rfl
theorem c176_305 : (zT 176)[123]? = some (305, z_iald 30) := rfl
theorem c176_306 : (zT 176)[124]? = some (306, z_al 0 1) := rfl
theorem c176_307 : (zT 176)[125]? = some (307, z_il 3 1) := rfl
theorem c176_308 : (zT 176)[126]? = some (308, z_ic 3 1) := rfl
theorem c176_309 : (zT 176)[127]? = some (309, z_iadd) := rfl
theorem c176_310 : (zT 176)[128]? = some (310, z_iald 30) := rfl
theorem c176_311 : (zT 176)[129]? = some (311, z_cV 11 75 4 3) := rfl
theorem c176_314 : (zT 176)[130]? = some (314, z_al 2 1) := rfl
theorem c176_315 : (zT 176)[131]? = some (315, z_al 0 1) := rfl
theorem c176_316 : (zT 176)[132]? = some (316, z_il 3 1) := rfl
theorem c176_317 : (zT 176)[133]? = some (317, z_ic 1 1) := rfl
theorem c176_318 : (zT 176)[134]? = some (318, z_iadd) := rfl
theorem c176_319 : (zT 176)[135]? = some (319, z_iald 30) := rfl
theorem c176_320 : (zT 176)[136]? = some (320, z_al 0 1) := rfl
theorem c176_321 : (zT 176)[137]? = some (321, z_il 3 1) := rfl
theorem c176_322 : (zT 176)[138]? = some (322, z_ic 2 1) := rfl
theorem c176_323 : (zT 176)[139]? = some (323, z_iadd) := rfl
theorem c176_324 : (zT 176)[140]? = some (324, z_iald 30) := rfl
theorem c176_325 : (zT 176)[141]? = some (325, z_al 0 1) := rfl
theorem c176_326 : (zT 176)[142]? = some (326, z_il 3 1) := rfl
theorem c176_327 : (zT 176)[143]? = some (327, z_ic 3 1) := rfl
theorem c176_328 : (zT 176)[144]? = some (328, z_iadd) := rfl
theorem c176_329 : (zT 176)[145]? = some (329, z_iald 30) := rfl
theorem c176_330 : (zT 176)[146]? = some (330, z_cV 12 134 4 3) := rfl
theorem c176_333 : (zT 176)[147]? = some (333, z_ieq 958) := rfl
theorem c176_336 : (zT 176)[148]? = some (336, z_ic 0 1) := rfl
theorem c176_337 : (zT 176)[149]? = some (337, z_zr) := rfl
theorem c176_338 : (zT 176)[150]? = some (338, z_al 1 1) := rfl
theorem c176_339 : (zT 176)[151]? = some (339, z_al 0 1) := rfl
theorem c176_340 : (zT 176)[152]? = some (340, z_il 3 1) := rfl
theorem c176_341 : (zT 176)[153]? = some (341, z_ic 1 1) := rfl
theorem c176_342 : (zT 176)[154]? = some (342, z_iadd) := rfl
theorem c176_343 : (zT 176)[155]? = some (343, z_iald 30) := rfl
theorem c176_344 : (zT 176)[156]? = some (344, z_al 0 1) := rfl
theorem c176_345 : (zT 176)[157]? = some (345, z_il 3 1) := rfl
theorem c176_346 : (zT 176)[158]? = some (346, z_ic 2 1) := rfl
theorem c176_347 : (zT 176)[159]? = some (347, z_iadd) := rfl
theorem c176_348 : (zT 176)[160]? = some (348, z_iald 30) := rfl
theorem c176_349 : (zT 176)[161]? = some (349, z_al 0 1) := rfl
theorem c176_350 : (zT 176)[162]? = some (350, z_il 3 1) := rfl
theorem c176_351 : (zT 176)[163]? = some (351, z_ic 3 1) := rfl
theorem c176_352 : (zT 176)[164]? = some (352, z_iadd) := rfl
theorem c176_353 : (zT 176)[165]? = some (353, z_iald 30) := rfl
theorem c176_354 : (zT 176)[166]? = some (354, z_al 0 1) := rfl
theorem c176_355 : (zT 176)[167]? = some (355, z_il 3 1) := rfl
theorem c176_356 : (zT 176)[168]? = some (356, z_ic 4 1) := rfl
theorem c176_357 : (zT 176)[169]? = some (357, z_iadd) := rfl
theorem c176_358 : (zT 176)[170]? = some (358, z_iald 30) := rfl
theorem c176_359 : (zT 176)[171]? = some (359, z_cV 11 76 5 4) := rfl
theorem c176_362 : (zT 176)[172]? = some (362, z_al 2 1) := rfl
theorem c176_363 : (zT 176)[173]? = some (363, z_al 0 1) := rfl
theorem c176_364 : (zT 176)[174]? = some (364, z_il 3 1) := rfl
theorem c176_365 : (zT 176)[175]? = some (365, z_ic 1 1) := rfl
theorem c176_366 : (zT 176)[176]? = some (366, z_iadd) := rfl
theorem c176_367 : (zT 176)[177]? = some (367, z_iald 30) := rfl
theorem c176_368 : (zT 176)[178]? = some (368, z_al 0 1) := rfl
theorem c176_369 : (zT 176)[179]? = some (369, z_il 3 1) := rfl
theorem c176_370 : (zT 176)[180]? = some (370, z_ic 2 1) := rfl
theorem c176_371 : (zT 176)[181]? = some (371, z_iadd) := rfl
theorem c176_372 : (zT 176)[182]? = some (372, z_iald 30) := rfl
theorem c176_373 : (zT 176)[183]? = some (373, z_al 0 1) := rfl
theorem c176_374 : (zT 176)[184]? = some (374, z_il 3 1) := rfl
theorem c176_375 : (zT 176)[185]? = some (375, z_ic 3 1) := rfl
theorem c176_376 : (zT 176)[186]? = some (376, z_iadd) := rfl
theorem c176_377 : (zT 176)[187]? = some (377, z_iald 30) := rfl
theorem c176_378 : (zT 176)[188]? = some (378, z_al 0 1) := rfl
theorem c176_379 : (zT 176)[189]? = some (379, z_il 3 1) := rfl
theorem c176_380 : (zT 176)[190]? = some (380, z_ic 4 1) := rfl
theorem c176_381 : (zT 176)[191]? = some (381, z_iadd) := rfl
theorem c176_382 : (zT 176)[192]? = some (382, z_iald 30) := rfl
theorem c176_383 : (zT 176)[193]? = some (383, z_cV 12 135 5 4) := rfl
theorem c176_386 : (zT 176)[194]? = some (386, z_ieq 958) := rfl
theorem c176_389 : (zT 176)[195]? = some (389, z_ic 0 1) := rfl
theorem c176_390 : (zT 176)[196]? = some (390, z_zr) := rfl
theorem c176_391 : (zT 176)[197]? = some (391, z_al 1 1) := rfl
theorem c176_392 : (zT 176)[198]? = some (392, z_al 0 1) := rfl
theorem c176_393 : (zT 176)[199]? = some (393, z_il 3 1) := rfl
theorem c176_394 : (zT 176)[200]? = some (394, z_ic 1 1) := rfl
theorem c176_395 : (zT 176)[201]? = some (395, z_iadd) := rfl
theorem c176_396 : (zT 176)[202]? = some (396, z_iald 30) := rfl
theorem c176_397 : (zT 176)[203]? = some (397, z_al 0 1) := rfl
theorem c176_398 : (zT 176)[204]? = some (398, z_il 3 1) := rfl
theorem c176_399 : (zT 176)[205]? = some (399, z_ic 2 1) := rfl
theorem c176_400 : (zT 176)[206]? = some (400, z_iadd) := rfl
theorem c176_401 : (zT 176)[207]? = some (401, z_iald 30) := rfl
theorem c176_402 : (zT 176)[208]? = some (402, z_al 0 1) := rfl
theorem c176_403 : (zT 176)[209]? = some (403, z_il 3 1) := rfl
theorem c176_404 : (zT 176)[210]? = some (404, z_ic 3 1) := rfl
theorem c176_405 : (zT 176)[211]? = some (405, z_iadd) := rfl
theorem c176_406 : (zT 176)[212]? = some (406, z_iald 30) := rfl
theorem c176_407 : (zT 176)[213]? = some (407, z_cV 11 77 4 3) := rfl
theorem c176_410 : (zT 176)[214]? = some (410, z_al 2 1) := rfl
theorem c176_411 : (zT 176)[215]? = some (411, z_al 0 1) := rfl
theorem c176_412 : (zT 176)[216]? = some (412, z_il 3 1) := rfl
theorem c176_413 : (zT 176)[217]? = some (413, z_ic 1 1) := rfl
theorem c176_414 : (zT 176)[218]? = some (414, z_iadd) := rfl
theorem c176_415 : (zT 176)[219]? = some (415, z_iald 30) := rfl
theorem c176_416 : (zT 176)[220]? = some (416, z_al 0 1) := rfl
theorem c176_417 : (zT 176)[221]? = some (417, z_il 3 1) := rfl
theorem c176_418 : (zT 176)[222]? = some (418, z_ic 2 1) := rfl
theorem c176_419 : (zT 176)[223]? = some (419, z_iadd) := rfl
theorem c176_420 : (zT 176)[224]? = some (420, z_iald 30) := rfl
theorem c176_421 : (zT 176)[225]? = some (421, z_al 0 1) := rfl
theorem c176_422 : (zT 176)[226]? = some (422, z_il 3 1) := rfl
theorem c176_423 : (zT 176)[227]? = some (423, z_ic 3 1) := rfl
theorem c176_424 : (zT 176)[228]? = some (424, z_iadd) := rfl
theorem c176_425 : (zT 176)[229]? = some (425, z_iald 30) := rfl
set_option maxRecDepth 100000 in
theorem c176_426 : (zT 176)[230]? = some (426, z_cV 12 136 6 3) := rfl
set_option maxRecDepth 100000 in
theorem c176_429 : (zT 176)[231]? = some (429, z_ieq 958) := rfl
set_option maxRecDepth 100000 in
theorem c176_432 : (zT 176)[232]? = some (432, z_ic 0 1) := rfl
set_option maxRecDepth 100000 in
theorem c176_433 : (zT 176)[233]? = some (433, z_zr) := rfl
set_option maxRecDepth 100000 in
theorem c176_434 : (zT 176)[234]? = some (434, z_al 1 1) := rfl
set_option maxRecDepth 100000 in
theorem c176_435 : (zT 176)[235]? = some (435, z_al 0 1) := rfl
set_option maxRecDepth 100000 in
theorem c176_436 : (zT 176)[236]? = some (436, z_il 3 1) := rfl
set_option maxRecDepth 100000 in
theorem c176_437 : (zT 176)[237]? = some (437, z_ic 1 1) := rfl
set_option maxRecDepth 100000 in
theorem c176_438 : (zT 176)[238]? = some (438, z_iadd) := rfl
set_option maxRecDepth 100000 in
theorem c176_439 : (zT 176)[239]? = some (439, z_iald 30) := rfl
set_option maxRecDepth 100000 in
theorem c176_440 : (zT 176)[240]? = some (440, z_al 0 1) := rfl
set_option maxRecDepth 100000 in
theorem c176_441 : (zT 176)[241]? = some (441, z_il 3 1) := rfl
set_option maxRecDepth 100000 in
theorem c176_442 : (zT 176)[242]? = some (442, z_ic 2 1) := rfl
set_option maxRecDepth 100000 in
theorem c176_443 : (zT 176)[243]? = some (443, z_iadd) := rfl
set_option maxRecDepth 100000 in
theorem c176_444 : (zT 176)[244]? = some (444, z_iald 30) := rfl
set_option maxRecDepth 100000 in
theorem c176_445 : (zT 176)[245]? = some (445, z_al 0 1) := rfl
set_option maxRecDepth 100000 in
theorem c176_446 : (zT 176)[246]? = some (446, z_il 3 1) := rfl
set_option maxRecDepth 100000 in
theorem c176_447 : (zT 176)[247]? = some (447, z_ic 3 1) := rfl
set_option maxRecDepth 100000 in
theorem c176_448 : (zT 176)[248]? = some (448, z_iadd) := rfl
set_option maxRecDepth 100000 in
theorem c176_449 : (zT 176)[249]? = some (449, z_iald 30) := rfl
set_option maxRecDepth 100000 in
theorem c176_450 : (zT 176)[250]? = some (450, z_al 0 1) := rfl
set_option maxRecDepth 100000 in
theorem c176_451 : (zT 176)[251]? = some (451, z_il 3 1) := rfl
set_option maxRecDepth 100000 in
theorem c176_452 : (zT 176)[252]? = some (452, z_ic 4 1) := rfl
set_option maxRecDepth 100000 in
theorem c176_453 : (zT 176)[253]? = some (453, z_iadd) := rfl
set_option maxRecDepth 100000 in
theorem c176_454 : (zT 176)[254]? = some (454, z_iald 30) := rfl
set_option maxRecDepth 100000 in
theorem c176_455 : (zT 176)[255]? = some (455, z_cV 11 78 5 4) := rfl
set_option maxRecDepth 100000 in
theorem c176_458 : (zT 176)[256]? = some (458, z_al 2 1) := rfl
set_option maxRecDepth 100000 in
theorem c176_459 : (zT 176)[257]? = some (459, z_al 0 1) := rfl
set_option maxRecDepth 100000 in
theorem c176_460 : (zT 176)[258]? = some (460, z_il 3 1) := rfl
set_option maxRecDepth 100000 in
theorem c176_461 : (zT 176)[259]? = some (461, z_ic 1 1) := rfl
set_option maxRecDepth 100000 in
theorem c176_462 : (zT 176)[260]? = some (462, z_iadd) := rfl
set_option maxRecDepth 100000 in
theorem c176_463 : (zT 176)[261]? = some (463, z_iald 30) := rfl
set_option maxRecDepth 100000 in
theorem c176_464 : (zT 176)[262]? = some (464, z_al 0 1) := rfl
set_option maxRecDepth 100000 in
theorem c176_465 : (zT 176)[263]? = some (465, z_il 3 1) := rfl
set_option maxRecDepth 100000 in
theorem c176_466 : (zT 176)[264]? = some (466, z_ic 2 1) := rfl
set_option maxRecDepth 100000 in
theorem c176_467 : (zT 176)[265]? = some (467, z_iadd) := rfl
set_option maxRecDepth 100000 in
theorem c176_468 : (zT 176)[266]? = some (468, z_iald 30) := rfl
set_option maxRecDepth 100000 in
theorem c176_469 : (zT 176)[267]? = some (469, z_al 0 1) := rfl
set_option maxRecDepth 100000 in
theorem c176_470 : (zT 176)[268]? = some (470, z_il 3 1) := rfl
set_option maxRecDepth 100000 in
theorem c176_471 : (zT 176)[269]? = some (471, z_ic 3 1) := rfl
set_option maxRecDepth 100000 in
theorem c176_472 : (zT 176)[270]? = some (472, z_iadd) := rfl
set_option maxRecDepth 100000 in
theorem c176_473 : (zT 176)[271]? = some (473, z_iald 30) := rfl
set_option maxRecDepth 100000 in
theorem c176_474 : (zT 176)[272]? = some (474, z_al 0 1) := rfl
set_option maxRecDepth 100000 in
theorem c176_475 : (zT 176)[273]? = some (475, z_il 3 1) := rfl
set_option maxRecDepth 100000 in
theorem c176_476 : (zT 176)[274]? = some (476, z_ic 4 1) := rfl
set_option maxRecDepth 100000 in
theorem c176_477 : (zT 176)[275]? = some (477, z_iadd) := rfl
set_option maxRecDepth 100000 in
theorem c176_478 : (zT 176)[276]? = some (478, z_iald 30) := rfl
set_option maxRecDepth 100000 in
theorem c176_479 : (zT 176)[277]? = some (479, z_cV 12 139 5 4) := rfl
set_option maxRecDepth 100000 in
theorem c176_482 : (zT 176)[278]? = some (482, z_ieq 958) := rfl
set_option maxRecDepth 100000 in
theorem c176_485 : (zT 176)[279]? = some (485, z_ic 0 1) := rfl
set_option maxRecDepth 100000 in
theorem c176_486 : (zT 176)[280]? = some (486, z_zr) := rfl
set_option maxRecDepth 100000 in
theorem c176_487 : (zT 176)[281]? = some (487, z_al 1 1) := rfl
set_option maxRecDepth 100000 in
theorem c176_488 : (zT 176)[282]? = some (488, z_al 0 1) := rfl
set_option maxRecDepth 100000 in
theorem c176_489 : (zT 176)[283]? = some (489, z_il 3 1) := rfl
set_option maxRecDepth 100000 in
theorem c176_490 : (zT 176)[284]? = some (490, z_ic 1 1) := rfl
set_option maxRecDepth 100000 in
theorem c176_491 : (zT 176)[285]? = some (491, z_iadd) := rfl
set_option maxRecDepth 100000 in
theorem c176_492 : (zT 176)[286]? = some (492, z_iald 30) := rfl
set_option maxRecDepth 100000 in
theorem c176_493 : (zT 176)[287]? = some (493, z_al 0 1) := rfl
set_option maxRecDepth 100000 in
theorem c176_494 : (zT 176)[288]? = some (494, z_il 3 1) := rfl
set_option maxRecDepth 100000 in
theorem c176_495 : (zT 176)[289]? = some (495, z_ic 2 1) := rfl
set_option maxRecDepth 100000 in
theorem c176_496 : (zT 176)[290]? = some (496, z_iadd) := rfl
set_option maxRecDepth 100000 in
theorem c176_497 : (zT 176)[291]? = some (497, z_iald 30) := rfl
set_option maxRecDepth 100000 in
theorem c176_498 : (zT 176)[292]? = some (498, z_cV 11 79 3 2) := rfl
set_option maxRecDepth 100000 in
theorem c176_501 : (zT 176)[293]? = some (501, z_al 2 1) := rfl
set_option maxRecDepth 100000 in
theorem c176_502 : (zT 176)[294]? = some (502, z_al 0 1) := rfl
set_option maxRecDepth 100000 in
theorem c176_503 : (zT 176)[295]? = some (503, z_il 3 1) := rfl
set_option maxRecDepth 100000 in
theorem c176_504 : (zT 176)[296]? = some (504, z_ic 1 1) := rfl
set_option maxRecDepth 100000 in
theorem c176_505 : (zT 176)[297]? = some (505, z_iadd) := rfl
set_option maxRecDepth 100000 in
theorem c176_506 : (zT 176)[298]? = some (506, z_iald 30) := rfl
set_option maxRecDepth 100000 in
theorem c176_507 : (zT 176)[299]? = some (507, z_al 0 1) := rfl
set_option maxRecDepth 100000 in
theorem c176_508 : (zT 176)[300]? = some (508, z_il 3 1) := rfl
set_option maxRecDepth 100000 in
theorem c176_509 : (zT 176)[301]? = some (509, z_ic 2 1) := rfl
set_option maxRecDepth 100000 in
theorem c176_510 : (zT 176)[302]? = some (510, z_iadd) := rfl
set_option maxRecDepth 100000 in
theorem c176_511 : (zT 176)[303]? = some (511, z_iald 30) := rfl
set_option maxRecDepth 100000 in
theorem c176_512 : (zT 176)[304]? = some (512, z_cV 12 141 3 2) := rfl
set_option maxRecDepth 100000 in
theorem c176_515 : (zT 176)[305]? = some (515, z_ieq 958) := rfl
set_option maxRecDepth 100000 in
theorem c176_518 : (zT 176)[306]? = some (518, z_ic 0 1) := rfl
set_option maxRecDepth 100000 in
theorem c176_519 : (zT 176)[307]? = some (519, z_zr) := rfl
set_option maxRecDepth 100000 in
theorem c176_520 : (zT 176)[308]? = some (520, z_al 1 1) := rfl
set_option maxRecDepth 100000 in
theorem c176_521 : (zT 176)[309]? = some (521, z_al 0 1) := rfl
set_option maxRecDepth 100000 in
theorem c176_522 : (zT 176)[310]? = some (522, z_il 3 1) := rfl
set_option maxRecDepth 100000 in
theorem c176_523 : (zT 176)[311]? = some (523, z_ic 1 1) := rfl
set_option maxRecDepth 100000 in
theorem c176_524 : (zT 176)[312]? = some (524, z_iadd) := rfl
set_option maxRecDepth 100000 in
theorem c176_525 : (zT 176)[313]? = some (525, z_iald 30) := rfl
set_option maxRecDepth 100000 in
theorem c176_526 : (zT 176)[314]? = some (526, z_al 0 1) := rfl
set_option maxRecDepth 100000 in
theorem c176_527 : (zT 176)[315]? = some (527, z_il 3 1) := rfl
set_option maxRecDepth 100000 in
theorem c176_528 : (zT 176)[316]? = some (528, z_ic 2 1) := rfl
set_option maxRecDepth 100000 in
theorem c176_529 : (zT 176)[317]? = some (529, z_iadd) := rfl
set_option maxRecDepth 100000 in
theorem c176_530 : (zT 176)[318]? = some (530, z_iald 30) := rfl
set_option maxRecDepth 100000 in
theorem c176_531 : (zT 176)[319]? = some (531, z_cV 11 80 3 2) := rfl
set_option maxRecDepth 100000 in
theorem c176_534 : (zT 176)[320]? = some (534, z_al 2 1) := rfl
set_option maxRecDepth 100000 in
theorem c176_535 : (zT 176)[321]? = some (535, z_al 0 1) := rfl
set_option maxRecDepth 100000 in
theorem c176_536 : (zT 176)[322]? = some (536, z_il 3 1) := rfl
set_option maxRecDepth 100000 in
theorem c176_537 : (zT 176)[323]? = some (537, z_ic 1 1) := rfl
set_option maxRecDepth 100000 in
theorem c176_538 : (zT 176)[324]? = some (538, z_iadd) := rfl
set_option maxRecDepth 100000 in
theorem c176_539 : (zT 176)[325]? = some (539, z_iald 30) := rfl
set_option maxRecDepth 100000 in
theorem c176_540 : (zT 176)[326]? = some (540, z_al 0 1) := rfl
set_option maxRecDepth 100000 in
theorem c176_541 : (zT 176)[327]? = some (541, z_il 3 1) := rfl
set_option maxRecDepth 100000 in
theorem c176_542 : (zT 176)[328]? = some (542, z_ic 2 1) := rfl
set_option maxRecDepth 100000 in
theorem c176_543 : (zT 176)[329]? = some (543, z_iadd) := rfl
set_option maxRecDepth 100000 in
theorem c176_544 : (zT 176)[330]? = some (544, z_iald 30) := rfl
set_option maxRecDepth 100000 in
theorem c176_545 : (zT 176)[331]? = some (545, z_cV 12 143 3 2) := rfl
set_option maxRecDepth 100000 in
theorem c176_548 : (zT 176)[332]? = some (548, z_ieq 958) := rfl
set_option maxRecDepth 100000 in
theorem c176_551 : (zT 176)[333]? = some (551, z_ic 0 1) := rfl
set_option maxRecDepth 100000 in
theorem c176_552 : (zT 176)[334]? = some (552, z_zr) := rfl
set_option maxRecDepth 100000 in
theorem c176_553 : (zT 176)[335]? = some (553, z_al 1 1) := rfl
set_option maxRecDepth 100000 in
theorem c176_554 : (zT 176)[336]? = some (554, z_cV 11 81 1 0) := rfl
set_option maxRecDepth 100000 in
theorem c176_557 : (zT 176)[337]? = some (557, z_al 2 1) := rfl
set_option maxRecDepth 100000 in
theorem c176_558 : (zT 176)[338]? = some (558, z_cV 12 144 4 0) := rfl
set_option maxRecDepth 100000 in
theorem c176_561 : (zT 176)[339]? = some (561, z_ieq 958) := rfl
set_option maxRecDepth 100000 in
theorem c176_564 : (zT 176)[340]? = some (564, z_ic 0 1) := rfl
set_option maxRecDepth 100000 in
theorem c176_565 : (zT 176)[341]? = some (565, z_zr) := rfl
set_option maxRecDepth 100000 in
theorem c176_566 : (zT 176)[342]? = some (566, z_al 1 1) := rfl
set_option maxRecDepth 100000 in
theorem c176_567 : (zT 176)[343]? = some (567, z_al 0 1) := rfl
set_option maxRecDepth 100000 in
theorem c176_568 : (zT 176)[344]? = some (568, z_il 3 1) := rfl
set_option maxRecDepth 100000 in
theorem c176_569 : (zT 176)[345]? = some (569, z_ic 1 1) := rfl
set_option maxRecDepth 100000 in
theorem c176_570 : (zT 176)[346]? = some (570, z_iadd) := rfl
set_option maxRecDepth 100000 in
theorem c176_571 : (zT 176)[347]? = some (571, z_iald 30) := rfl
set_option maxRecDepth 100000 in
theorem c176_572 : (zT 176)[348]? = some (572, z_al 0 1) := rfl
set_option maxRecDepth 100000 in
theorem c176_573 : (zT 176)[349]? = some (573, z_il 3 1) := rfl
set_option maxRecDepth 100000 in
theorem c176_574 : (zT 176)[350]? = some (574, z_ic 2 1) := rfl
set_option maxRecDepth 100000 in
theorem c176_575 : (zT 176)[351]? = some (575, z_iadd) := rfl
set_option maxRecDepth 100000 in
theorem c176_576 : (zT 176)[352]? = some (576, z_iald 30) := rfl
set_option maxRecDepth 100000 in
theorem c176_577 : (zT 176)[353]? = some (577, z_al 0 1) := rfl
set_option maxRecDepth 100000 in
theorem c176_578 : (zT 176)[354]? = some (578, z_il 3 1) := rfl
set_option maxRecDepth 100000 in
theorem c176_579 : (zT 176)[355]? = some (579, z_ic 3 1) := rfl
set_option maxRecDepth 100000 in
theorem c176_580 : (zT 176)[356]? = some (580, z_iadd) := rfl
set_option maxRecDepth 100000 in
theorem c176_581 : (zT 176)[357]? = some (581, z_iald 30) := rfl
set_option maxRecDepth 100000 in
theorem c176_582 : (zT 176)[358]? = some (582, z_al 0 1) := rfl
set_option maxRecDepth 100000 in
theorem c176_583 : (zT 176)[359]? = some (583, z_il 3 1) := rfl
set_option maxRecDepth 100000 in
theorem c176_584 : (zT 176)[360]? = some (584, z_ic 4 1) := rfl
set_option maxRecDepth 100000 in
theorem c176_585 : (zT 176)[361]? = some (585, z_iadd) := rfl
set_option maxRecDepth 100000 in
theorem c176_586 : (zT 176)[362]? = some (586, z_iald 30) := rfl
set_option maxRecDepth 100000 in
theorem c176_587 : (zT 176)[363]? = some (587, z_cV 11 82 5 4) := rfl
set_option maxRecDepth 100000 in
theorem c176_590 : (zT 176)[364]? = some (590, z_al 2 1) := rfl
set_option maxRecDepth 100000 in
theorem c176_591 : (zT 176)[365]? = some (591, z_al 0 1) := rfl
set_option maxRecDepth 100000 in
theorem c176_592 : (zT 176)[366]? = some (592, z_il 3 1) := rfl
set_option maxRecDepth 100000 in
theorem c176_593 : (zT 176)[367]? = some (593, z_ic 1 1) := rfl
set_option maxRecDepth 100000 in
theorem c176_594 : (zT 176)[368]? = some (594, z_iadd) := rfl
set_option maxRecDepth 100000 in
theorem c176_595 : (zT 176)[369]? = some (595, z_iald 30) := rfl
set_option maxRecDepth 100000 in
theorem c176_596 : (zT 176)[370]? = some (596, z_al 0 1) := rfl
set_option maxRecDepth 100000 in
theorem c176_597 : (zT 176)[371]? = some (597, z_il 3 1) := rfl
set_option maxRecDepth 100000 in
theorem c176_598 : (zT 176)[372]? = some (598, z_ic 2 1) := rfl
set_option maxRecDepth 100000 in
theorem c176_599 : (zT 176)[373]? = some (599, z_iadd) := rfl
set_option maxRecDepth 100000 in
theorem c176_600 : (zT 176)[374]? = some (600, z_iald 30) := rfl
set_option maxRecDepth 100000 in
theorem c176_601 : (zT 176)[375]? = some (601, z_al 0 1) := rfl
set_option maxRecDepth 100000 in
theorem c176_602 : (zT 176)[376]? = some (602, z_il 3 1) := rfl
set_option maxRecDepth 100000 in
theorem c176_603 : (zT 176)[377]? = some (603, z_ic 3 1) := rfl
set_option maxRecDepth 100000 in
theorem c176_604 : (zT 176)[378]? = some (604, z_iadd) := rfl
set_option maxRecDepth 100000 in
theorem c176_605 : (zT 176)[379]? = some (605, z_iald 30) := rfl
set_option maxRecDepth 100000 in
theorem c176_606 : (zT 176)[380]? = some (606, z_al 0 1) := rfl
set_option maxRecDepth 100000 in
theorem c176_607 : (zT 176)[381]? = some (607, z_il 3 1) := rfl
set_option maxRecDepth 100000 in
theorem c176_608 : (zT 176)[382]? = some (608, z_ic 4 1) := rfl
set_option maxRecDepth 100000 in
theorem c176_609 : (zT 176)[383]? = some (609, z_iadd) := rfl
set_option maxRecDepth 100000 in
theorem c176_610 : (zT 176)[384]? = some (610, z_iald 30) := rfl
set_option maxRecDepth 100000 in
theorem c176_611 : (zT 176)[385]? = some (611, z_cV 12 150 6 4) := rfl
set_option maxRecDepth 100000 in
theorem c176_614 : (zT 176)[386]? = some (614, z_ieq 958) := rfl
set_option maxRecDepth 100000 in
theorem c176_617 : (zT 176)[387]? = some (617, z_ic 0 1) := rfl
set_option maxRecDepth 100000 in
theorem c176_618 : (zT 176)[388]? = some (618, z_zr) := rfl
set_option maxRecDepth 100000 in
theorem c176_619 : (zT 176)[389]? = some (619, z_al 1 1) := rfl
set_option maxRecDepth 100000 in
theorem c176_620 : (zT 176)[390]? = some (620, z_cV 11 83 2 0) := rfl
set_option maxRecDepth 100000 in
theorem c176_623 : (zT 176)[391]? = some (623, z_al 2 1) := rfl
set_option maxRecDepth 100000 in
theorem c176_624 : (zT 176)[392]? = some (624, z_cV 12 151 2 0) := rfl
set_option maxRecDepth 100000 in
theorem c176_627 : (zT 176)[393]? = some (627, z_ieq 958) := rfl
set_option maxRecDepth 100000 in
theorem c176_630 : (zT 176)[394]? = some (630, z_ic 0 1) := rfl
set_option maxRecDepth 100000 in
theorem c176_631 : (zT 176)[395]? = some (631, z_zr) := rfl
set_option maxRecDepth 100000 in
theorem c176_632 : (zT 176)[396]? = some (632, z_al 1 1) := rfl
set_option maxRecDepth 100000 in
theorem c176_633 : (zT 176)[397]? = some (633, z_al 0 1) := rfl
set_option maxRecDepth 100000 in
theorem c176_634 : (zT 176)[398]? = some (634, z_il 3 1) := rfl
set_option maxRecDepth 100000 in
theorem c176_635 : (zT 176)[399]? = some (635, z_ic 1 1) := rfl
set_option maxRecDepth 100000 in
theorem c176_636 : (zT 176)[400]? = some (636, z_iadd) := rfl
set_option maxRecDepth 100000 in
theorem c176_637 : (zT 176)[401]? = some (637, z_iald 30) := rfl
set_option maxRecDepth 100000 in
theorem c176_638 : (zT 176)[402]? = some (638, z_cV 11 84 2 1) := rfl
set_option maxRecDepth 100000 in
theorem c176_641 : (zT 176)[403]? = some (641, z_al 2 1) := rfl
set_option maxRecDepth 100000 in
theorem c176_642 : (zT 176)[404]? = some (642, z_al 0 1) := rfl
set_option maxRecDepth 100000 in
theorem c176_643 : (zT 176)[405]? = some (643, z_il 3 1) := rfl
set_option maxRecDepth 100000 in
theorem c176_644 : (zT 176)[406]? = some (644, z_ic 1 1) := rfl
set_option maxRecDepth 100000 in
theorem c176_645 : (zT 176)[407]? = some (645, z_iadd) := rfl
set_option maxRecDepth 100000 in
theorem c176_646 : (zT 176)[408]? = some (646, z_iald 30) := rfl
set_option maxRecDepth 100000 in
theorem c176_647 : (zT 176)[409]? = some (647, z_cV 12 152 2 1) := rfl
set_option maxRecDepth 100000 in
theorem c176_650 : (zT 176)[410]? = some (650, z_lcmp) := rfl
set_option maxRecDepth 100000 in
theorem c176_651 : (zT 176)[411]? = some (651, z_ifeq 958) := rfl
set_option maxRecDepth 100000 in
theorem c176_654 : (zT 176)[412]? = some (654, z_ic 0 1) := rfl
set_option maxRecDepth 100000 in
theorem c176_655 : (zT 176)[413]? = some (655, z_zr) := rfl
set_option maxRecDepth 100000 in
theorem c176_656 : (zT 176)[414]? = some (656, z_al 1 1) := rfl
set_option maxRecDepth 100000 in
theorem c176_657 : (zT 176)[415]? = some (657, z_al 0 1) := rfl
set_option maxRecDepth 100000 in
theorem c176_658 : (zT 176)[416]? = some (658, z_il 3 1) := rfl
set_option maxRecDepth 100000 in
theorem c176_659 : (zT 176)[417]? = some (659, z_ic 1 1) := rfl
set_option maxRecDepth 100000 in
theorem c176_660 : (zT 176)[418]? = some (660, z_iadd) := rfl
set_option maxRecDepth 100000 in
theorem c176_661 : (zT 176)[419]? = some (661, z_iald 30) := rfl
set_option maxRecDepth 100000 in
theorem c176_662 : (zT 176)[420]? = some (662, z_al 0 1) := rfl
set_option maxRecDepth 100000 in
theorem c176_663 : (zT 176)[421]? = some (663, z_il 3 1) := rfl
set_option maxRecDepth 100000 in
theorem c176_664 : (zT 176)[422]? = some (664, z_ic 2 1) := rfl
set_option maxRecDepth 100000 in
theorem c176_665 : (zT 176)[423]? = some (665, z_iadd) := rfl
set_option maxRecDepth 100000 in
theorem c176_666 : (zT 176)[424]? = some (666, z_iald 30) := rfl
set_option maxRecDepth 100000 in
theorem c176_667 : (zT 176)[425]? = some (667, z_cV 11 85 9 2) := rfl
set_option maxRecDepth 100000 in
theorem c176_670 : (zT 176)[426]? = some (670, z_al 2 1) := rfl
set_option maxRecDepth 100000 in
theorem c176_671 : (zT 176)[427]? = some (671, z_al 0 1) := rfl
set_option maxRecDepth 100000 in
theorem c176_672 : (zT 176)[428]? = some (672, z_il 3 1) := rfl
set_option maxRecDepth 100000 in
theorem c176_673 : (zT 176)[429]? = some (673, z_ic 1 1) := rfl
set_option maxRecDepth 100000 in
theorem c176_674 : (zT 176)[430]? = some (674, z_iadd) := rfl
set_option maxRecDepth 100000 in
theorem c176_675 : (zT 176)[431]? = some (675, z_iald 30) := rfl
set_option maxRecDepth 100000 in
theorem c176_676 : (zT 176)[432]? = some (676, z_al 0 1) := rfl
set_option maxRecDepth 100000 in
theorem c176_677 : (zT 176)[433]? = some (677, z_il 3 1) := rfl
set_option maxRecDepth 100000 in
theorem c176_678 : (zT 176)[434]? = some (678, z_ic 2 1) := rfl
set_option maxRecDepth 100000 in
theorem c176_679 : (zT 176)[435]? = some (679, z_iadd) := rfl
set_option maxRecDepth 100000 in
theorem c176_680 : (zT 176)[436]? = some (680, z_iald 30) := rfl
set_option maxRecDepth 100000 in
theorem c176_681 : (zT 176)[437]? = some (681, z_cV 12 154 7 2) := rfl
set_option maxRecDepth 100000 in
theorem c176_684 : (zT 176)[438]? = some (684, z_lcmp) := rfl
set_option maxRecDepth 100000 in
theorem c176_685 : (zT 176)[439]? = some (685, z_ifeq 958) := rfl
set_option maxRecDepth 100000 in
theorem c176_688 : (zT 176)[440]? = some (688, z_ic 0 1) := rfl
set_option maxRecDepth 100000 in
theorem c176_689 : (zT 176)[441]? = some (689, z_zr) := rfl
set_option maxRecDepth 100000 in
theorem c176_690 : (zT 176)[442]? = some (690, z_al 1 1) := rfl
set_option maxRecDepth 100000 in
theorem c176_691 : (zT 176)[443]? = some (691, z_cV 11 86 1 0) := rfl
set_option maxRecDepth 100000 in
theorem c176_694 : (zT 176)[444]? = some (694, z_al 2 1) := rfl
set_option maxRecDepth 100000 in
theorem c176_695 : (zT 176)[445]? = some (695, z_cV 12 155 3 0) := rfl
set_option maxRecDepth 100000 in
theorem c176_698 : (zT 176)[446]? = some (698, z_ieq 958) := rfl
set_option maxRecDepth 100000 in
theorem c176_701 : (zT 176)[447]? = some (701, z_ic 0 1) := rfl
set_option maxRecDepth 100000 in
theorem c176_702 : (zT 176)[448]? = some (702, z_zr) := rfl
set_option maxRecDepth 100000 in
theorem c176_703 : (zT 176)[449]? = some (703, z_al 1 1) := rfl
set_option maxRecDepth 100000 in
theorem c176_704 : (zT 176)[450]? = some (704, z_al 0 1) := rfl
set_option maxRecDepth 100000 in
theorem c176_705 : (zT 176)[451]? = some (705, z_il 3 1) := rfl
set_option maxRecDepth 100000 in
theorem c176_706 : (zT 176)[452]? = some (706, z_ic 1 1) := rfl
set_option maxRecDepth 100000 in
theorem c176_707 : (zT 176)[453]? = some (707, z_iadd) := rfl
set_option maxRecDepth 100000 in
theorem c176_708 : (zT 176)[454]? = some (708, z_iald 30) := rfl
set_option maxRecDepth 100000 in
theorem c176_709 : (zT 176)[455]? = some (709, z_al 0 1) := rfl
set_option maxRecDepth 100000 in
theorem c176_710 : (zT 176)[456]? = some (710, z_il 3 1) := rfl
set_option maxRecDepth 100000 in
theorem c176_711 : (zT 176)[457]? = some (711, z_ic 2 1) := rfl
set_option maxRecDepth 100000 in
theorem c176_712 : (zT 176)[458]? = some (712, z_iadd) := rfl
set_option maxRecDepth 100000 in
theorem c176_713 : (zT 176)[459]? = some (713, z_iald 30) := rfl
set_option maxRecDepth 100000 in
theorem c176_714 : (zT 176)[460]? = some (714, z_cV 11 87 3 2) := rfl
set_option maxRecDepth 100000 in
theorem c176_717 : (zT 176)[461]? = some (717, z_al 2 1) := rfl
set_option maxRecDepth 100000 in
theorem c176_718 : (zT 176)[462]? = some (718, z_al 0 1) := rfl
set_option maxRecDepth 100000 in
theorem c176_719 : (zT 176)[463]? = some (719, z_il 3 1) := rfl
set_option maxRecDepth 100000 in
theorem c176_720 : (zT 176)[464]? = some (720, z_ic 1 1) := rfl
set_option maxRecDepth 100000 in
theorem c176_721 : (zT 176)[465]? = some (721, z_iadd) := rfl
set_option maxRecDepth 100000 in
theorem c176_722 : (zT 176)[466]? = some (722, z_iald 30) := rfl
set_option maxRecDepth 100000 in
theorem c176_723 : (zT 176)[467]? = some (723, z_al 0 1) := rfl
set_option maxRecDepth 100000 in
theorem c176_724 : (zT 176)[468]? = some (724, z_il 3 1) := rfl
set_option maxRecDepth 100000 in
theorem c176_725 : (zT 176)[469]? = some (725, z_ic 2 1) := rfl
set_option maxRecDepth 100000 in
theorem c176_726 : (zT 176)[470]? = some (726, z_iadd) := rfl
set_option maxRecDepth 100000 in
theorem c176_727 : (zT 176)[471]? = some (727, z_iald 30) := rfl
set_option maxRecDepth 100000 in
theorem c176_728 : (zT 176)[472]? = some (728, z_cV 12 158 12 2) := rfl
set_option maxRecDepth 100000 in
theorem c176_731 : (zT 176)[473]? = some (731, z_lcmp) := rfl
set_option maxRecDepth 100000 in
theorem c176_732 : (zT 176)[474]? = some (732, z_ifeq 958) := rfl
set_option maxRecDepth 100000 in
theorem c176_735 : (zT 176)[475]? = some (735, z_ic 0 1) := rfl
set_option maxRecDepth 100000 in
theorem c176_736 : (zT 176)[476]? = some (736, z_zr) := rfl
set_option maxRecDepth 100000 in
theorem c176_737 : (zT 176)[477]? = some (737, z_al 1 1) := rfl
set_option maxRecDepth 100000 in
theorem c176_738 : (zT 176)[478]? = some (738, z_al 0 1) := rfl
set_option maxRecDepth 100000 in
theorem c176_739 : (zT 176)[479]? = some (739, z_il 3 1) := rfl
set_option maxRecDepth 100000 in
theorem c176_740 : (zT 176)[480]? = some (740, z_ic 1 1) := rfl
set_option maxRecDepth 100000 in
theorem c176_741 : (zT 176)[481]? = some (741, z_iadd) := rfl
set_option maxRecDepth 100000 in
theorem c176_742 : (zT 176)[482]? = some (742, z_iald 30) := rfl
set_option maxRecDepth 100000 in
theorem c176_743 : (zT 176)[483]? = some (743, z_al 0 1) := rfl
set_option maxRecDepth 100000 in
theorem c176_744 : (zT 176)[484]? = some (744, z_il 3 1) := rfl
set_option maxRecDepth 100000 in
theorem c176_745 : (zT 176)[485]? = some (745, z_ic 2 1) := rfl
set_option maxRecDepth 100000 in
theorem c176_746 : (zT 176)[486]? = some (746, z_iadd) := rfl
set_option maxRecDepth 100000 in
theorem c176_747 : (zT 176)[487]? = some (747, z_iald 30) := rfl
set_option maxRecDepth 100000 in
theorem c176_748 : (zT 176)[488]? = some (748, z_cV 11 88 4 2) := rfl
set_option maxRecDepth 100000 in
theorem c176_751 : (zT 176)[489]? = some (751, z_al 2 1) := rfl
set_option maxRecDepth 100000 in
theorem c176_752 : (zT 176)[490]? = some (752, z_al 0 1) := rfl
set_option maxRecDepth 100000 in
theorem c176_753 : (zT 176)[491]? = some (753, z_il 3 1) := rfl
set_option maxRecDepth 100000 in
theorem c176_754 : (zT 176)[492]? = some (754, z_ic 1 1) := rfl
set_option maxRecDepth 100000 in
theorem c176_755 : (zT 176)[493]? = some (755, z_iadd) := rfl
set_option maxRecDepth 100000 in
theorem c176_756 : (zT 176)[494]? = some (756, z_iald 30) := rfl
set_option maxRecDepth 100000 in
theorem c176_757 : (zT 176)[495]? = some (757, z_al 0 1) := rfl
set_option maxRecDepth 100000 in
theorem c176_758 : (zT 176)[496]? = some (758, z_il 3 1) := rfl
set_option maxRecDepth 100000 in
theorem c176_759 : (zT 176)[497]? = some (759, z_ic 2 1) := rfl
set_option maxRecDepth 100000 in
theorem c176_760 : (zT 176)[498]? = some (760, z_iadd) := rfl
set_option maxRecDepth 100000 in
theorem c176_761 : (zT 176)[499]? = some (761, z_iald 30) := rfl
set_option maxRecDepth 100000 in
theorem c176_762 : (zT 176)[500]? = some (762, z_cV 12 161 8 2) := rfl
set_option maxRecDepth 100000 in
theorem c176_765 : (zT 176)[501]? = some (765, z_ieq 958) := rfl
set_option maxRecDepth 100000 in
theorem c176_768 : (zT 176)[502]? = some (768, z_ic 0 1) := rfl
set_option maxRecDepth 100000 in
theorem c176_769 : (zT 176)[503]? = some (769, z_zr) := rfl
set_option maxRecDepth 100000 in
theorem c176_770 : (zT 176)[504]? = some (770, z_al 1 1) := rfl
set_option maxRecDepth 100000 in
theorem c176_771 : (zT 176)[505]? = some (771, z_al 0 1) := rfl
set_option maxRecDepth 100000 in
theorem c176_772 : (zT 176)[506]? = some (772, z_il 3 1) := rfl
set_option maxRecDepth 100000 in
theorem c176_773 : (zT 176)[507]? = some (773, z_ic 1 1) := rfl
set_option maxRecDepth 100000 in
theorem c176_774 : (zT 176)[508]? = some (774, z_iadd) := rfl
set_option maxRecDepth 100000 in
theorem c176_775 : (zT 176)[509]? = some (775, z_iald 30) := rfl
set_option maxRecDepth 100000 in
theorem c176_776 : (zT 176)[510]? = some (776, z_cV 11 89 2 1) := rfl
set_option maxRecDepth 100000 in
theorem c176_779 : (zT 176)[511]? = some (779, z_al 2 1) := rfl
set_option maxRecDepth 100000 in
theorem c176_780 : (zT 176)[512]? = some (780, z_al 0 1) := rfl
set_option maxRecDepth 100000 in
theorem c176_781 : (zT 176)[513]? = some (781, z_il 3 1) := rfl
set_option maxRecDepth 100000 in
theorem c176_782 : (zT 176)[514]? = some (782, z_ic 1 1) := rfl
set_option maxRecDepth 100000 in
theorem c176_783 : (zT 176)[515]? = some (783, z_iadd) := rfl
set_option maxRecDepth 100000 in
theorem c176_784 : (zT 176)[516]? = some (784, z_iald 30) := rfl
set_option maxRecDepth 100000 in
theorem c176_785 : (zT 176)[517]? = some (785, z_cV 12 164 2 1) := rfl
set_option maxRecDepth 100000 in
theorem c176_788 : (zT 176)[518]? = some (788, z_lcmp) := rfl
set_option maxRecDepth 100000 in
theorem c176_789 : (zT 176)[519]? = some (789, z_ifeq 958) := rfl
set_option maxRecDepth 100000 in
theorem c176_792 : (zT 176)[520]? = some (792, z_ic 0 1) := rfl
set_option maxRecDepth 100000 in
theorem c176_793 : (zT 176)[521]? = some (793, z_zr) := rfl
set_option maxRecDepth 100000 in
theorem c176_794 : (zT 176)[522]? = some (794, z_al 1 1) := rfl
set_option maxRecDepth 100000 in
theorem c176_795 : (zT 176)[523]? = some (795, z_al 0 1) := rfl
set_option maxRecDepth 100000 in
theorem c176_796 : (zT 176)[524]? = some (796, z_il 3 1) := rfl
set_option maxRecDepth 100000 in
theorem c176_797 : (zT 176)[525]? = some (797, z_ic 1 1) := rfl
set_option maxRecDepth 100000 in
theorem c176_798 : (zT 176)[526]? = some (798, z_iadd) := rfl
set_option maxRecDepth 100000 in
theorem c176_799 : (zT 176)[527]? = some (799, z_iald 30) := rfl
set_option maxRecDepth 100000 in
theorem c176_800 : (zT 176)[528]? = some (800, z_cV 11 90 6 1) := rfl
set_option maxRecDepth 100000 in
theorem c176_803 : (zT 176)[529]? = some (803, z_al 2 1) := rfl
set_option maxRecDepth 100000 in
theorem c176_804 : (zT 176)[530]? = some (804, z_al 0 1) := rfl
set_option maxRecDepth 100000 in
theorem c176_805 : (zT 176)[531]? = some (805, z_il 3 1) := rfl
set_option maxRecDepth 100000 in
theorem c176_806 : (zT 176)[532]? = some (806, z_ic 1 1) := rfl
set_option maxRecDepth 100000 in
theorem c176_807 : (zT 176)[533]? = some (807, z_iadd) := rfl
set_option maxRecDepth 100000 in
theorem c176_808 : (zT 176)[534]? = some (808, z_iald 30) := rfl
set_option maxRecDepth 100000 in
theorem c176_809 : (zT 176)[535]? = some (809, z_cV 12 165 4 1) := rfl
set_option maxRecDepth 100000 in
theorem c176_812 : (zT 176)[536]? = some (812, z_ieq 958) := rfl
set_option maxRecDepth 100000 in
theorem c176_815 : (zT 176)[537]? = some (815, z_ic 0 1) := rfl
set_option maxRecDepth 100000 in
theorem c176_816 : (zT 176)[538]? = some (816, z_zr) := rfl
set_option maxRecDepth 100000 in
theorem c176_817 : (zT 176)[539]? = some (817, z_al 1 1) := rfl
set_option maxRecDepth 100000 in
theorem c176_818 : (zT 176)[540]? = some (818, z_cV 11 91 1 0) := rfl
set_option maxRecDepth 100000 in
theorem c176_821 : (zT 176)[541]? = some (821, z_al 2 1) := rfl
set_option maxRecDepth 100000 in
theorem c176_822 : (zT 176)[542]? = some (822, z_cV 12 166 8 0) := rfl
set_option maxRecDepth 100000 in
theorem c176_825 : (zT 176)[543]? = some (825, z_ieq 958) := rfl
set_option maxRecDepth 100000 in
theorem c176_828 : (zT 176)[544]? = some (828, z_ic 0 1) := rfl
set_option maxRecDepth 100000 in
theorem c176_829 : (zT 176)[545]? = some (829, z_zr) := rfl
set_option maxRecDepth 100000 in
theorem c176_830 : (zT 176)[546]? = some (830, z_al 1 1) := rfl
set_option maxRecDepth 100000 in
theorem c176_831 : (zT 176)[547]? = some (831, z_al 0 1) := rfl
set_option maxRecDepth 100000 in
theorem c176_832 : (zT 176)[548]? = some (832, z_il 3 1) := rfl
set_option maxRecDepth 100000 in
theorem c176_833 : (zT 176)[549]? = some (833, z_ic 1 1) := rfl
set_option maxRecDepth 100000 in
theorem c176_834 : (zT 176)[550]? = some (834, z_iadd) := rfl
set_option maxRecDepth 100000 in
theorem c176_835 : (zT 176)[551]? = some (835, z_iald 30) := rfl
set_option maxRecDepth 100000 in
theorem c176_836 : (zT 176)[552]? = some (836, z_al 0 1) := rfl
set_option maxRecDepth 100000 in
theorem c176_837 : (zT 176)[553]? = some (837, z_il 3 1) := rfl
set_option maxRecDepth 100000 in
theorem c176_838 : (zT 176)[554]? = some (838, z_ic 2 1) := rfl
set_option maxRecDepth 100000 in
theorem c176_839 : (zT 176)[555]? = some (839, z_iadd) := rfl
set_option maxRecDepth 100000 in
theorem c176_840 : (zT 176)[556]? = some (840, z_iald 30) := rfl
set_option maxRecDepth 100000 in
theorem c176_841 : (zT 176)[557]? = some (841, z_cV 11 92 3 2) := rfl
set_option maxRecDepth 100000 in
theorem c176_844 : (zT 176)[558]? = some (844, z_al 2 1) := rfl
set_option maxRecDepth 100000 in
theorem c176_845 : (zT 176)[559]? = some (845, z_al 0 1) := rfl
set_option maxRecDepth 100000 in
theorem c176_846 : (zT 176)[560]? = some (846, z_il 3 1) := rfl
set_option maxRecDepth 100000 in
theorem c176_847 : (zT 176)[561]? = some (847, z_ic 1 1) := rfl
set_option maxRecDepth 100000 in
theorem c176_848 : (zT 176)[562]? = some (848, z_iadd) := rfl
set_option maxRecDepth 100000 in
theorem c176_849 : (zT 176)[563]? = some (849, z_iald 30) := rfl
set_option maxRecDepth 100000 in
theorem c176_850 : (zT 176)[564]? = some (850, z_al 0 1) := rfl
set_option maxRecDepth 100000 in
theorem c176_851 : (zT 176)[565]? = some (851, z_il 3 1) := rfl
set_option maxRecDepth 100000 in
theorem c176_852 : (zT 176)[566]? = some (852, z_ic 2 1) := rfl
set_option maxRecDepth 100000 in
theorem c176_853 : (zT 176)[567]? = some (853, z_iadd) := rfl
set_option maxRecDepth 100000 in
theorem c176_854 : (zT 176)[568]? = some (854, z_iald 30) := rfl
set_option maxRecDepth 100000 in
theorem c176_855 : (zT 176)[569]? = some (855, z_cV 12 168 3 2) := rfl
set_option maxRecDepth 100000 in
theorem c176_858 : (zT 176)[570]? = some (858, z_ieq 958) := rfl
set_option maxRecDepth 100000 in
theorem c176_861 : (zT 176)[571]? = some (861, z_ic 0 1) := rfl
set_option maxRecDepth 100000 in
theorem c176_862 : (zT 176)[572]? = some (862, z_zr) := rfl
set_option maxRecDepth 100000 in
theorem c176_863 : (zT 176)[573]? = some (863, z_al 1 1) := rfl
set_option maxRecDepth 100000 in
theorem c176_864 : (zT 176)[574]? = some (864, z_al 0 1) := rfl
set_option maxRecDepth 100000 in
theorem c176_865 : (zT 176)[575]? = some (865, z_il 3 1) := rfl
set_option maxRecDepth 100000 in
theorem c176_866 : (zT 176)[576]? = some (866, z_ic 1 1) := rfl
set_option maxRecDepth 100000 in
theorem c176_867 : (zT 176)[577]? = some (867, z_iadd) := rfl
set_option maxRecDepth 100000 in
theorem c176_868 : (zT 176)[578]? = some (868, z_iald 30) := rfl
set_option maxRecDepth 100000 in
theorem c176_869 : (zT 176)[579]? = some (869, z_cV 11 93 6 1) := rfl
set_option maxRecDepth 100000 in
theorem c176_872 : (zT 176)[580]? = some (872, z_al 2 1) := rfl
set_option maxRecDepth 100000 in
theorem c176_873 : (zT 176)[581]? = some (873, z_al 0 1) := rfl
set_option maxRecDepth 100000 in
theorem c176_874 : (zT 176)[582]? = some (874, z_il 3 1) := rfl
set_option maxRecDepth 100000 in
theorem c176_875 : (zT 176)[583]? = some (875, z_ic 1 1) := rfl
set_option maxRecDepth 100000 in
theorem c176_876 : (zT 176)[584]? = some (876, z_iadd) := rfl
set_option maxRecDepth 100000 in
theorem c176_877 : (zT 176)[585]? = some (877, z_iald 30) := rfl
set_option maxRecDepth 100000 in
theorem c176_878 : (zT 176)[586]? = some (878, z_cV 12 169 4 1) := rfl
set_option maxRecDepth 100000 in
theorem c176_881 : (zT 176)[587]? = some (881, z_ieq 958) := rfl
set_option maxRecDepth 100000 in
theorem c176_884 : (zT 176)[588]? = some (884, z_ic 0 1) := rfl
set_option maxRecDepth 100000 in
theorem c176_885 : (zT 176)[589]? = some (885, z_zr) := rfl
set_option maxRecDepth 100000 in
theorem c176_886 : (zT 176)[590]? = some (886, z_al 1 1) := rfl
set_option maxRecDepth 100000 in
theorem c176_887 : (zT 176)[591]? = some (887, z_al 0 1) := rfl
set_option maxRecDepth 100000 in
theorem c176_888 : (zT 176)[592]? = some (888, z_il 3 1) := rfl
set_option maxRecDepth 100000 in
theorem c176_889 : (zT 176)[593]? = some (889, z_ic 1 1) := rfl
set_option maxRecDepth 100000 in
theorem c176_890 : (zT 176)[594]? = some (890, z_iadd) := rfl
set_option maxRecDepth 100000 in
theorem c176_891 : (zT 176)[595]? = some (891, z_iald 30) := rfl
set_option maxRecDepth 100000 in
theorem c176_892 : (zT 176)[596]? = some (892, z_cV 11 94 6 1) := rfl
set_option maxRecDepth 100000 in
theorem c176_895 : (zT 176)[597]? = some (895, z_al 2 1) := rfl
set_option maxRecDepth 100000 in
theorem c176_896 : (zT 176)[598]? = some (896, z_al 0 1) := rfl
set_option maxRecDepth 100000 in
theorem c176_897 : (zT 176)[599]? = some (897, z_il 3 1) := rfl
set_option maxRecDepth 100000 in
theorem c176_898 : (zT 176)[600]? = some (898, z_ic 1 1) := rfl
set_option maxRecDepth 100000 in
theorem c176_899 : (zT 176)[601]? = some (899, z_iadd) := rfl
set_option maxRecDepth 100000 in
theorem c176_900 : (zT 176)[602]? = some (900, z_iald 30) := rfl
set_option maxRecDepth 100000 in
theorem c176_901 : (zT 176)[603]? = some (901, z_cV 12 170 6 1) := rfl
set_option maxRecDepth 100000 in
theorem c176_904 : (zT 176)[604]? = some (904, z_ieq 958) := rfl
set_option maxRecDepth 100000 in
theorem c176_907 : (zT 176)[605]? = some (907, z_ic 0 1) := rfl
set_option maxRecDepth 100000 in
theorem c176_908 : (zT 176)[606]? = some (908, z_zr) := rfl
set_option maxRecDepth 100000 in
theorem c176_909 : (zT 176)[607]? = some (909, z_al 1 1) := rfl
set_option maxRecDepth 100000 in
theorem c176_910 : (zT 176)[608]? = some (910, z_cV 11 95 1 0) := rfl
set_option maxRecDepth 100000 in
theorem c176_913 : (zT 176)[609]? = some (913, z_al 2 1) := rfl
set_option maxRecDepth 100000 in
theorem c176_914 : (zT 176)[610]? = some (914, z_cV 12 172 1 0) := rfl
set_option maxRecDepth 100000 in
theorem c176_917 : (zT 176)[611]? = some (917, z_ieq 958) := rfl
set_option maxRecDepth 100000 in
theorem c176_920 : (zT 176)[612]? = some (920, z_ic 0 1) := rfl
set_option maxRecDepth 100000 in
theorem c176_921 : (zT 176)[613]? = some (921, z_zr) := rfl
set_option maxRecDepth 100000 in
theorem c176_922 : (zT 176)[614]? = some (922, z_al 1 1) := rfl
set_option maxRecDepth 100000 in
theorem c176_923 : (zT 176)[615]? = some (923, z_cV 11 96 1 0) := rfl
set_option maxRecDepth 100000 in
theorem c176_926 : (zT 176)[616]? = some (926, z_al 2 1) := rfl
set_option maxRecDepth 100000 in
theorem c176_927 : (zT 176)[617]? = some (927, z_cV 12 173 1 0) := rfl
set_option maxRecDepth 100000 in
theorem c176_930 : (zT 176)[618]? = some (930, z_ieq 958) := rfl
set_option maxRecDepth 100000 in
theorem c176_933 : (zT 176)[619]? = some (933, z_ic 0 1) := rfl
set_option maxRecDepth 100000 in
theorem c176_934 : (zT 176)[620]? = some (934, z_zr) := rfl
set_option maxRecDepth 100000 in
theorem c176_935 : (zT 176)[621]? = some (935, z_al 1 1) := rfl
set_option maxRecDepth 100000 in
theorem c176_936 : (zT 176)[622]? = some (936, z_al 0 1) := rfl
set_option maxRecDepth 100000 in
theorem c176_937 : (zT 176)[623]? = some (937, z_il 3 1) := rfl
set_option maxRecDepth 100000 in
theorem c176_938 : (zT 176)[624]? = some (938, z_ic 1 1) := rfl
set_option maxRecDepth 100000 in
theorem c176_939 : (zT 176)[625]? = some (939, z_iadd) := rfl
set_option maxRecDepth 100000 in
theorem c176_940 : (zT 176)[626]? = some (940, z_iald 30) := rfl
set_option maxRecDepth 100000 in
theorem c176_941 : (zT 176)[627]? = some (941, z_cV 11 97 2 1) := rfl
set_option maxRecDepth 100000 in
theorem c176_944 : (zT 176)[628]? = some (944, z_al 2 1) := rfl
set_option maxRecDepth 100000 in
theorem c176_945 : (zT 176)[629]? = some (945, z_al 0 1) := rfl
set_option maxRecDepth 100000 in
theorem c176_946 : (zT 176)[630]? = some (946, z_il 3 1) := rfl
set_option maxRecDepth 100000 in
theorem c176_947 : (zT 176)[631]? = some (947, z_ic 1 1) := rfl
set_option maxRecDepth 100000 in
theorem c176_948 : (zT 176)[632]? = some (948, z_iadd) := rfl
set_option maxRecDepth 100000 in
theorem c176_949 : (zT 176)[633]? = some (949, z_iald 30) := rfl
set_option maxRecDepth 100000 in
theorem c176_950 : (zT 176)[634]? = some (950, z_cV 12 174 2 1) := rfl
set_option maxRecDepth 100000 in
theorem c176_953 : (zT 176)[635]? = some (953, z_ieq 958) := rfl
set_option maxRecDepth 100000 in
theorem c176_956 : (zT 176)[636]? = some (956, z_ic 0 1) := rfl
set_option maxRecDepth 100000 in
theorem c176_957 : (zT 176)[637]? = some (957, z_zr) := rfl
set_option maxRecDepth 100000 in
theorem c176_958 : (zT 176)[638]? = some (958, z_inc 3 5) := rfl
set_option maxRecDepth 100000 in
theorem c176_961 : (zT 176)[639]? = some (961, z_goto 18) := rfl
set_option maxRecDepth 100000 in
theorem c176_964 : (zT 176)[640]? = some (964, z_ic 1 1) := rfl
set_option maxRecDepth 100000 in
theorem c176_965 : (zT 176)[641]? = some (965, z_zr) := rfl
