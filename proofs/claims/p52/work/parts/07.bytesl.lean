/-! the law's blocks against its bytes; all together -/
set_option maxRecDepth 100000 in
theorem zk_63_0 : zchkB 63 (zblk 63 0) (zpcs 63 0) (0 + 1) = true := by decide +kernel
set_option maxRecDepth 100000 in
theorem zk_63_1 : zchkB 63 (zblk 63 1) (zpcs 63 1) (1 + 1) = true := by decide +kernel
set_option maxRecDepth 100000 in
theorem zk_63_2 : zchkB 63 (zblk 63 2) (zpcs 63 2) (2 + 1) = true := by decide +kernel
set_option maxRecDepth 100000 in
theorem zk_63_3 : zchkB 63 (zblk 63 3) (zpcs 63 3) (3 + 1) = true := by decide +kernel
set_option maxRecDepth 100000 in
theorem zk_63_4 : zchkB 63 (zblk 63 4) (zpcs 63 4) (4 + 1) = true := by decide +kernel
set_option maxRecDepth 100000 in
theorem zk_63_5 : zchkB 63 (zblk 63 5) (zpcs 63 5) (5 + 1) = true := by decide +kernel
set_option maxRecDepth 100000 in
theorem zk_63_6 : zchkB 63 (zblk 63 6) (zpcs 63 6) (6 + 1) = true := by decide +kernel
set_option maxRecDepth 100000 in
theorem zk_63_7 : zchkB 63 (zblk 63 7) (zpcs 63 7) (7 + 1) = true := by decide +kernel
set_option maxRecDepth 100000 in
theorem zk_63_8 : zchkB 63 (zblk 63 8) (zpcs 63 8) (8 + 1) = true := by decide +kernel
set_option maxRecDepth 100000 in
theorem zk_63_9 : zchkB 63 (zblk 63 9) (zpcs 63 9) (9 + 1) = true := by decide +kernel
set_option maxRecDepth 100000 in
theorem zk_63_10 : zchkB 63 (zblk 63 10) (zpcs 63 10) (10 + 1) = true := by decide +kernel
set_option maxRecDepth 100000 in
theorem zk_63_11 : zchkB 63 (zblk 63 11) (zpcs 63 11) (11 + 1) = true := by decide +kernel
set_option maxRecDepth 100000 in
theorem zk_63_12 : zchkB 63 (zblk 63 12) (zpcs 63 12) (12 + 1) = true := by decide +kernel
set_option maxRecDepth 100000 in
theorem zk_63_13 : zchkB 63 (zblk 63 13) (zpcs 63 13) (13 + 1) = true := by decide +kernel
set_option maxRecDepth 100000 in
theorem zk_63_14 : zchkB 63 (zblk 63 14) (zpcs 63 14) (14 + 1) = true := by decide +kernel
set_option maxRecDepth 100000 in
theorem zk_63_15 : zchkB 63 (zblk 63 15) (zpcs 63 15) (15 + 1) = true := by decide +kernel
set_option maxRecDepth 100000 in
theorem zk_63_16 : zchkB 63 (zblk 63 16) (zpcs 63 16) (16 + 1) = true := by decide +kernel
set_option maxRecDepth 100000 in
theorem zk_63_17 : zchkB 63 (zblk 63 17) (zpcs 63 17) (17 + 1) = true := by decide +kernel
set_option maxRecDepth 100000 in
theorem zk_63_18 : zchkB 63 (zblk 63 18) (zpcs 63 18) (18 + 1) = true := by decide +kernel
set_option maxRecDepth 100000 in
theorem zk_63_19 : zchkB 63 (zblk 63 19) (zpcs 63 19) (19 + 1) = true := by decide +kernel
set_option maxRecDepth 100000 in
theorem zk_63_20 : zchkB 63 (zblk 63 20) (zpcs 63 20) (20 + 1) = true := by decide +kernel
set_option maxRecDepth 100000 in
theorem zk_63_21 : zchkB 63 (zblk 63 21) (zpcs 63 21) (21 + 1) = true := by decide +kernel
set_option maxRecDepth 100000 in
theorem zk_63_22 : zchkB 63 (zblk 63 22) (zpcs 63 22) (22 + 1) = true := by decide +kernel
set_option maxRecDepth 100000 in
theorem zk_63_23 : zchkB 63 (zblk 63 23) (zpcs 63 23) (23 + 1) = true := by decide +kernel
set_option maxRecDepth 100000 in
theorem zk_63_24 : zchkB 63 (zblk 63 24) (zpcs 63 24) (24 + 1) = true := by decide +kernel
set_option maxRecDepth 100000 in
theorem zk_63_25 : zchkB 63 (zblk 63 25) (zpcs 63 25) (25 + 1) = true := by decide +kernel
set_option maxRecDepth 100000 in
theorem zk_63_26 : zchkB 63 (zblk 63 26) (zpcs 63 26) (26 + 1) = true := by decide +kernel
set_option maxRecDepth 100000 in
theorem zk_63_27 : zchkB 63 (zblk 63 27) (zpcs 63 27) (27 + 1) = true := by decide +kernel
set_option maxRecDepth 100000 in
theorem zk_63_28 : zchkB 63 (zblk 63 28) (zpcs 63 28) (28 + 1) = true := by decide +kernel
set_option maxRecDepth 100000 in
theorem zk_63_29 : zchkB 63 (zblk 63 29) (zpcs 63 29) (29 + 1) = true := by decide +kernel
set_option maxRecDepth 100000 in
theorem zk_63_30 : zchkB 63 (zblk 63 30) (zpcs 63 30) (30 + 1) = true := by decide +kernel
set_option maxRecDepth 100000 in
theorem zk_63_31 : zchkB 63 (zblk 63 31) (zpcs 63 31) (31 + 1) = true := by decide +kernel
set_option maxRecDepth 100000 in
theorem zk_63_32 : zchkB 63 (zblk 63 32) (zpcs 63 32) (32 + 1) = true := by decide +kernel
set_option maxRecDepth 100000 in
theorem zk_63_33 : zchkB 63 (zblk 63 33) (zpcs 63 33) (33 + 1) = true := by decide +kernel
set_option maxRecDepth 100000 in
theorem zk_63_34 : zchkB 63 (zblk 63 34) (zpcs 63 34) (34 + 1) = true := by decide +kernel
set_option maxRecDepth 100000 in
theorem zk_63_35 : zchkB 63 (zblk 63 35) (zpcs 63 35) (35 + 1) = true := by decide +kernel
set_option maxRecDepth 100000 in
theorem zk_63_36 : zchkB 63 (zblk 63 36) (zpcs 63 36) (36 + 1) = true := by decide +kernel
set_option maxRecDepth 100000 in
theorem zk_63_37 : zchkB 63 (zblk 63 37) (zpcs 63 37) (37 + 1) = true := by decide +kernel
set_option maxRecDepth 100000 in
theorem zk_63_38 : zchkB 63 (zblk 63 38) (zpcs 63 38) (38 + 1) = true := by decide +kernel
set_option maxRecDepth 100000 in
theorem zk_63_39 : zchkB 63 (zblk 63 39) (zpcs 63 39) (39 + 1) = true := by decide +kernel
set_option maxRecDepth 100000 in
theorem zk_63_40 : zchkB 63 (zblk 63 40) (zpcs 63 40) (40 + 1) = true := by decide +kernel
set_option maxRecDepth 100000 in
theorem zk_63_41 : zchkB 63 (zblk 63 41) (zpcs 63 41) (41 + 1) = true := by decide +kernel
set_option maxRecDepth 100000 in
theorem zk_63_42 : zchkB 63 (zblk 63 42) (zpcs 63 42) (42 + 1) = true := by decide +kernel
set_option maxRecDepth 100000 in
theorem zk_63_43 : zchkB 63 (zblk 63 43) (zpcs 63 43) (43 + 1) = true := by decide +kernel
set_option maxRecDepth 100000 in
theorem zk_63_44 : zchkB 63 (zblk 63 44) (zpcs 63 44) (44 + 1) = true := by decide +kernel
set_option maxRecDepth 100000 in
theorem zk_63_45 : zchkB 63 (zblk 63 45) (zpcs 63 45) (45 + 1) = true := by decide +kernel
set_option maxRecDepth 100000 in
theorem zk_63_46 : zchkB 63 (zblk 63 46) (zpcs 63 46) (46 + 1) = true := by decide +kernel
set_option maxRecDepth 100000 in
theorem zk_63_47 : zchkB 63 (zblk 63 47) (zpcs 63 47) (47 + 1) = true := by decide +kernel
set_option maxRecDepth 100000 in
theorem zk_63_48 : zchkB 63 (zblk 63 48) (zpcs 63 48) (48 + 1) = true := by decide +kernel
set_option maxRecDepth 100000 in
theorem zk_63_49 : zchkB 63 (zblk 63 49) (zpcs 63 49) (49 + 1) = true := by decide +kernel
set_option maxRecDepth 100000 in
theorem zk_63_50 : zchkB 63 (zblk 63 50) (zpcs 63 50) (50 + 1) = true := by decide +kernel
set_option maxRecDepth 100000 in
theorem zk_63_51 : zchkB 63 (zblk 63 51) (zpcs 63 51) (51 + 1) = true := by decide +kernel
set_option maxRecDepth 100000 in
theorem zk_63_52 : zchkB 63 (zblk 63 52) (zpcs 63 52) (52 + 1) = true := by decide +kernel
set_option maxRecDepth 100000 in
theorem zk_63_53 : zchkB 63 (zblk 63 53) (zpcs 63 53) (53 + 1) = true := by decide +kernel
set_option maxRecDepth 100000 in
theorem zk_63_54 : zchkB 63 (zblk 63 54) (zpcs 63 54) (54 + 1) = true := by decide +kernel
set_option maxRecDepth 100000 in
theorem zk_63_55 : zchkB 63 (zblk 63 55) (zpcs 63 55) (55 + 1) = true := by decide +kernel
set_option maxRecDepth 100000 in
theorem zk_63_56 : zchkB 63 (zblk 63 56) (zpcs 63 56) (56 + 1) = true := by decide +kernel
set_option maxRecDepth 100000 in
theorem zk_63_57 : zchkB 63 (zblk 63 57) (zpcs 63 57) (57 + 1) = true := by decide +kernel
set_option maxRecDepth 100000 in
theorem zk_63_58 : zchkB 63 (zblk 63 58) (zpcs 63 58) (58 + 1) = true := by decide +kernel
set_option maxRecDepth 100000 in
theorem zk_63_59 : zchkB 63 (zblk 63 59) (zpcs 63 59) (59 + 1) = true := by decide +kernel
set_option maxRecDepth 100000 in
theorem zk_63_60 : zchkB 63 (zblk 63 60) (zpcs 63 60) (60 + 1) = true := by decide +kernel
set_option maxRecDepth 100000 in
theorem zk_63_61 : zchkB 63 (zblk 63 61) (zpcs 63 61) (61 + 1) = true := by decide +kernel
set_option maxRecDepth 100000 in
theorem zk_63_62 : zchkB 63 (zblk 63 62) (zpcs 63 62) (62 + 1) = true := by decide +kernel
set_option maxRecDepth 100000 in
theorem zk_63_63 : zchkB 63 (zblk 63 63) (zpcs 63 63) (63 + 1) = true := by decide +kernel
set_option maxRecDepth 100000 in
theorem zk_63_64 : zchkB 63 (zblk 63 64) (zpcs 63 64) (64 + 1) = true := by decide +kernel
set_option maxRecDepth 100000 in
theorem zk_63_65 : zchkB 63 (zblk 63 65) (zpcs 63 65) (65 + 1) = true := by decide +kernel
set_option maxRecDepth 100000 in
theorem zk_63_66 : zchkB 63 (zblk 63 66) (zpcs 63 66) (66 + 1) = true := by decide +kernel
set_option maxRecDepth 100000 in
theorem zk_63_67 : zchkB 63 (zblk 63 67) (zpcs 63 67) (67 + 1) = true := by decide +kernel
set_option maxRecDepth 100000 in
theorem zk_63_68 : zchkB 63 (zblk 63 68) (zpcs 63 68) (68 + 1) = true := by decide +kernel
set_option maxRecDepth 100000 in
theorem zk_63_69 : zchkB 63 (zblk 63 69) (zpcs 63 69) (69 + 1) = true := by decide +kernel
set_option maxRecDepth 100000 in
theorem zk_63_70 : zchkB 63 (zblk 63 70) (zpcs 63 70) (70 + 1) = true := by decide +kernel
set_option maxRecDepth 100000 in
theorem zk_63_71 : zchkB 63 (zblk 63 71) (zpcs 63 71) (71 + 1) = true := by decide +kernel
set_option maxRecDepth 100000 in
theorem zk_63_72 : zchkB 63 (zblk 63 72) (zpcs 63 72) (72 + 1) = true := by decide +kernel
set_option maxRecDepth 100000 in
theorem zk_63_73 : zchkB 63 (zblk 63 73) (zpcs 63 73) (73 + 1) = true := by decide +kernel
set_option maxRecDepth 100000 in
theorem zk_63_74 : zchkB 63 (zblk 63 74) (zpcs 63 74) (74 + 1) = true := by decide +kernel
set_option maxRecDepth 100000 in
theorem zk_63_75 : zchkB 63 (zblk 63 75) (zpcs 63 75) (75 + 1) = true := by decide +kernel
set_option maxRecDepth 100000 in
theorem zk_63_76 : zchkB 63 (zblk 63 76) (zpcs 63 76) (76 + 1) = true := by decide +kernel
set_option maxRecDepth 100000 in
theorem zk_63_77 : zchkB 63 (zblk 63 77) (zpcs 63 77) (77 + 1) = true := by decide +kernel
set_option maxRecDepth 100000 in
theorem zk_63_78 : zchkB 63 (zblk 63 78) (zpcs 63 78) (78 + 1) = true := by decide +kernel
set_option maxRecDepth 100000 in
theorem zk_63_79 : zchkB 63 (zblk 63 79) (zpcs 63 79) (79 + 1) = true := by decide +kernel
set_option maxRecDepth 100000 in
theorem zk_63_80 : zchkB 63 (zblk 63 80) (zpcs 63 80) (80 + 1) = true := by decide +kernel
set_option maxRecDepth 100000 in
theorem zk_63_81 : zchkB 63 (zblk 63 81) (zpcs 63 81) (81 + 1) = true := by decide +kernel
set_option maxRecDepth 100000 in
theorem zk_63_82 : zchkB 63 (zblk 63 82) (zpcs 63 82) (82 + 1) = true := by decide +kernel
set_option maxRecDepth 100000 in
theorem zk_63_83 : zchkB 63 (zblk 63 83) (zpcs 63 83) (83 + 1) = true := by decide +kernel
set_option maxRecDepth 100000 in
theorem zk_63_84 : zchkB 63 (zblk 63 84) (zpcs 63 84) (84 + 1) = true := by decide +kernel
set_option maxRecDepth 100000 in
theorem zk_63_85 : zchkB 63 (zblk 63 85) (zpcs 63 85) (85 + 1) = true := by decide +kernel
set_option maxRecDepth 100000 in
theorem zk_63_86 : zchkB 63 (zblk 63 86) (zpcs 63 86) (86 + 1) = true := by decide +kernel
set_option maxRecDepth 100000 in
theorem zk_63_87 : zchkB 63 (zblk 63 87) (zpcs 63 87) (87 + 1) = true := by decide +kernel
set_option maxRecDepth 100000 in
theorem zk_63_88 : zchkB 63 (zblk 63 88) (zpcs 63 88) (88 + 1) = true := by decide +kernel
set_option maxRecDepth 100000 in
theorem zk_63_89 : zchkB 63 (zblk 63 89) (zpcs 63 89) (89 + 1) = true := by decide +kernel
set_option maxRecDepth 100000 in
theorem zk_63_90 : zchkB 63 (zblk 63 90) (zpcs 63 90) (90 + 1) = true := by decide +kernel
set_option maxRecDepth 100000 in
theorem zk_63_91 : zchkB 63 (zblk 63 91) (zpcs 63 91) (91 + 1) = true := by decide +kernel
set_option maxRecDepth 100000 in
theorem zk_63_92 : zchkB 63 (zblk 63 92) (zpcs 63 92) (92 + 1) = true := by decide +kernel
set_option maxRecDepth 100000 in
theorem zk_63_93 : zchkB 63 (zblk 63 93) (zpcs 63 93) (93 + 1) = true := by decide +kernel
set_option maxRecDepth 100000 in
theorem zk_63_94 : zchkB 63 (zblk 63 94) (zpcs 63 94) (94 + 1) = true := by decide +kernel
set_option maxRecDepth 100000 in
theorem zk_63_95 : zchkB 63 (zblk 63 95) (zpcs 63 95) (95 + 1) = true := by decide +kernel
set_option maxRecDepth 100000 in
theorem zk_63_96 : zchkB 63 (zblk 63 96) (zpcs 63 96) (96 + 1) = true := by decide +kernel
set_option maxRecDepth 100000 in
theorem zk_63_97 : zchkB 63 (zblk 63 97) (zpcs 63 97) (97 + 1) = true := by decide +kernel
set_option maxRecDepth 100000 in
theorem zk_63_98 : zchkB 63 (zblk 63 98) (zpcs 63 98) (98 + 1) = true := by decide +kernel
set_option maxRecDepth 100000 in
theorem zk_63_99 : zchkB 63 (zblk 63 99) (zpcs 63 99) (99 + 1) = true := by decide +kernel
set_option maxRecDepth 100000 in
theorem zk_63_100 : zchkB 63 (zblk 63 100) (zpcs 63 100) (100 + 1) = true := by decide +kernel
set_option maxRecDepth 100000 in
theorem zk_63_101 : zchkB 63 (zblk 63 101) (zpcs 63 101) (101 + 1) = true := by decide +kernel
set_option maxRecDepth 100000 in
theorem zk_63_102 : zchkB 63 (zblk 63 102) (zpcs 63 102) (102 + 1) = true := by decide +kernel
set_option maxRecDepth 100000 in
theorem zk_63_103 : zchkB 63 (zblk 63 103) (zpcs 63 103) (103 + 1) = true := by decide +kernel
set_option maxRecDepth 100000 in
theorem zk_63_104 : zchkB 63 (zblk 63 104) (zpcs 63 104) (104 + 1) = true := by decide +kernel
set_option maxRecDepth 100000 in
theorem zk_63_105 : zchkB 63 (zblk 63 105) (zpcs 63 105) (105 + 1) = true := by decide +kernel
set_option maxRecDepth 100000 in
theorem zk_63_106 : zchkB 63 (zblk 63 106) (zpcs 63 106) (106 + 1) = true := by decide +kernel
set_option maxRecDepth 100000 in
theorem zk_63_107 : zchkB 63 (zblk 63 107) (zpcs 63 107) (107 + 1) = true := by decide +kernel
set_option maxRecDepth 100000 in
theorem zk_63_108 : zchkB 63 (zblk 63 108) (zpcs 63 108) (108 + 1) = true := by decide +kernel
set_option maxRecDepth 100000 in
theorem zk_63_109 : zchkB 63 (zblk 63 109) (zpcs 63 109) (109 + 1) = true := by decide +kernel
set_option maxRecDepth 100000 in
theorem zk_63_110 : zchkB 63 (zblk 63 110) (zpcs 63 110) (110 + 1) = true := by decide +kernel
set_option maxRecDepth 100000 in
theorem zk_63_111 : zchkB 63 (zblk 63 111) (zpcs 63 111) (111 + 1) = true := by decide +kernel
set_option maxRecDepth 100000 in
theorem zk_63_112 : zchkB 63 (zblk 63 112) (zpcs 63 112) (112 + 1) = true := by decide +kernel
set_option maxRecDepth 100000 in
theorem zk_63_113 : zchkB 63 (zblk 63 113) (zpcs 63 113) (113 + 1) = true := by decide +kernel
set_option maxRecDepth 100000 in
theorem zk_63_114 : zchkB 63 (zblk 63 114) (zpcs 63 114) (114 + 1) = true := by decide +kernel
set_option maxRecDepth 100000 in
theorem zk_63_115 : zchkB 63 (zblk 63 115) (zpcs 63 115) (115 + 1) = true := by decide +kernel
set_option maxRecDepth 100000 in
theorem zk_63_116 : zchkB 63 (zblk 63 116) (zpcs 63 116) (116 + 1) = true := by decide +kernel
set_option maxRecDepth 100000 in
theorem zk_63_117 : zchkB 63 (zblk 63 117) (zpcs 63 117) (117 + 1) = true := by decide +kernel
set_option maxRecDepth 100000 in
theorem zk_63_118 : zchkB 63 (zblk 63 118) (zpcs 63 118) (118 + 1) = true := by decide +kernel
set_option maxRecDepth 100000 in
theorem zk_63_119 : zchkB 63 (zblk 63 119) (zpcs 63 119) (119 + 1) = true := by decide +kernel
set_option maxRecDepth 100000 in
theorem zk_63_120 : zchkB 63 (zblk 63 120) (zpcs 63 120) (120 + 1) = true := by decide +kernel
set_option maxRecDepth 100000 in
theorem zk_63_121 : zchkB 63 (zblk 63 121) (zpcs 63 121) (121 + 1) = true := by decide +kernel
set_option maxRecDepth 100000 in
theorem zk_63_122 : zchkB 63 (zblk 63 122) (zpcs 63 122) (122 + 1) = true := by decide +kernel
set_option maxRecDepth 100000 in
theorem zk_63_123 : zchkB 63 (zblk 63 123) (zpcs 63 123) (123 + 1) = true := by decide +kernel
set_option maxRecDepth 100000 in
theorem zk_63_124 : zchkB 63 (zblk 63 124) (zpcs 63 124) (124 + 1) = true := by decide +kernel
set_option maxRecDepth 100000 in
theorem zk_63_125 : zchkB 63 (zblk 63 125) (zpcs 63 125) (125 + 1) = true := by decide +kernel
set_option maxRecDepth 100000 in
theorem zk_63_126 : zchkB 63 (zblk 63 126) (zpcs 63 126) (126 + 1) = true := by decide +kernel
set_option maxRecDepth 100000 in
theorem zk_63_127 : zchkB 63 (zblk 63 127) (zpcs 63 127) (127 + 1) = true := by decide +kernel
set_option maxRecDepth 100000 in
theorem zk_63_128 : zchkB 63 (zblk 63 128) (zpcs 63 128) (128 + 1) = true := by decide +kernel
set_option maxRecDepth 100000 in
theorem zk_63_129 : zchkB 63 (zblk 63 129) (zpcs 63 129) (129 + 1) = true := by decide +kernel
set_option maxRecDepth 100000 in
theorem zk_63_130 : zchkB 63 (zblk 63 130) (zpcs 63 130) (130 + 1) = true := by decide +kernel
set_option maxRecDepth 100000 in
theorem zk_63_131 : zchkB 63 (zblk 63 131) (zpcs 63 131) (131 + 1) = true := by decide +kernel
set_option maxRecDepth 100000 in
theorem zk_63_132 : zchkB 63 (zblk 63 132) (zpcs 63 132) (132 + 1) = true := by decide +kernel
set_option maxRecDepth 100000 in
theorem zk_63_133 : zchkB 63 (zblk 63 133) (zpcs 63 133) (133 + 1) = true := by decide +kernel
set_option maxRecDepth 100000 in
theorem zk_63_134 : zchkB 63 (zblk 63 134) (zpcs 63 134) (134 + 1) = true := by decide +kernel
set_option maxRecDepth 100000 in
theorem zk_63_135 : zchkB 63 (zblk 63 135) (zpcs 63 135) (135 + 1) = true := by decide +kernel
set_option maxRecDepth 100000 in
theorem zk_63_136 : zchkB 63 (zblk 63 136) (zpcs 63 136) (136 + 1) = true := by decide +kernel
set_option maxRecDepth 100000 in
theorem zk_63_137 : zchkB 63 (zblk 63 137) (zpcs 63 137) (137 + 1) = true := by decide +kernel
set_option maxRecDepth 100000 in
theorem zk_63_138 : zchkB 63 (zblk 63 138) (zpcs 63 138) (138 + 1) = true := by decide +kernel
set_option maxRecDepth 100000 in
theorem zk_63_139 : zchkB 63 (zblk 63 139) (zpcs 63 139) (139 + 1) = true := by decide +kernel
set_option maxRecDepth 100000 in
theorem zk_63_140 : zchkB 63 (zblk 63 140) (zpcs 63 140) (140 + 1) = true := by decide +kernel
set_option maxRecDepth 100000 in
theorem zk_63_141 : zchkB 63 (zblk 63 141) (zpcs 63 141) (141 + 1) = true := by decide +kernel
set_option maxRecDepth 100000 in
theorem zk_63_142 : zchkB 63 (zblk 63 142) (zpcs 63 142) (142 + 1) = true := by decide +kernel
set_option maxRecDepth 100000 in
theorem zk_63_143 : zchkB 63 (zblk 63 143) (zpcs 63 143) (143 + 1) = true := by decide +kernel
set_option maxRecDepth 100000 in
theorem zk_63_144 : zchkB 63 (zblk 63 144) (zpcs 63 144) (144 + 1) = true := by decide +kernel
set_option maxRecDepth 100000 in
theorem zk_63_145 : zchkB 63 (zblk 63 145) (zpcs 63 145) (145 + 1) = true := by decide +kernel
set_option maxRecDepth 100000 in
theorem zk_63_146 : zchkB 63 (zblk 63 146) (zpcs 63 146) (146 + 1) = true := by decide +kernel
set_option maxRecDepth 100000 in
theorem zk_63_147 : zchkB 63 (zblk 63 147) (zpcs 63 147) (147 + 1) = true := by decide +kernel
set_option maxRecDepth 100000 in
theorem zk_63_148 : zchkB 63 (zblk 63 148) (zpcs 63 148) (148 + 1) = true := by decide +kernel
set_option maxRecDepth 100000 in
theorem zk_63_149 : zchkB 63 (zblk 63 149) (zpcs 63 149) (149 + 1) = true := by decide +kernel
set_option maxRecDepth 100000 in
theorem zk_63_150 : zchkB 63 (zblk 63 150) (zpcs 63 150) (150 + 1) = true := by decide +kernel
set_option maxRecDepth 100000 in
theorem zk_63_151 : zchkB 63 (zblk 63 151) (zpcs 63 151) (151 + 1) = true := by decide +kernel
set_option maxRecDepth 100000 in
theorem zk_63_152 : zchkB 63 (zblk 63 152) (zpcs 63 152) (152 + 1) = true := by decide +kernel
set_option maxRecDepth 100000 in
theorem zk_63_153 : zchkB 63 (zblk 63 153) (zpcs 63 153) (153 + 1) = true := by decide +kernel
set_option maxRecDepth 100000 in
theorem zk_63_154 : zchkB 63 (zblk 63 154) (zpcs 63 154) (154 + 1) = true := by decide +kernel
set_option maxRecDepth 100000 in
theorem zk_63_155 : zchkB 63 (zblk 63 155) (zpcs 63 155) (155 + 1) = true := by decide +kernel
set_option maxRecDepth 100000 in
theorem zk_63_156 : zchkB 63 (zblk 63 156) (zpcs 63 156) (156 + 1) = true := by decide +kernel
set_option maxRecDepth 100000 in
theorem zk_63_157 : zchkB 63 (zblk 63 157) (zpcs 63 157) (157 + 1) = true := by decide +kernel
set_option maxRecDepth 100000 in
theorem zk_63_158 : zchkB 63 (zblk 63 158) (zpcs 63 158) (158 + 1) = true := by decide +kernel
set_option maxRecDepth 100000 in
theorem zk_63_159 : zchkB 63 (zblk 63 159) (zpcs 63 159) (159 + 1) = true := by decide +kernel
set_option maxRecDepth 100000 in
theorem zk_63_160 : zchkB 63 (zblk 63 160) (zpcs 63 160) (160 + 1) = true := by decide +kernel
set_option maxRecDepth 100000 in
theorem zk_63_161 : zchkB 63 (zblk 63 161) (zpcs 63 161) (161 + 1) = true := by decide +kernel
set_option maxRecDepth 100000 in
theorem zk_63_162 : zchkB 63 (zblk 63 162) (zpcs 63 162) (162 + 1) = true := by decide +kernel
set_option maxRecDepth 100000 in
theorem zk_63_163 : zchkB 63 (zblk 63 163) (zpcs 63 163) (163 + 1) = true := by decide +kernel
set_option maxRecDepth 100000 in
theorem zk_63_164 : zchkB 63 (zblk 63 164) (zpcs 63 164) (164 + 1) = true := by decide +kernel
set_option maxRecDepth 100000 in
theorem zk_63_all : ∀ b, b < 165 → zchkB 63 (zblk 63 b) (zpcs 63 b) (b + 1) = true := lt_s (lt_s (lt_s (lt_s (lt_s (lt_s (lt_s (lt_s (lt_s (lt_s (lt_s (lt_s (lt_s (lt_s (lt_s (lt_s (lt_s (lt_s (lt_s (lt_s (lt_s (lt_s (lt_s (lt_s (lt_s (lt_s (lt_s (lt_s (lt_s (lt_s (lt_s (lt_s (lt_s (lt_s (lt_s (lt_s (lt_s (lt_s (lt_s (lt_s (lt_s (lt_s (lt_s (lt_s (lt_s (lt_s (lt_s (lt_s (lt_s (lt_s (lt_s (lt_s (lt_s (lt_s (lt_s (lt_s (lt_s (lt_s (lt_s (lt_s (lt_s (lt_s (lt_s (lt_s (lt_s (lt_s (lt_s (lt_s (lt_s (lt_s (lt_s (lt_s (lt_s (lt_s (lt_s (lt_s (lt_s (lt_s (lt_s (lt_s (lt_s (lt_s (lt_s (lt_s (lt_s (lt_s (lt_s (lt_s (lt_s (lt_s (lt_s (lt_s (lt_s (lt_s (lt_s (lt_s (lt_s (lt_s (lt_s (lt_s (lt_s (lt_s (lt_s (lt_s (lt_s (lt_s (lt_s (lt_s (lt_s (lt_s (lt_s (lt_s (lt_s (lt_s (lt_s (lt_s (lt_s (lt_s (lt_s (lt_s (lt_s (lt_s (lt_s (lt_s (lt_s (lt_s (lt_s (lt_s (lt_s (lt_s (lt_s (lt_s (lt_s (lt_s (lt_s (lt_s (lt_s (lt_s (lt_s (lt_s (lt_s (lt_s (lt_s (lt_s (lt_s (lt_s (lt_s (lt_s (lt_s (lt_s (lt_s (lt_s (lt_s (lt_s (lt_s (lt_s (lt_s (lt_s (lt_s (lt_s (lt_s (lt_s (lt_s (lt_s (lt_s (lt_0) zk_63_0) zk_63_1) zk_63_2) zk_63_3) zk_63_4) zk_63_5) zk_63_6) zk_63_7) zk_63_8) zk_63_9) zk_63_10) zk_63_11) zk_63_12) zk_63_13) zk_63_14) zk_63_15) zk_63_16) zk_63_17) zk_63_18) zk_63_19) zk_63_20) zk_63_21) zk_63_22) zk_63_23) zk_63_24) zk_63_25) zk_63_26) zk_63_27) zk_63_28) zk_63_29) zk_63_30) zk_63_31) zk_63_32) zk_63_33) zk_63_34) zk_63_35) zk_63_36) zk_63_37) zk_63_38) zk_63_39) zk_63_40) zk_63_41) zk_63_42) zk_63_43) zk_63_44) zk_63_45) zk_63_46) zk_63_47) zk_63_48) zk_63_49) zk_63_50) zk_63_51) zk_63_52) zk_63_53) zk_63_54) zk_63_55) zk_63_56) zk_63_57) zk_63_58) zk_63_59) zk_63_60) zk_63_61) zk_63_62) zk_63_63) zk_63_64) zk_63_65) zk_63_66) zk_63_67) zk_63_68) zk_63_69) zk_63_70) zk_63_71) zk_63_72) zk_63_73) zk_63_74) zk_63_75) zk_63_76) zk_63_77) zk_63_78) zk_63_79) zk_63_80) zk_63_81) zk_63_82) zk_63_83) zk_63_84) zk_63_85) zk_63_86) zk_63_87) zk_63_88) zk_63_89) zk_63_90) zk_63_91) zk_63_92) zk_63_93) zk_63_94) zk_63_95) zk_63_96) zk_63_97) zk_63_98) zk_63_99) zk_63_100) zk_63_101) zk_63_102) zk_63_103) zk_63_104) zk_63_105) zk_63_106) zk_63_107) zk_63_108) zk_63_109) zk_63_110) zk_63_111) zk_63_112) zk_63_113) zk_63_114) zk_63_115) zk_63_116) zk_63_117) zk_63_118) zk_63_119) zk_63_120) zk_63_121) zk_63_122) zk_63_123) zk_63_124) zk_63_125) zk_63_126) zk_63_127) zk_63_128) zk_63_129) zk_63_130) zk_63_131) zk_63_132) zk_63_133) zk_63_134) zk_63_135) zk_63_136) zk_63_137) zk_63_138) zk_63_139) zk_63_140) zk_63_141) zk_63_142) zk_63_143) zk_63_144) zk_63_145) zk_63_146) zk_63_147) zk_63_148) zk_63_149) zk_63_150) zk_63_151) zk_63_152) zk_63_153) zk_63_154) zk_63_155) zk_63_156) zk_63_157) zk_63_158) zk_63_159) zk_63_160) zk_63_161) zk_63_162) zk_63_163) zk_63_164
theorem zk_63_len : (zM 63).1.length = 165 := by decide +kernel
theorem zk_63 : zchkM 63 = true := List.all_eq_true.mpr (fun b hb => zk_63_all b (by rw [← zk_63_len]; exact List.mem_range.mp hb))
theorem zMT_len : zMT.length ≤ 64 := by decide +kernel
theorem zk_out : ∀ k, 64 ≤ k → zchkM k = true := fun k h => by
  have e : zM k = ([], 0) := by
    unfold zM
    rw [List.getElem?_eq_none (Nat.le_trans zMT_len h)]
    rfl
  unfold zchkM
  rw [e]
  rfl
set_option maxRecDepth 100000 in
theorem zk_in : ∀ j, j < 64 → zchkM j = true := lt_s (lt_s (lt_s (lt_s (lt_s (lt_s (lt_s (lt_s (lt_s (lt_s (lt_s (lt_s (lt_s (lt_s (lt_s (lt_s (lt_s (lt_s (lt_s (lt_s (lt_s (lt_s (lt_s (lt_s (lt_s (lt_s (lt_s (lt_s (lt_s (lt_s (lt_s (lt_s (lt_s (lt_s (lt_s (lt_s (lt_s (lt_s (lt_s (lt_s (lt_s (lt_s (lt_s (lt_s (lt_s (lt_s (lt_s (lt_s (lt_s (lt_s (lt_s (lt_s (lt_s (lt_s (lt_s (lt_s (lt_s (lt_s (lt_s (lt_s (lt_s (lt_s (lt_s (lt_s (lt_0) zk_0) zk_1) zk_2) zk_3) zk_4) zk_5) zk_6) zk_7) zk_8) zk_9) zk_10) zk_11) zk_12) zk_13) zk_14) zk_15) zk_16) zk_17) zk_18) zk_19) zk_20) zk_21) zk_22) zk_23) zk_24) zk_25) zk_26) zk_27) zk_28) zk_29) zk_30) zk_31) zk_32) zk_33) zk_34) zk_35) zk_36) zk_37) zk_38) zk_39) zk_40) zk_41) zk_42) zk_43) zk_44) zk_45) zk_46) zk_47) zk_48) zk_49) zk_50) zk_51) zk_52) zk_53) zk_54) zk_55) zk_56) zk_57) zk_58) zk_59) zk_60) zk_61) zk_62) zk_63
theorem zk_all : ∀ k, zchkM k = true := fun k => by
  by_cases h : 64 ≤ k
  · exact zk_out k h
  · exact zk_in k (by omega)
set_option maxRecDepth 100000 in
theorem zk0 : ∀ k ∈ zvm ++ zsm, (zpcs k 0).headD 0 = 0 := by decide +kernel
