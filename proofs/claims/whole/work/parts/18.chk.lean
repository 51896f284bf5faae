/-! what the tables say stands among the claim's words (printed by wip/whole/gen/gen_chk.py) -/
def zTn (c s : Nat) : String × String × String × Bool := if c = 61 then (if s = 0 then ("java/lang/String", "value", "[B", false) else ("java/lang/String", "coder", "B", false)) else (vwCl.getD c (RX0, TX0, 5)).2.1 s
def zRs (o : Nat) : String := zR.getD o ""
def zSn (k : Nat) : String × String × String := if k = 0 then ("java/lang/String", "COMPACT_STRINGS", "Z") else ("jdk/internal/util/Preconditions", "SIOOBE_FORMATTER", "Ljava/util/function/BiFunction;")
def zPf : List (List (Nat × Nat × Nat × Nat)) := [[(9, 0, 1, 80), (15, 0, 2, 81), (18, 0, 3, 82), (21, 0, 4, 83), (24, 0, 0, 795)], [(9, 1, 0, 74), (15, 1, 2, 75), (18, 1, 7, 76), (21, 1, 1, 768), (24, 1, 3, 769), (27, 1, 4, 770), (30, 1, 5, 771), (33, 1, 6, 772)], [(11, 2, 2, 95), (17, 2, 3, 96), (21, 2, 4, 97), (24, 2, 5, 98), (28, 2, 0, 159), (32, 2, 1, 754), (41, 5, 2, 755), (51, 5, 0, 756), (61, 5, 3, 757), (65, 0, 0, 758)], [(9, 3, 3, 87), (15, 3, 4, 88), (18, 3, 5, 89), (21, 3, 0, 355), (25, 3, 1, 356), (29, 3, 2, 357), (38, 3, 6, 728)], [(12, 4, 0, 123), (21, 4, 1, 125), (25, 4, 7, 126), (35, 9, 1, 335), (39, 4, 2, 336), (52, 4, 3, 341), (55, 4, 4, 342), (59, 4, 5, 343), (62, 4, 6, 344), (65, 4, 8, 345), (92, 3, 0, 511), (99, 9, 2, 524)], [(12, 5, 0, 40), (21, 5, 1, 44), (28, 5, 2, 48), (35, 5, 3, 52), (42, 5, 4, 56), (66, 3, 1, 678), (70, 1, 0, 679), (82, 1, 3, 707), (62, 5, 5, 708), (105, 1, 7, 785), (119, 1, 4, 804), (125, 1, 5, 806), (128, 8, 0, 807)], [(9, 6, 1, 68), (15, 6, 2, 69), (18, 6, 3, 70), (21, 6, 0, 200), (31, 6, 4, 201), (34, 6, 5, 202), (37, 6, 6, 203)], [(9, 7, 1, 113), (15, 7, 2, 114), (18, 7, 3, 115), (21, 7, 4, 116), (24, 7, 0, 1155)], [(9, 8, 1, 61), (15, 8, 2, 62), (18, 8, 3, 63), (21, 8, 4, 64), (24, 8, 0, 179)], [(9, 9, 1, 130), (15, 9, 5, 132), (19, 9, 0, 304), (22, 9, 4, 350), (33, 9, 3, 362), (59, 9, 2, 441)], [(11, 10, 0, 102), (15, 10, 3, 103), (21, 10, 7, 105), (28, 10, 8, 107), (32, 10, 9, 108), (36, 10, 10, 109), (39, 5, 2, 974), (48, 1, 0, 975), (51, 5, 1, 976), (58, 5, 0, 977), (62, 8, 0, 978), (71, 1, 1, 979), (112, 10, 1, 1080), (115, 10, 2, 1081), (122, 10, 4, 1118), (125, 10, 5, 1119), (128, 10, 6, 1120)], [(10, 11, 0, 15), (16, 11, 1, 16), (22, 11, 3, 20), (29, 11, 4, 24), (36, 11, 5, 28), (43, 11, 6, 32), (47, 11, 8, 33), (51, 5, 2, 153), (55, 1, 6, 154), (63, 5, 0, 173), (67, 8, 0, 174), (80, 5, 1, 191), (84, 6, 0, 192), (286, 5, 5, 231), (146, 1, 0, 256), (277, 1, 1, 264), (104, 4, 0, 298), (108, 9, 0, 299), (122, 11, 7, 326), (125, 9, 3, 327), (128, 5, 4, 328), (132, 4, 1, 329), (139, 3, 0, 330), (184, 5, 3, 953), (205, 10, 0, 1016), (225, 10, 1, 1070), (228, 10, 2, 1071), (231, 10, 3, 1072), (241, 10, 4, 1111), (244, 10, 5, 1112), (247, 10, 6, 1113), (257, 7, 0, 1138), (273, 11, 2, 1212), (280, 1, 2, 1239), (283, 1, 3, 1240), (289, 1, 4, 1241), (292, 1, 5, 1242), (295, 0, 0, 1243), (296, 2, 0, 1244)], [(7, 12, 0, 137), (13, 12, 1, 138), (16, 12, 2, 139), (19, 12, 5, 140), (22, 12, 6, 141), (25, 12, 7, 142), (28, 12, 8, 143), (31, 12, 9, 144), (34, 12, 21, 145), (38, 12, 27, 146), (41, 12, 28, 147), (44, 12, 29, 148), (51, 12, 3, 168), (77, 12, 12, 309), (146, 12, 17, 580), (80, 12, 13, 581), (193, 12, 10, 582), (158, 12, 11, 583), (131, 12, 14, 584), (199, 12, 19, 585), (149, 12, 18, 586), (83, 12, 15, 591), (143, 12, 16, 592), (161, 12, 20, 621), (219, 12, 23, 834), (217, 12, 22, 835), (222, 12, 24, 836), (225, 12, 25, 837), (230, 12, 26, 842), (293, 12, 30, 1178), (299, 12, 4, 1234)], [], [], [], [], [(9, 61, 0, 390), (15, 61, 1, 396)], [], [], [], [], []]
def zPm : List (List (Nat × Nat × Nat)) := [[(28, 999, 1228)], [(39, 160, 812), (45, 161, 817), (48, 151, 821), (36, 157, 1037)], [(68, 81, 759), (35, 151, 760), (47, 152, 764), (55, 143, 773), (71, 35, 1203)], [(32, 999, 572), (45, 81, 729), (51, 80, 730), (41, 145, 731), (54, 146, 735), (57, 147, 739), (61, 148, 743), (64, 149, 747)], [(29, 54, 337), (46, 55, 346), (49, 56, 351), (32, 57, 358), (42, 94, 503), (68, 95, 507), (71, 96, 512), (95, 97, 516), (74, 98, 520), (102, 99, 525), (77, 100, 529), (80, 101, 533), (83, 102, 536), (105, 103, 540), (119, 104, 544), (86, 105, 548), (89, 106, 552), (109, 107, 556), (113, 108, 560), (116, 109, 564)], [(73, 134, 680), (77, 141, 709), (85, 142, 716), (88, 143, 720), (91, 144, 724), (95, 81, 784), (101, 35, 786), (108, 155, 787), (112, 156, 791), (116, 157, 796), (122, 80, 805), (131, 159, 808), (46, 250, 1217), (50, 224, 1222), (53, 152, 1223), (56, 251, 1224), (59, 110, 1229)], [(40, 32, 236), (57, 135, 684), (44, 136, 688), (48, 137, 691), (52, 141, 816), (25, 999, 1101)], [(32, 999, 1156), (28, 236, 1157), (38, 237, 1162), (43, 238, 1166)], [(34, 34, 244), (38, 44, 286), (28, 999, 1221)], [(25, 58, 363), (29, 59, 367), (36, 60, 370), (39, 61, 373), (55, 62, 377), (64, 63, 381), (90, 64, 385), (93, 66, 397), (42, 75, 434), (45, 76, 437), (50, 77, 442)], [(44, 152, 980), (54, 135, 981), (67, 159, 982), (74, 139, 983), (78, 133, 1001), (82, 140, 1002), (93, 208, 1029), (99, 209, 1033), (86, 224, 1097), (89, 23, 1102), (118, 228, 1121), (131, 136, 1125), (102, 233, 1143), (108, 234, 1147)], [(60, 14, 155), (72, 18, 175), (76, 22, 193), (89, 23, 196), (93, 29, 223), (297, 30, 227), (300, 31, 232), (303, 33, 240), (306, 35, 248), (309, 36, 252), (181, 37, 257), (312, 38, 260), (96, 34, 281), (100, 43, 282), (111, 47, 300), (115, 50, 314), (118, 53, 331), (133, 110, 568), (142, 133, 674), (149, 135, 694), (152, 138, 695), (315, 139, 699), (318, 140, 703), (322, 150, 750), (325, 153, 774), (328, 154, 780), (331, 158, 800), (156, 142, 905), (159, 143, 906), (162, 44, 907), (165, 182, 908), (168, 32, 920), (169, 185, 921), (172, 186, 925), (175, 187, 929), (178, 188, 933), (188, 193, 954), (194, 196, 966), (197, 197, 970), (201, 201, 996), (208, 207, 1025), (212, 210, 1038), (215, 215, 1058), (218, 218, 1073), (221, 219, 1076), (234, 223, 1093), (238, 227, 1114), (250, 232, 1139), (254, 235, 1151), (260, 239, 1170), (263, 243, 1187), (266, 246, 1199), (270, 249, 1213)], [(54, 16, 164), (47, 20, 184), (63, 25, 208), (66, 26, 211), (59, 27, 215), (70, 40, 269), (74, 41, 273), (155, 112, 587), (127, 113, 593), (134, 114, 597), (137, 115, 600), (98, 116, 604), (86, 64, 608), (92, 66, 609), (124, 117, 610), (140, 118, 614), (196, 119, 617), (152, 120, 622), (190, 121, 626), (164, 122, 630), (172, 123, 634), (168, 124, 638), (184, 125, 642), (175, 126, 646), (178, 127, 650), (181, 128, 654), (187, 129, 658), (267, 163, 826), (270, 164, 830), (248, 165, 838), (227, 166, 843), (214, 167, 847), (206, 168, 851), (210, 169, 855), (251, 170, 858), (254, 171, 862), (233, 172, 866), (236, 173, 870), (202, 174, 874), (239, 175, 877), (242, 176, 880), (257, 177, 883), (260, 178, 889), (245, 179, 893), (264, 180, 897), (273, 199, 988), (277, 203, 1007), (283, 212, 1046), (280, 213, 1050), (286, 221, 1086), (289, 230, 1130), (296, 241, 1179)], [(13, 13, 149), (17, 15, 160), (18, 17, 169), (21, 19, 180), (22, 21, 187), (26, 24, 204), (27, 28, 219), (31, 39, 265), (32, 42, 277), (36, 45, 290), (37, 46, 294), (41, 48, 305), (42, 49, 310), (46, 51, 318), (47, 52, 322), (51, 111, 576), (52, 130, 662), (55, 131, 666), (56, 132, 670), (59, 162, 822), (60, 181, 901), (64, 183, 912), (65, 184, 916), (68, 189, 937), (69, 190, 941), (72, 191, 945), (73, 192, 949), (76, 194, 958), (77, 195, 962), (80, 198, 984), (81, 200, 992), (84, 202, 1003), (85, 204, 1012), (88, 205, 1017), (89, 206, 1021), (92, 211, 1042), (93, 214, 1054), (96, 216, 1062), (97, 217, 1066), (100, 220, 1082), (101, 222, 1089), (105, 225, 1103), (106, 226, 1107), (109, 229, 1126), (110, 231, 1134), (113, 240, 1174), (114, 242, 1183), (117, 244, 1191), (118, 245, 1195), (122, 247, 1204), (123, 248, 1208), (127, 252, 1230), (128, 253, 1235), (131, 254, 1245)], [], [], [], [(335, 65, 391), (492, 67, 401), (495, 68, 405), (1059, 70, 413), (498, 71, 417), (633, 78, 446), (505, 64, 450), (637, 79, 451), (640, 84, 467), (1062, 88, 482)], [(9, 69, 409), (92, 80, 454), (38, 81, 458), (88, 82, 461), (95, 83, 464)], [(67, 72, 421), (48, 73, 424), (414, 69, 427), (71, 74, 428), (224, 80, 470), (183, 81, 471), (228, 85, 473), (96, 86, 476), (241, 87, 479), (244, 89, 485), (232, 90, 488), (164, 91, 491), (157, 92, 495), (161, 93, 499)], [], [], []]
def zPc : List (List (Nat × Int × Nat)) := [[], [(54, 1664525, 778), (55, 1013904223, 779)], [], [], [], [], [], [(42, 1000000, 1161)], [], [], [(77, 1000000, 1000)], [], [(57, 1664525, 887), (58, 1013904223, 888), (276, 1000000, 1011)], [], [(110, 55232, 498), (76, 56320, 502)], [(265, 1431655765, 713), (266, 858993459, 714), (267, 252645135, 715)], [], [], [], [(227, 65536, 472)], [], [], []]
def zPg : List (List (Nat × Nat × Nat)) := [[], [], [], [], [], [], [], [], [], [], [], [], [], [], [], [], [], [(38, 0, 395), (1053, 1, 412)], [], [], [], [], []]
theorem zPf_eq : zLf = zPf.map (fun r => r.map (fun e => (e.1, e.2.1, e.2.2.1))) := by decide +kernel
theorem zPm_eq : zLm = zPm.map (fun r => r.map (fun e => (e.1, e.2.1))) := by decide +kernel
theorem zPc_eq : zLc = zPc.map (fun r => r.map (fun e => (e.1, e.2.1))) := by decide +kernel
theorem zPg_eq : zLg = zPg.map (fun r => r.map (fun e => (e.1, e.2.1))) := by decide +kernel
def zcf (o : Nat) (e : Nat × Nat × Nat × Nat) : Bool := decide (wsL_law[e.2.2.2]? = some (.fieldLink (zRs o) e.1 (zTn e.2.1 e.2.2.1).1 (zTn e.2.1 e.2.2.1).2.1 (zTn e.2.1 e.2.2.1).2.2.1)) && (e.2.1 == 61 || decide (e.2.1 < 13 ∧ e.2.2.1 < (zFd.getD e.2.1 []).length))
def znm (y : Nat) : MethodName := if y = 999 then arraycopyName else zNm y
def zcmk (o : Nat) (e : Nat × Nat × Nat) : Bool := decide (wsL_law[e.2.2]? = some (.methodLink (zRs o) e.1 (znm e.2.1))) && (e.2.1 == 999 || decide (e.2.1 < 255 ∧ (znm e.2.1).name ≠ "<init>"))
def zcc (o : Nat) (e : Nat × Int × Nat) : Bool := decide (wsL_law[e.2.2]? = some (.constant (zRs o) e.1 (Int32.ofInt e.2.1)))
def zcg (o : Nat) (e : Nat × Nat × Nat) : Bool := decide (wsL_law[e.2.2]? = some (.fieldLink (zRs o) e.1 (zSn e.2.1).1 (zSn e.2.1).2.1 (zSn e.2.1).2.2)) && decide (e.2.1 < 2)
set_option maxRecDepth 20000 in
theorem zcf_0 : (zPf.getD 0 []).all (zcf 0) = true := by decide +kernel
set_option maxRecDepth 20000 in
theorem zcf_1 : (zPf.getD 1 []).all (zcf 1) = true := by decide +kernel
set_option maxRecDepth 20000 in
theorem zcf_2 : (zPf.getD 2 []).all (zcf 2) = true := by decide +kernel
set_option maxRecDepth 20000 in
theorem zcf_3 : (zPf.getD 3 []).all (zcf 3) = true := by decide +kernel
set_option maxRecDepth 20000 in
theorem zcf_4 : (zPf.getD 4 []).all (zcf 4) = true := by decide +kernel
set_option maxRecDepth 20000 in
theorem zcf_5 : (zPf.getD 5 []).all (zcf 5) = true := by decide +kernel
set_option maxRecDepth 20000 in
theorem zcf_6 : (zPf.getD 6 []).all (zcf 6) = true := by decide +kernel
set_option maxRecDepth 20000 in
theorem zcf_7 : (zPf.getD 7 []).all (zcf 7) = true := by decide +kernel
set_option maxRecDepth 20000 in
theorem zcf_8 : (zPf.getD 8 []).all (zcf 8) = true := by decide +kernel
set_option maxRecDepth 20000 in
theorem zcf_9 : (zPf.getD 9 []).all (zcf 9) = true := by decide +kernel
set_option maxRecDepth 20000 in
theorem zcf_10 : (zPf.getD 10 []).all (zcf 10) = true := by decide +kernel
set_option maxRecDepth 20000 in
theorem zcf_11 : (zPf.getD 11 []).all (zcf 11) = true := by decide +kernel
set_option maxRecDepth 20000 in
theorem zcf_12 : (zPf.getD 12 []).all (zcf 12) = true := by decide +kernel
set_option maxRecDepth 20000 in
theorem zcf_13 : (zPf.getD 13 []).all (zcf 13) = true := by decide +kernel
set_option maxRecDepth 20000 in
theorem zcf_14 : (zPf.getD 14 []).all (zcf 14) = true := by decide +kernel
set_option maxRecDepth 20000 in
theorem zcf_15 : (zPf.getD 15 []).all (zcf 15) = true := by decide +kernel
set_option maxRecDepth 20000 in
theorem zcf_16 : (zPf.getD 16 []).all (zcf 16) = true := by decide +kernel
set_option maxRecDepth 20000 in
theorem zcf_17 : (zPf.getD 17 []).all (zcf 17) = true := by decide +kernel
set_option maxRecDepth 20000 in
theorem zcf_18 : (zPf.getD 18 []).all (zcf 18) = true := by decide +kernel
set_option maxRecDepth 20000 in
theorem zcf_19 : (zPf.getD 19 []).all (zcf 19) = true := by decide +kernel
set_option maxRecDepth 20000 in
theorem zcf_20 : (zPf.getD 20 []).all (zcf 20) = true := by decide +kernel
set_option maxRecDepth 20000 in
theorem zcf_21 : (zPf.getD 21 []).all (zcf 21) = true := by decide +kernel
set_option maxRecDepth 20000 in
theorem zcf_22 : (zPf.getD 22 []).all (zcf 22) = true := by decide +kernel
theorem zcf_all : ∀ o, (zPf.getD o []).all (zcf o) = true := by
  intro o
  match o with
  | 0 => exact zcf_0
  | 1 => exact zcf_1
  | 2 => exact zcf_2
  | 3 => exact zcf_3
  | 4 => exact zcf_4
  | 5 => exact zcf_5
  | 6 => exact zcf_6
  | 7 => exact zcf_7
  | 8 => exact zcf_8
  | 9 => exact zcf_9
  | 10 => exact zcf_10
  | 11 => exact zcf_11
  | 12 => exact zcf_12
  | 13 => exact zcf_13
  | 14 => exact zcf_14
  | 15 => exact zcf_15
  | 16 => exact zcf_16
  | 17 => exact zcf_17
  | 18 => exact zcf_18
  | 19 => exact zcf_19
  | 20 => exact zcf_20
  | 21 => exact zcf_21
  | 22 => exact zcf_22
  | k + 23 => rw [List.getD_eq_getElem?_getD, List.getElem?_eq_none (Nat.le_trans (by decide +kernel : zPf.length ≤ 23) (by omega))]; rfl
set_option maxRecDepth 20000 in
theorem zcmk_0 : (zPm.getD 0 []).all (zcmk 0) = true := by decide +kernel
set_option maxRecDepth 20000 in
theorem zcmk_1 : (zPm.getD 1 []).all (zcmk 1) = true := by decide +kernel
set_option maxRecDepth 20000 in
theorem zcmk_2 : (zPm.getD 2 []).all (zcmk 2) = true := by decide +kernel
set_option maxRecDepth 20000 in
theorem zcmk_3 : (zPm.getD 3 []).all (zcmk 3) = true := by decide +kernel
set_option maxRecDepth 20000 in
theorem zcmk_4 : (zPm.getD 4 []).all (zcmk 4) = true := by decide +kernel
set_option maxRecDepth 20000 in
theorem zcmk_5 : (zPm.getD 5 []).all (zcmk 5) = true := by decide +kernel
set_option maxRecDepth 20000 in
theorem zcmk_6 : (zPm.getD 6 []).all (zcmk 6) = true := by decide +kernel
set_option maxRecDepth 20000 in
theorem zcmk_7 : (zPm.getD 7 []).all (zcmk 7) = true := by decide +kernel
set_option maxRecDepth 20000 in
theorem zcmk_8 : (zPm.getD 8 []).all (zcmk 8) = true := by decide +kernel
set_option maxRecDepth 20000 in
theorem zcmk_9 : (zPm.getD 9 []).all (zcmk 9) = true := by decide +kernel
set_option maxRecDepth 20000 in
theorem zcmk_10 : (zPm.getD 10 []).all (zcmk 10) = true := by decide +kernel
set_option maxRecDepth 20000 in
theorem zcmk_11 : (zPm.getD 11 []).all (zcmk 11) = true := by decide +kernel
set_option maxRecDepth 20000 in
theorem zcmk_12 : (zPm.getD 12 []).all (zcmk 12) = true := by decide +kernel
set_option maxRecDepth 20000 in
theorem zcmk_13 : (zPm.getD 13 []).all (zcmk 13) = true := by decide +kernel
set_option maxRecDepth 20000 in
theorem zcmk_14 : (zPm.getD 14 []).all (zcmk 14) = true := by decide +kernel
set_option maxRecDepth 20000 in
theorem zcmk_15 : (zPm.getD 15 []).all (zcmk 15) = true := by decide +kernel
set_option maxRecDepth 20000 in
theorem zcmk_16 : (zPm.getD 16 []).all (zcmk 16) = true := by decide +kernel
set_option maxRecDepth 20000 in
theorem zcmk_17 : (zPm.getD 17 []).all (zcmk 17) = true := by decide +kernel
set_option maxRecDepth 20000 in
theorem zcmk_18 : (zPm.getD 18 []).all (zcmk 18) = true := by decide +kernel
set_option maxRecDepth 20000 in
theorem zcmk_19 : (zPm.getD 19 []).all (zcmk 19) = true := by decide +kernel
set_option maxRecDepth 20000 in
theorem zcmk_20 : (zPm.getD 20 []).all (zcmk 20) = true := by decide +kernel
set_option maxRecDepth 20000 in
theorem zcmk_21 : (zPm.getD 21 []).all (zcmk 21) = true := by decide +kernel
set_option maxRecDepth 20000 in
theorem zcmk_22 : (zPm.getD 22 []).all (zcmk 22) = true := by decide +kernel
theorem zcmk_all : ∀ o, (zPm.getD o []).all (zcmk o) = true := by
  intro o
  match o with
  | 0 => exact zcmk_0
  | 1 => exact zcmk_1
  | 2 => exact zcmk_2
  | 3 => exact zcmk_3
  | 4 => exact zcmk_4
  | 5 => exact zcmk_5
  | 6 => exact zcmk_6
  | 7 => exact zcmk_7
  | 8 => exact zcmk_8
  | 9 => exact zcmk_9
  | 10 => exact zcmk_10
  | 11 => exact zcmk_11
  | 12 => exact zcmk_12
  | 13 => exact zcmk_13
  | 14 => exact zcmk_14
  | 15 => exact zcmk_15
  | 16 => exact zcmk_16
  | 17 => exact zcmk_17
  | 18 => exact zcmk_18
  | 19 => exact zcmk_19
  | 20 => exact zcmk_20
  | 21 => exact zcmk_21
  | 22 => exact zcmk_22
  | k + 23 => rw [List.getD_eq_getElem?_getD, List.getElem?_eq_none (Nat.le_trans (by decide +kernel : zPm.length ≤ 23) (by omega))]; rfl
set_option maxRecDepth 20000 in
theorem zcc_0 : (zPc.getD 0 []).all (zcc 0) = true := by decide +kernel
set_option maxRecDepth 20000 in
theorem zcc_1 : (zPc.getD 1 []).all (zcc 1) = true := by decide +kernel
set_option maxRecDepth 20000 in
theorem zcc_2 : (zPc.getD 2 []).all (zcc 2) = true := by decide +kernel
set_option maxRecDepth 20000 in
theorem zcc_3 : (zPc.getD 3 []).all (zcc 3) = true := by decide +kernel
set_option maxRecDepth 20000 in
theorem zcc_4 : (zPc.getD 4 []).all (zcc 4) = true := by decide +kernel
set_option maxRecDepth 20000 in
theorem zcc_5 : (zPc.getD 5 []).all (zcc 5) = true := by decide +kernel
set_option maxRecDepth 20000 in
theorem zcc_6 : (zPc.getD 6 []).all (zcc 6) = true := by decide +kernel
set_option maxRecDepth 20000 in
theorem zcc_7 : (zPc.getD 7 []).all (zcc 7) = true := by decide +kernel
set_option maxRecDepth 20000 in
theorem zcc_8 : (zPc.getD 8 []).all (zcc 8) = true := by decide +kernel
set_option maxRecDepth 20000 in
theorem zcc_9 : (zPc.getD 9 []).all (zcc 9) = true := by decide +kernel
set_option maxRecDepth 20000 in
theorem zcc_10 : (zPc.getD 10 []).all (zcc 10) = true := by decide +kernel
set_option maxRecDepth 20000 in
theorem zcc_11 : (zPc.getD 11 []).all (zcc 11) = true := by decide +kernel
set_option maxRecDepth 20000 in
theorem zcc_12 : (zPc.getD 12 []).all (zcc 12) = true := by decide +kernel
set_option maxRecDepth 20000 in
theorem zcc_13 : (zPc.getD 13 []).all (zcc 13) = true := by decide +kernel
set_option maxRecDepth 20000 in
theorem zcc_14 : (zPc.getD 14 []).all (zcc 14) = true := by decide +kernel
set_option maxRecDepth 20000 in
theorem zcc_15 : (zPc.getD 15 []).all (zcc 15) = true := by decide +kernel
set_option maxRecDepth 20000 in
theorem zcc_16 : (zPc.getD 16 []).all (zcc 16) = true := by decide +kernel
set_option maxRecDepth 20000 in
theorem zcc_17 : (zPc.getD 17 []).all (zcc 17) = true := by decide +kernel
set_option maxRecDepth 20000 in
theorem zcc_18 : (zPc.getD 18 []).all (zcc 18) = true := by decide +kernel
set_option maxRecDepth 20000 in
theorem zcc_19 : (zPc.getD 19 []).all (zcc 19) = true := by decide +kernel
set_option maxRecDepth 20000 in
theorem zcc_20 : (zPc.getD 20 []).all (zcc 20) = true := by decide +kernel
set_option maxRecDepth 20000 in
theorem zcc_21 : (zPc.getD 21 []).all (zcc 21) = true := by decide +kernel
set_option maxRecDepth 20000 in
theorem zcc_22 : (zPc.getD 22 []).all (zcc 22) = true := by decide +kernel
theorem zcc_all : ∀ o, (zPc.getD o []).all (zcc o) = true := by
  intro o
  match o with
  | 0 => exact zcc_0
  | 1 => exact zcc_1
  | 2 => exact zcc_2
  | 3 => exact zcc_3
  | 4 => exact zcc_4
  | 5 => exact zcc_5
  | 6 => exact zcc_6
  | 7 => exact zcc_7
  | 8 => exact zcc_8
  | 9 => exact zcc_9
  | 10 => exact zcc_10
  | 11 => exact zcc_11
  | 12 => exact zcc_12
  | 13 => exact zcc_13
  | 14 => exact zcc_14
  | 15 => exact zcc_15
  | 16 => exact zcc_16
  | 17 => exact zcc_17
  | 18 => exact zcc_18
  | 19 => exact zcc_19
  | 20 => exact zcc_20
  | 21 => exact zcc_21
  | 22 => exact zcc_22
  | k + 23 => rw [List.getD_eq_getElem?_getD, List.getElem?_eq_none (Nat.le_trans (by decide +kernel : zPc.length ≤ 23) (by omega))]; rfl
set_option maxRecDepth 20000 in
theorem zcg_0 : (zPg.getD 0 []).all (zcg 0) = true := by decide +kernel
set_option maxRecDepth 20000 in
theorem zcg_1 : (zPg.getD 1 []).all (zcg 1) = true := by decide +kernel
set_option maxRecDepth 20000 in
theorem zcg_2 : (zPg.getD 2 []).all (zcg 2) = true := by decide +kernel
set_option maxRecDepth 20000 in
theorem zcg_3 : (zPg.getD 3 []).all (zcg 3) = true := by decide +kernel
set_option maxRecDepth 20000 in
theorem zcg_4 : (zPg.getD 4 []).all (zcg 4) = true := by decide +kernel
set_option maxRecDepth 20000 in
theorem zcg_5 : (zPg.getD 5 []).all (zcg 5) = true := by decide +kernel
set_option maxRecDepth 20000 in
theorem zcg_6 : (zPg.getD 6 []).all (zcg 6) = true := by decide +kernel
set_option maxRecDepth 20000 in
theorem zcg_7 : (zPg.getD 7 []).all (zcg 7) = true := by decide +kernel
set_option maxRecDepth 20000 in
theorem zcg_8 : (zPg.getD 8 []).all (zcg 8) = true := by decide +kernel
set_option maxRecDepth 20000 in
theorem zcg_9 : (zPg.getD 9 []).all (zcg 9) = true := by decide +kernel
set_option maxRecDepth 20000 in
theorem zcg_10 : (zPg.getD 10 []).all (zcg 10) = true := by decide +kernel
set_option maxRecDepth 20000 in
theorem zcg_11 : (zPg.getD 11 []).all (zcg 11) = true := by decide +kernel
set_option maxRecDepth 20000 in
theorem zcg_12 : (zPg.getD 12 []).all (zcg 12) = true := by decide +kernel
set_option maxRecDepth 20000 in
theorem zcg_13 : (zPg.getD 13 []).all (zcg 13) = true := by decide +kernel
set_option maxRecDepth 20000 in
theorem zcg_14 : (zPg.getD 14 []).all (zcg 14) = true := by decide +kernel
set_option maxRecDepth 20000 in
theorem zcg_15 : (zPg.getD 15 []).all (zcg 15) = true := by decide +kernel
set_option maxRecDepth 20000 in
theorem zcg_16 : (zPg.getD 16 []).all (zcg 16) = true := by decide +kernel
set_option maxRecDepth 20000 in
theorem zcg_17 : (zPg.getD 17 []).all (zcg 17) = true := by decide +kernel
set_option maxRecDepth 20000 in
theorem zcg_18 : (zPg.getD 18 []).all (zcg 18) = true := by decide +kernel
set_option maxRecDepth 20000 in
theorem zcg_19 : (zPg.getD 19 []).all (zcg 19) = true := by decide +kernel
set_option maxRecDepth 20000 in
theorem zcg_20 : (zPg.getD 20 []).all (zcg 20) = true := by decide +kernel
set_option maxRecDepth 20000 in
theorem zcg_21 : (zPg.getD 21 []).all (zcg 21) = true := by decide +kernel
set_option maxRecDepth 20000 in
theorem zcg_22 : (zPg.getD 22 []).all (zcg 22) = true := by decide +kernel
theorem zcg_all : ∀ o, (zPg.getD o []).all (zcg o) = true := by
  intro o
  match o with
  | 0 => exact zcg_0
  | 1 => exact zcg_1
  | 2 => exact zcg_2
  | 3 => exact zcg_3
  | 4 => exact zcg_4
  | 5 => exact zcg_5
  | 6 => exact zcg_6
  | 7 => exact zcg_7
  | 8 => exact zcg_8
  | 9 => exact zcg_9
  | 10 => exact zcg_10
  | 11 => exact zcg_11
  | 12 => exact zcg_12
  | 13 => exact zcg_13
  | 14 => exact zcg_14
  | 15 => exact zcg_15
  | 16 => exact zcg_16
  | 17 => exact zcg_17
  | 18 => exact zcg_18
  | 19 => exact zcg_19
  | 20 => exact zcg_20
  | 21 => exact zcg_21
  | 22 => exact zcg_22
  | k + 23 => rw [List.getD_eq_getElem?_getD, List.getElem?_eq_none (Nat.le_trans (by decide +kernel : zPg.length ≤ 23) (by omega))]; rfl
def zMp : List (Nat × Nat × Nat × Nat) := [(8, 7, 0, 2), (35, 34, 0, 14), (58, 57, 0, 39), (66, 65, 0, 43), (72, 71, 0, 47), (78, 77, 0, 51), (85, 84, 0, 55), (92, 91, 0, 19), (100, 99, 0, 23), (111, 110, 0, 27), (118, 117, 0, 31), (128, 127, 0, 122), (135, 134, 0, 5), (152, 150, 151, 2), (158, 156, 157, 19), (163, 161, 162, 5), (167, 165, 166, 5), (172, 170, 171, 2), (178, 176, 177, 39), (183, 181, 182, 5), (186, 185, 0, 5), (190, 188, 189, 2), (195, 194, 0, 2), (199, 197, 198, 43), (207, 205, 206, 5), (210, 209, 0, 5), (214, 212, 213, 5), (218, 216, 217, 5), (222, 220, 221, 2), (226, 224, 225, 2), (230, 228, 229, 2), (235, 233, 234, 43), (239, 237, 238, 43), (243, 241, 242, 39), (247, 245, 246, 39), (251, 249, 250, 39), (255, 253, 254, 2), (259, 258, 0, 2), (263, 261, 262, 2), (268, 266, 267, 5), (272, 270, 271, 5), (276, 274, 275, 5), (280, 278, 279, 2), (285, 283, 284, 39), (289, 287, 288, 39), (293, 291, 292, 5), (297, 295, 296, 2), (303, 301, 302, 122), (308, 306, 307, 5), (313, 311, 312, 2), (317, 315, 316, 122), (321, 319, 320, 5), (325, 323, 324, 2), (334, 332, 333, 31), (340, 338, 339, 31), (349, 347, 348, 122), (354, 352, 353, 55), (361, 359, 360, 122), (366, 364, 365, 122), (369, 368, 0, 122), (372, 371, 0, 122), (376, 374, 375, 122), (380, 378, 379, 122), (384, 382, 383, 122), (389, 386, 387, 388), (394, 392, 393, 388), (400, 398, 399, 388), (404, 402, 403, 388), (408, 406, 0, 407), (411, 410, 0, 388), (416, 414, 0, 415), (420, 418, 0, 419), (423, 422, 0, 419), (426, 425, 0, 419), (430, 429, 0, 419), (436, 435, 0, 122), (440, 438, 439, 122), (445, 443, 444, 388), (449, 447, 448, 388), (453, 452, 0, 407), (457, 455, 0, 762), (460, 459, 0, 762), (463, 462, 0, 407), (466, 465, 0, 407), (469, 468, 0, 419), (475, 474, 0, 419), (478, 477, 0, 419), (481, 480, 0, 388), (484, 483, 0, 415), (487, 486, 0, 419), (490, 489, 0, 419), (494, 492, 0, 493), (497, 496, 0, 493), (501, 500, 0, 493), (506, 504, 505, 31), (510, 508, 509, 31), (515, 513, 514, 31), (519, 517, 518, 31), (523, 521, 522, 31), (528, 526, 527, 55), (532, 530, 531, 31), (535, 534, 0, 31), (539, 537, 538, 31), (543, 541, 542, 31), (547, 545, 546, 31), (551, 549, 550, 31), (555, 553, 554, 31), (559, 557, 558, 31), (563, 561, 562, 31), (567, 565, 566, 31), (571, 569, 570, 55), (579, 577, 578, 5), (590, 588, 589, 5), (596, 594, 595, 5), (599, 598, 0, 5), (603, 601, 602, 5), (607, 605, 606, 5), (613, 611, 612, 5), (616, 615, 0, 5), (620, 618, 619, 5), (625, 623, 624, 5), (629, 627, 628, 5), (633, 631, 632, 5), (637, 635, 636, 5), (641, 639, 640, 5), (645, 643, 644, 5), (649, 647, 648, 5), (653, 651, 652, 5), (657, 655, 656, 5), (661, 659, 660, 5), (665, 663, 664, 2), (669, 667, 668, 5), (673, 671, 672, 2), (677, 675, 676, 14), (683, 681, 682, 43), (687, 685, 686, 43), (690, 689, 0, 43), (693, 692, 0, 43), (698, 696, 697, 2), (702, 700, 701, 39), (706, 704, 705, 14), (712, 710, 0, 711), (719, 717, 718, 39), (723, 721, 722, 39), (727, 725, 726, 55), (734, 732, 733, 55), (738, 736, 737, 55), (742, 740, 741, 55), (746, 744, 745, 55), (749, 748, 0, 55), (753, 751, 752, 19), (763, 761, 0, 762), (767, 765, 766, 47), (777, 775, 776, 47), (783, 781, 782, 14), (790, 788, 789, 39), (794, 792, 793, 51), (799, 797, 798, 47), (803, 801, 802, 14), (811, 809, 810, 47), (815, 813, 814, 43), (820, 818, 819, 43), (825, 823, 824, 5), (829, 827, 828, 5), (833, 831, 832, 5), (841, 839, 840, 5), (846, 844, 845, 5), (850, 848, 849, 5), (854, 852, 853, 5), (857, 856, 0, 5), (861, 859, 860, 5), (865, 863, 864, 5), (869, 867, 868, 5), (873, 871, 872, 5), (876, 875, 0, 5), (879, 878, 0, 5), (882, 881, 0, 5), (886, 884, 885, 5), (892, 890, 891, 5), (896, 894, 895, 5), (900, 898, 899, 5), (904, 902, 903, 2), (911, 909, 910, 2), (915, 913, 914, 5), (919, 917, 918, 2), (924, 922, 923, 43), (928, 926, 927, 43), (932, 930, 931, 43), (936, 934, 935, 43), (940, 938, 939, 5), (944, 942, 943, 2), (948, 946, 947, 5), (952, 950, 951, 2), (957, 955, 956, 51), (961, 959, 960, 5), (965, 963, 964, 2), (969, 967, 968, 2), (973, 971, 972, 23), (987, 985, 986, 5), (991, 989, 990, 5), (995, 993, 994, 2), (999, 997, 998, 23), (1006, 1004, 1005, 5), (1010, 1008, 1009, 5), (1015, 1013, 1014, 2), (1020, 1018, 1019, 5), (1024, 1022, 1023, 2), (1028, 1026, 1027, 23), (1032, 1030, 0, 1031), (1036, 1034, 1035, 47), (1041, 1039, 1040, 23), (1045, 1043, 1044, 5), (1049, 1047, 1048, 5), (1053, 1051, 1052, 5), (1057, 1055, 1056, 2), (1061, 1059, 1060, 23), (1065, 1063, 1064, 5), (1069, 1067, 1068, 2), (1075, 1074, 0, 2), (1079, 1077, 1078, 23), (1085, 1083, 1084, 5), (1088, 1087, 0, 5), (1092, 1090, 1091, 2), (1096, 1094, 1095, 23), (1100, 1098, 1099, 43), (1106, 1104, 1105, 5), (1110, 1108, 1109, 2), (1117, 1115, 1116, 23), (1124, 1122, 1123, 23), (1129, 1127, 1128, 5), (1133, 1131, 1132, 5), (1137, 1135, 1136, 2), (1142, 1140, 1141, 23), (1146, 1144, 1145, 27), (1150, 1148, 1149, 27), (1154, 1152, 1153, 27), (1160, 1158, 1159, 27), (1165, 1163, 1164, 27), (1169, 1167, 1168, 27), (1173, 1171, 1172, 27), (1177, 1175, 1176, 5), (1182, 1180, 1181, 5), (1186, 1184, 1185, 2), (1190, 1188, 1189, 51), (1194, 1192, 1193, 5), (1198, 1196, 1197, 2), (1202, 1200, 1201, 19), (1207, 1205, 1206, 5), (1211, 1209, 1210, 2), (1216, 1214, 1215, 14), (1220, 1218, 1219, 39), (1227, 1225, 1226, 51), (1233, 1231, 1232, 5), (1238, 1236, 1237, 2), (1248, 1246, 1247, 5)]
def zcw (y : Nat) : Bool := match zMp[y]? with
  | some (a, b, c, e) => decide (wsL_law[a]? = some (.code (zNm y) (zBy y) (zMl y) (zRy y))) && decide (wsL_law[b]? = some (if zSt y then .static (zNm y) else .instanceMethod (zNm y))) && (zSt y || (zNm y).name == "<init>" || decide (wsL_law[c]? = some (.selects (zNm y).cls (zNm y) (zNm y)))) && decide (wsL_law[e]? = some (.initialized (zNm y).cls)) && decide ((zNm y).cls = zRs (zOw y)) && plainFor (zNm y) && decide ((zNm y).cls ≠ "java/lang/invoke/MethodHandle" ∧ (zNm y).cls ≠ "java/lang/invoke/VarHandle") && decide ((parseMethodDescriptor (zNm y).desc).map (fun q => q.parameters.length + (if zSt y then 0 else 1)) = some (zNa y)) && decide (zMl y ≤ 21) && (zSt y || (zNm y).name == "<init>" || decide (zRs (zOw y) = (if zKd y = 61 then "java/lang/String" else (vwCl.getD (zKd y) (RX0, TX0, 5)).1) ∧ (zKd y < 13 ∨ zKd y = 61)))
  | none => false
set_option maxRecDepth 20000 in
theorem zcw_0 : ∀ y, y < 12 → 0 ≤ y → zcw y = true := by decide +kernel
set_option maxRecDepth 20000 in
theorem zcw_12 : ∀ y, y < 24 → 12 ≤ y → zcw y = true := by decide +kernel
set_option maxRecDepth 20000 in
theorem zcw_24 : ∀ y, y < 36 → 24 ≤ y → zcw y = true := by decide +kernel
set_option maxRecDepth 20000 in
theorem zcw_36 : ∀ y, y < 48 → 36 ≤ y → zcw y = true := by decide +kernel
set_option maxRecDepth 20000 in
theorem zcw_48 : ∀ y, y < 60 → 48 ≤ y → zcw y = true := by decide +kernel
set_option maxRecDepth 20000 in
theorem zcw_60 : ∀ y, y < 72 → 60 ≤ y → zcw y = true := by decide +kernel
set_option maxRecDepth 20000 in
theorem zcw_72 : ∀ y, y < 84 → 72 ≤ y → zcw y = true := by decide +kernel
set_option maxRecDepth 20000 in
theorem zcw_84 : ∀ y, y < 96 → 84 ≤ y → zcw y = true := by decide +kernel
set_option maxRecDepth 20000 in
theorem zcw_96 : ∀ y, y < 108 → 96 ≤ y → zcw y = true := by decide +kernel
set_option maxRecDepth 20000 in
theorem zcw_108 : ∀ y, y < 120 → 108 ≤ y → zcw y = true := by decide +kernel
set_option maxRecDepth 20000 in
theorem zcw_120 : ∀ y, y < 132 → 120 ≤ y → zcw y = true := by decide +kernel
set_option maxRecDepth 20000 in
theorem zcw_132 : ∀ y, y < 144 → 132 ≤ y → zcw y = true := by decide +kernel
set_option maxRecDepth 20000 in
theorem zcw_144 : ∀ y, y < 156 → 144 ≤ y → zcw y = true := by decide +kernel
set_option maxRecDepth 20000 in
theorem zcw_156 : ∀ y, y < 168 → 156 ≤ y → zcw y = true := by decide +kernel
set_option maxRecDepth 20000 in
theorem zcw_168 : ∀ y, y < 180 → 168 ≤ y → zcw y = true := by decide +kernel
set_option maxRecDepth 20000 in
theorem zcw_180 : ∀ y, y < 192 → 180 ≤ y → zcw y = true := by decide +kernel
set_option maxRecDepth 20000 in
theorem zcw_192 : ∀ y, y < 204 → 192 ≤ y → zcw y = true := by decide +kernel
set_option maxRecDepth 20000 in
theorem zcw_204 : ∀ y, y < 216 → 204 ≤ y → zcw y = true := by decide +kernel
set_option maxRecDepth 20000 in
theorem zcw_216 : ∀ y, y < 228 → 216 ≤ y → zcw y = true := by decide +kernel
set_option maxRecDepth 20000 in
theorem zcw_228 : ∀ y, y < 240 → 228 ≤ y → zcw y = true := by decide +kernel
set_option maxRecDepth 20000 in
theorem zcw_240 : ∀ y, y < 252 → 240 ≤ y → zcw y = true := by decide +kernel
set_option maxRecDepth 20000 in
theorem zcw_252 : ∀ y, y < 255 → 252 ≤ y → zcw y = true := by decide +kernel
theorem zcw_all : ∀ y, y < 255 → zcw y = true := by
  intro y h
  by_cases h0 : y < 12
  · exact zcw_0 y h0 (by omega)
  by_cases h12 : y < 24
  · exact zcw_12 y h12 (by omega)
  by_cases h24 : y < 36
  · exact zcw_24 y h24 (by omega)
  by_cases h36 : y < 48
  · exact zcw_36 y h36 (by omega)
  by_cases h48 : y < 60
  · exact zcw_48 y h48 (by omega)
  by_cases h60 : y < 72
  · exact zcw_60 y h60 (by omega)
  by_cases h72 : y < 84
  · exact zcw_72 y h72 (by omega)
  by_cases h84 : y < 96
  · exact zcw_84 y h84 (by omega)
  by_cases h96 : y < 108
  · exact zcw_96 y h96 (by omega)
  by_cases h108 : y < 120
  · exact zcw_108 y h108 (by omega)
  by_cases h120 : y < 132
  · exact zcw_120 y h120 (by omega)
  by_cases h132 : y < 144
  · exact zcw_132 y h132 (by omega)
  by_cases h144 : y < 156
  · exact zcw_144 y h144 (by omega)
  by_cases h156 : y < 168
  · exact zcw_156 y h156 (by omega)
  by_cases h168 : y < 180
  · exact zcw_168 y h168 (by omega)
  by_cases h180 : y < 192
  · exact zcw_180 y h180 (by omega)
  by_cases h192 : y < 204
  · exact zcw_192 y h192 (by omega)
  by_cases h204 : y < 216
  · exact zcw_204 y h204 (by omega)
  by_cases h216 : y < 228
  · exact zcw_216 y h216 (by omega)
  by_cases h228 : y < 240
  · exact zcw_228 y h228 (by omega)
  by_cases h240 : y < 252
  · exact zcw_240 y h240 (by omega)
  exact zcw_252 y h (by omega)
def zSr : List (String × Nat × String) := [("SevenUnsaid$Tape", 62, "err"), ("SevenUnsaid$Tape", 68, "when"), ("SevenUnsaid$Tape", 70, "or"), ("SevenUnsaid$Tape", 72, "and"), ("SevenUnsaid$Tape", 74, "not"), ("SevenUnsaid$Tape", 76, "number"), ("SevenUnsaid$Tape", 78, "words"), ("SevenUnsaid$Tape", 80, "turned"), ("SevenUnsaid$Tape", 82, "weak"), ("SevenUnsaid$Tape", 84, "glasses"), ("SevenUnsaid$Tape", 86, "run"), ("SevenUnsaid$Tape", 88, "pace"), ("SevenUnsaid$Tape", 48, ";+-*/()<=>"), ("SevenUnsaidModel", 114, "when"), ("SevenUnsaidModel", 116, "or"), ("SevenUnsaidModel", 118, "and"), ("SevenUnsaidModel", 120, "not"), ("SevenUnsaidModel", 122, "err"), ("SevenUnsaidModel", 96, "number"), ("SevenUnsaidModel", 102, "words"), ("SevenUnsaidModel", 104, "turned"), ("SevenUnsaidModel", 106, "weak"), ("SevenUnsaidModel", 108, "glasses"), ("SevenUnsaidModel", 110, "run"), ("SevenUnsaidModel", 112, "pace")]
theorem zLs_ok : ∀ o, ∀ e ∈ zLs.getD o [], e.2 < 25 ∧ zSr.getD e.2 ("", 0, "") = (zRs o, e.1, (zSr.getD e.2 ("", 0, "")).2.2) := by
  intro o
  match o with
  | 0 => decide +kernel
  | 1 => decide +kernel
  | 2 => decide +kernel
  | 3 => decide +kernel
  | 4 => decide +kernel
  | 5 => decide +kernel
  | 6 => decide +kernel
  | 7 => decide +kernel
  | 8 => decide +kernel
  | 9 => decide +kernel
  | 10 => decide +kernel
  | 11 => decide +kernel
  | 12 => decide +kernel
  | 13 => decide +kernel
  | 14 => decide +kernel
  | 15 => decide +kernel
  | 16 => decide +kernel
  | 17 => decide +kernel
  | 18 => decide +kernel
  | 19 => decide +kernel
  | 20 => decide +kernel
  | 21 => decide +kernel
  | 22 => decide +kernel
  | k + 23 => rw [List.getD_eq_getElem?_getD, List.getElem?_eq_none (Nat.le_trans (by decide +kernel : zLs.length ≤ 23) (by omega))]; intro e h; exact absurd h List.not_mem_nil
