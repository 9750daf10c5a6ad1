/-! CHECKS, by program -/
theorem ck0 : chkR mi0 0 5 [(1, [78, 65])] = true := by decide +kernel
theorem cl0 : calB mi0 77 46 = true := by decide +kernel
theorem ck1 : chkR mi1 0 68 [(1, [111, 65]), (9, [112]), (17, [113]), (25, [114]), (33, [115]), (42, [116]), (50, [117]), (57, [118]), (64, [119])] = true := by decide +kernel
theorem cl1 : calB mi1 110 47 = true := by decide +kernel
theorem ck2 : chkR mi2 0 20 [(1, [146, 65]), (6, [166]), (11, [168]), (16, [178])] = true := by decide +kernel
theorem cl2 : calB mi2 145 48 = true := by decide +kernel
theorem ck3 : chkR mi3 0 21 [] = true := by decide +kernel
theorem cl3 : calB mi3 213 50 = true := by decide +kernel
theorem ck4 : chkR mi4 0 26 [(1, [210, 65]), (6, [214]), (14, [221]), (18, [221]), (22, [211, 212])] = true := by decide +kernel
theorem cl4 : calB mi4 209 49 = true := by decide +kernel
theorem ck5 : chkR mi5 0 5 [(1, [242, 65])] = true := by decide +kernel
theorem cl5 : calB mi5 241 51 = true := by decide +kernel
theorem ck6 : chkR mi6 0 135 [(1, [64, 65]), (7, [67]), (10, [259]), (16, [69]), (19, [260]), (25, [71]), (28, [261]), (32, [73]), (36, [75, 76]), (39, [262]), (43, [106]), (47, [108, 109]), (50, [263]), (62, [259]), (66, [67]), (70, [143, 144]), (89, [260]), (93, [69]), (97, [207, 208]), (116, [261]), (120, [71]), (124, [239, 240])] = true := by decide +kernel
theorem cl6 : calB mi6 63 45 = true := by decide +kernel
theorem ck7 : chkR mi7 0 193 [(1, [712, 65]), (9, [715]), (17, [716]), (25, [717]), (33, [718]), (41, [719]), (49, [720]), (57, [721]), (65, [722]), (73, [724]), (81, [725]), (89, [726]), (97, [727]), (105, [728]), (113, [729]), (121, [731]), (130, [732]), (138, [733]), (146, [734]), (154, [735]), (161, [739]), (168, [740]), (175, [741]), (182, [742]), (189, [743])] = true := by decide +kernel
theorem cl7 : calB mi7 711 52 = true := by decide +kernel
theorem ck8 : chkR mi8 0 39 [(7, [316]), (21, [316]), (28, [317, 318, 56, 359, 249, 77, 0])] = true := by decide +kernel
theorem cl8 : calB mi8 315 45 = true := by decide +kernel
theorem ck9 : chkR mi9 0 54 [(1, [264]), (12, [259]), (16, [264]), (21, [149]), (25, [259]), (29, [264]), (34, [152]), (39, [264]), (44, [264]), (48, [264])] = true := by decide +kernel
theorem cl9 : calB mi9 388 45 = true := by decide +kernel
theorem ck10 : chkR mi10 0 12 [(2, [313, 314]), (8, [385, 387, 2])] = true := by decide +kernel
theorem cl10 : calB mi10 312 45 = true := by decide +kernel
theorem ck11 : chkR mi11 0 20 [(6, [309, 310, 311])] = true := by decide +kernel
theorem cl11 : calB mi11 307 44 = true := by decide +kernel
theorem ck12 : chkR mi12 0 20 [(7, [819])] = true := by decide +kernel
theorem cl12 : calB mi12 818 52 = true := by decide +kernel
theorem ck13 : chkR mi13 0 51 [(1, [715]), (5, [714]), (11, [716]), (15, [714]), (21, [720]), (25, [714]), (31, [721]), (35, [714]), (42, [714]), (47, [714])] = true := by decide +kernel
theorem cl13 : calB mi13 823 52 = true := by decide +kernel
theorem ck14 : chkR mi14 0 56 [(2, [816, 817]), (9, [816, 817]), (20, [713]), (24, [713]), (33, [714]), (46, [820, 822, 26]), (50, [714])] = true := by decide +kernel
theorem cl14 : calB mi14 815 52 = true := by decide +kernel
theorem ck15 : chkR mi15 0 5 [(1, [713])] = true := by decide +kernel
theorem cl15 : calB mi15 811 52 = true := by decide +kernel
theorem ck16 : chkR mi16 0 18 [(6, [264])] = true := by decide +kernel
theorem cl16 : calB mi16 404 45 = true := by decide +kernel
theorem ck17 : chkR mi17 0 19 [(2, [401, 403, 4]), (8, [405, 406, 57, 415, 238, 180, 1])] = true := by decide +kernel
theorem cl17 : calB mi17 400 45 = true := by decide +kernel
theorem ck18 : chkR mi18 0 19 [] = true := by decide +kernel
theorem cl18 : calB mi18 427 45 = true := by decide +kernel
theorem ck19 : chkR mi19 0 31 [(1, [424]), (4, [425, 426]), (11, [424]), (14, [425, 426]), (20, [317, 318, 56, 359, 253, 77, 2])] = true := by decide +kernel
theorem cl19 : calB mi19 423 45 = true := by decide +kernel
theorem ck20 : chkR mi20 0 20 [(9, [317, 318, 56, 359, 255, 77, 3])] = true := by decide +kernel
theorem cl20 : calB mi20 431 45 = true := by decide +kernel
theorem ck21 : chkR mi21 0 33 [(1, [153]), (10, [159]), (19, [163])] = true := by decide +kernel
theorem cl21 : calB mi21 440 48 = true := by decide +kernel
theorem ck22 : chkR mi22 0 37 [(5, [437, 438, 439]), (20, [153]), (25, [159]), (31, [163])] = true := by decide +kernel
theorem cl22 : calB mi22 436 48 = true := by decide +kernel
theorem ck23 : chkR mi23 0 31 [(2, [397, 399, 3]), (8, [421, 422]), (13, [429, 430]), (17, [259]), (27, [433, 434, 435])] = true := by decide +kernel
theorem cl23 : calB mi23 396 45 = true := by decide +kernel
theorem ck24 : chkR mi24 0 35 [(10, [393, 394, 395])] = true := by decide +kernel
theorem cl24 : calB mi24 391 44 = true := by decide +kernel
theorem ck25 : chkR mi25 0 22 [(1, [831]), (9, [832])] = true := by decide +kernel
theorem cl25 : calB mi25 830 52 = true := by decide +kernel
theorem ck26 : chkR mi26 0 18 [(6, [714])] = true := by decide +kernel
theorem cl26 : calB mi26 836 52 = true := by decide +kernel
theorem ck27 : chkR mi27 0 67 [(1, [717]), (12, [718]), (24, [719]), (42, [717]), (49, [718]), (57, [719])] = true := by decide +kernel
theorem cl27 : calB mi27 840 52 = true := by decide +kernel
theorem ck28 : chkR mi28 0 85 [(1, [828, 829]), (9, [828, 829]), (36, [833, 835, 27]), (56, [713]), (60, [713]), (73, [837, 839, 28])] = true := by decide +kernel
theorem cl28 : calB mi28 827 52 = true := by decide +kernel
theorem ck29 : chkR mi29 0 28 [(1, [265]), (13, [265]), (18, [265]), (22, [265])] = true := by decide +kernel
theorem cl29 : calB mi29 294 45 = true := by decide +kernel
theorem ck30 : chkR mi30 0 5 [(1, [291, 293, 0])] = true := by decide +kernel
theorem cl30 : calB mi30 290 45 = true := by decide +kernel
theorem ck31 : chkR mi31 0 69 [(1, [724]), (5, [723]), (11, [725]), (15, [723]), (21, [726]), (25, [723]), (32, [727]), (36, [723]), (43, [728]), (47, [723]), (54, [723]), (59, [723]), (63, [723])] = true := by decide +kernel
theorem cl31 : calB mi31 860 52 = true := by decide +kernel
theorem ck32 : chkR mi32 0 27 [(2, [713]), (6, [723]), (23, [857, 859, 30])] = true := by decide +kernel
theorem cl32 : calB mi32 856 52 = true := by decide +kernel
theorem ck33 : chkR mi33 0 18 [(6, [265])] = true := by decide +kernel
theorem cl33 : calB mi33 455 45 = true := by decide +kernel
theorem ck34 : chkR mi34 0 19 [(2, [452, 454, 6]), (8, [405, 406, 57, 415, 243, 180, 4])] = true := by decide +kernel
theorem cl34 : calB mi34 451 45 = true := by decide +kernel
theorem ck35 : chkR mi35 0 14 [(1, [214])] = true := by decide +kernel
theorem cl35 : calB mi35 461 49 = true := by decide +kernel
theorem ck36 : chkR mi36 0 48 [(1, [260]), (6, [222]), (13, [260]), (19, [220]), (24, [220]), (28, [259]), (34, [167]), (38, [259]), (44, [169])] = true := by decide +kernel
theorem cl36 : calB mi36 465 45 = true := by decide +kernel
theorem ck37 : chkR mi37 0 81 [(2, [448, 450, 5]), (7, [397, 399, 3]), (20, [317, 318, 56, 359, 75, 77, 5]), (31, [260]), (36, [458, 459, 460]), (43, [259]), (48, [167]), (56, [260]), (61, [222]), (76, [462, 464, 7])] = true := by decide +kernel
theorem cl37 : calB mi37 447 45 = true := by decide +kernel
theorem ck38 : chkR mi38 0 32 [(7, [444, 445, 446])] = true := by decide +kernel
theorem cl38 : calB mi38 443 44 = true := by decide +kernel
theorem ck39 : chkR mi39 0 18 [(6, [723])] = true := by decide +kernel
theorem cl39 : calB mi39 868 52 = true := by decide +kernel
theorem ck40 : chkR mi40 0 40 [(4, [714]), (11, [720]), (21, [721])] = true := by decide +kernel
theorem cl40 : calB mi40 872 52 = true := by decide +kernel
theorem ck41 : chkR mi41 0 94 [(3, [865, 867, 31]), (11, [833, 835, 27]), (36, [713]), (40, [713]), (47, [724]), (57, [720]), (69, [869, 871, 32]), (79, [720]), (86, [721])] = true := by decide +kernel
theorem cl41 : calB mi41 864 52 = true := by decide +kernel
theorem ck42 : chkR mi42 0 47 [(1, [260]), (8, [458, 459, 460]), (15, [265]), (26, [264]), (31, [220])] = true := by decide +kernel
theorem cl42 : calB mi42 476 45 = true := by decide +kernel
theorem ck43 : chkR mi43 0 26 [(1, [153]), (5, [163]), (14, [148]), (21, [151])] = true := by decide +kernel
theorem cl43 : calB mi43 496 48 = true := by decide +kernel
theorem ck44 : chkR mi44 0 26 [(1, [159]), (5, [163]), (14, [151]), (21, [148])] = true := by decide +kernel
theorem cl44 : calB mi44 500 48 = true := by decide +kernel
theorem ck45 : chkR mi45 0 57 [(2, [147]), (5, [79]), (10, [150]), (13, [81]), (18, [154]), (21, [83]), (26, [158]), (29, [85]), (34, [493, 494, 495]), (37, [87]), (42, [497, 498, 499]), (45, [88]), (50, [164]), (53, [89])] = true := by decide +kernel
theorem cl45 : calB mi45 492 46 = true := by decide +kernel
theorem ck46 : chkR mi46 0 33 [(1, [83]), (7, [87]), (11, [83]), (17, [87]), (23, [89]), (29, [89])] = true := by decide +kernel
theorem cl46 : calB mi46 504 46 = true := by decide +kernel
theorem ck47 : chkR mi47 0 51 [(1, [85]), (6, [88]), (12, [83]), (15, [85]), (20, [87]), (23, [88]), (29, [83]), (35, [87]), (40, [89]), (47, [89])] = true := by decide +kernel
theorem cl47 : calB mi47 508 46 = true := by decide +kernel
theorem ck48 : chkR mi48 0 41 [(2, [83]), (7, [83]), (12, [87]), (17, [87]), (22, [85]), (27, [85]), (32, [88]), (37, [88])] = true := by decide +kernel
theorem cl48 : calB mi48 512 46 = true := by decide +kernel
theorem ck49 : chkR mi49 0 107 [(2, [215]), (5, [452, 454, 6]), (14, [260]), (18, [215]), (22, [222]), (30, [401, 403, 4]), (39, [262]), (43, [259]), (48, [489, 490, 491]), (52, [219]), (59, [262]), (62, [501, 502, 503]), (71, [218]), (78, [262]), (81, [505, 506, 507]), (91, [262]), (95, [216]), (99, [217]), (102, [509, 510, 511])] = true := by decide +kernel
theorem cl49 : calB mi49 488 45 = true := by decide +kernel
theorem ck50 : chkR mi50 0 66 [(2, [262]), (5, [80]), (9, [262]), (12, [82]), (15, [385, 387, 2]), (27, [259]), (33, [262]), (36, [84]), (40, [262]), (43, [86]), (47, [262]), (50, [90]), (53, [433, 434, 435]), (61, [462, 464, 7])] = true := by decide +kernel
theorem cl50 : calB mi50 520 45 = true := by decide +kernel
theorem ck51 : chkR mi51 0 113 [(1, [260]), (6, [222]), (14, [401, 403, 4]), (23, [517, 519, 13]), (28, [259]), (37, [170]), (46, [262]), (49, [84]), (53, [262]), (56, [86]), (60, [262]), (63, [90]), (66, [433, 434, 435]), (73, [262]), (76, [84]), (80, [262]), (83, [86]), (87, [262]), (90, [90]), (93, [521, 438, 439]), (101, [267]), (108, [267])] = true := by decide +kernel
theorem cl51 : calB mi51 516 45 = true := by decide +kernel
theorem ck52 : chkR mi52 0 44 [(12, [260]), (18, [485, 487, 11]), (27, [513, 515, 12])] = true := by decide +kernel
theorem cl52 : calB mi52 484 45 = true := by decide +kernel
theorem ck53 : chkR mi53 0 59 [(1, [291, 293, 0]), (15, [260]), (26, [215]), (32, [216]), (39, [217]), (46, [218]), (52, [481, 483, 10])] = true := by decide +kernel
theorem cl53 : calB mi53 480 45 = true := by decide +kernel
theorem ck54 : chkR mi54 0 38 [(2, [448, 450, 5]), (8, [421, 422]), (13, [429, 430]), (19, [473, 475, 8]), (34, [477, 479, 9])] = true := by decide +kernel
theorem cl54 : calB mi54 472 45 = true := by decide +kernel
theorem ck55 : chkR mi55 0 28 [(10, [469, 470, 471])] = true := by decide +kernel
theorem cl55 : calB mi55 468 44 = true := by decide +kernel
theorem ck56 : chkR mi56 0 38 [(6, [714]), (14, [720])] = true := by decide +kernel
theorem cl56 : calB mi56 880 52 = true := by decide +kernel
theorem ck57 : chkR mi57 0 27 [(1, [719]), (12, [715]), (21, [716])] = true := by decide +kernel
theorem cl57 : calB mi57 896 52 = true := by decide +kernel
theorem ck58 : chkR mi58 0 27 [(1, [719]), (12, [716]), (21, [715])] = true := by decide +kernel
theorem cl58 : calB mi58 900 52 = true := by decide +kernel
theorem ck59 : chkR mi59 0 181 [(1, [717]), (8, [718]), (18, [893, 895, 37]), (28, [897, 899, 38]), (35, [719]), (43, [728]), (75, [727]), (130, [725]), (136, [736]), (156, [726]), (162, [737]), (169, [727]), (177, [738])] = true := by decide +kernel
theorem cl59 : calB mi59 892 52 = true := by decide +kernel
