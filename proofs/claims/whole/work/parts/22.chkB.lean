/-! CHECKS, by program -/
theorem ck60 : chkR mi60 0 65 [(3, [889, 891, 36]), (7, [714]), (13, [715]), (19, [716]), (24, [820, 822, 26]), (30, [736]), (34, [737]), (38, [738]), (41, [837, 839, 28]), (46, [720]), (53, [721]), (58, [721])] = true := by decide +kernel
theorem cl60 : calB mi60 888 52 = true := by decide +kernel
theorem ck61 : chkR mi61 0 54 [(7, [857, 859, 30]), (26, [869, 871, 32]), (42, [885, 887, 35])] = true := by decide +kernel
theorem cl61 : calB mi61 884 52 = true := by decide +kernel
theorem ck62 : chkR mi62 0 115 [(1, [828, 829]), (9, [828, 829]), (36, [865, 867, 31]), (56, [713]), (60, [713]), (69, [724]), (79, [723]), (88, [714]), (93, [877, 879, 33]), (111, [881, 883, 34])] = true := by decide +kernel
theorem cl62 : calB mi62 876 52 = true := by decide +kernel
theorem ck63 : chkR mi63 0 32 [(2, [167]), (5, [452, 454, 6]), (12, [260]), (16, [167]), (20, [458, 459, 460])] = true := by decide +kernel
theorem cl63 : calB mi63 532 45 = true := by decide +kernel
theorem ck64 : chkR mi64 0 48 [(2, [397, 399, 3]), (8, [421, 422]), (12, [259]), (22, [529, 531, 14]), (31, [170]), (41, [165]), (44, [433, 434, 435])] = true := by decide +kernel
theorem cl64 : calB mi64 528 45 = true := by decide +kernel
theorem ck65 : chkR mi65 0 33 [(8, [525, 526, 527])] = true := by decide +kernel
theorem cl65 : calB mi65 524 44 = true := by decide +kernel
theorem ck66 : chkR mi66 0 31 [(1, [720]), (11, [724]), (15, [720])] = true := by decide +kernel
theorem cl66 : calB mi66 848 52 = true := by decide +kernel
theorem ck67 : chkR mi67 0 75 [(3, [833, 835, 27]), (14, [828, 829]), (22, [828, 829]), (33, [713]), (37, [713]), (47, [845, 847, 29]), (54, [722]), (66, [719]), (71, [837, 839, 28])] = true := by decide +kernel
theorem cl67 : calB mi67 844 52 = true := by decide +kernel
theorem ck68 : chkR mi68 0 65 [(2, [448, 450, 5]), (6, [260]), (11, [458, 459, 460]), (21, [267]), (30, [265]), (37, [260]), (42, [215]), (52, [481, 483, 10])] = true := by decide +kernel
theorem cl68 : calB mi68 539 45 = true := by decide +kernel
theorem ck69 : chkR mi69 0 17 [(4, [536, 537, 538])] = true := by decide +kernel
theorem cl69 : calB mi69 535 44 = true := by decide +kernel
theorem ck70 : chkR mi70 0 133 [(10, [869, 871, 32]), (22, [714]), (35, [885, 887, 35]), (43, [889, 891, 36]), (47, [722]), (60, [736]), (64, [737]), (68, [738]), (71, [837, 839, 28]), (76, [729]), (82, [717]), (89, [736]), (97, [718]), (104, [737]), (112, [719]), (119, [738])] = true := by decide +kernel
theorem cl70 : calB mi70 914 52 = true := by decide +kernel
theorem ck71 : chkR mi71 0 131 [(3, [865, 867, 31]), (14, [713]), (18, [713]), (25, [724]), (45, [729]), (63, [723]), (70, [724]), (99, [869, 871, 32]), (104, [911, 913, 39])] = true := by decide +kernel
theorem cl71 : calB mi71 910 52 = true := by decide +kernel
theorem ck72 : chkR mi72 0 16 [] = true := by decide +kernel
theorem cl72 : calB mi72 304 45 = true := by decide +kernel
theorem ck73 : chkR mi73 0 40 [(15, [302, 303])] = true := by decide +kernel
theorem cl73 : calB mi73 301 45 = true := by decide +kernel
theorem ck74 : chkR mi74 0 9 [(1, [267]), (5, [299, 300])] = true := by decide +kernel
theorem cl74 : calB mi74 298 45 = true := by decide +kernel
theorem ck75 : chkR mi75 0 50 [(2, [713]), (11, [714]), (22, [729])] = true := by decide +kernel
theorem cl75 : calB mi75 918 52 = true := by decide +kernel
theorem ck76 : chkR mi76 0 23 [(2, [243]), (7, [244]), (13, [245]), (19, [246])] = true := by decide +kernel
theorem cl76 : calB mi76 554 51 = true := by decide +kernel
theorem ck77 : chkR mi77 0 114 [(14, [317, 318, 56, 359, 133, 77, 6]), (25, [548]), (33, [548]), (42, [549]), (51, [549]), (58, [317, 318, 56, 359, 139, 77, 7]), (69, [266]), (80, [261]), (84, [266]), (94, [551, 552, 553]), (99, [266]), (104, [266]), (108, [266])] = true := by decide +kernel
theorem cl77 : calB mi77 546 45 = true := by decide +kernel
theorem ck78 : chkR mi78 0 24 [(10, [543, 544, 545])] = true := by decide +kernel
theorem cl78 : calB mi78 542 44 = true := by decide +kernel
theorem ck79 : chkR mi79 0 22 [(1, [930]), (9, [931])] = true := by decide +kernel
theorem cl79 : calB mi79 929 52 = true := by decide +kernel
theorem ck80 : chkR mi80 0 138 [(16, [927, 928]), (23, [927, 928]), (31, [927, 928]), (39, [927, 928]), (50, [713]), (54, [713]), (63, [730]), (75, [730]), (82, [731]), (90, [731]), (100, [731]), (111, [731]), (123, [730]), (128, [730]), (132, [730])] = true := by decide +kernel
theorem cl80 : calB mi80 926 52 = true := by decide +kernel
theorem ck81 : chkR mi81 0 23 [(6, [266]), (12, [405, 406, 57, 415, 245, 180, 8])] = true := by decide +kernel
theorem cl81 : calB mi81 565 45 = true := by decide +kernel
theorem ck82 : chkR mi82 0 47 [(2, [562, 564, 15]), (7, [397, 399, 3]), (11, [261]), (16, [247]), (20, [302, 303]), (29, [261]), (35, [247]), (42, [247])] = true := by decide +kernel
theorem cl82 : calB mi82 561 45 = true := by decide +kernel
theorem ck83 : chkR mi83 0 26 [(5, [558, 559, 560])] = true := by decide +kernel
theorem cl83 : calB mi83 557 44 = true := by decide +kernel
theorem ck84 : chkR mi84 0 18 [(6, [730])] = true := by decide +kernel
theorem cl84 : calB mi84 939 52 = true := by decide +kernel
theorem ck85 : chkR mi85 0 62 [(3, [936, 938, 40]), (11, [833, 835, 27]), (22, [713]), (26, [713]), (33, [732]), (49, [732])] = true := by decide +kernel
theorem cl85 : calB mi85 935 52 = true := by decide +kernel
theorem ck86 : chkR mi86 0 54 [(1, [155]), (5, [243]), (13, [578, 494, 495]), (17, [245]), (25, [160]), (29, [244]), (37, [579, 498, 499]), (41, [246])] = true := by decide +kernel
theorem cl86 : calB mi86 577 51 = true := by decide +kernel
theorem ck87 : chkR mi87 0 74 [(2, [562, 564, 15]), (13, [264]), (20, [261]), (25, [247]), (30, [302, 303]), (37, [261]), (43, [259]), (49, [574, 575, 576]), (70, [299, 300])] = true := by decide +kernel
theorem cl87 : calB mi87 573 45 = true := by decide +kernel
theorem ck88 : chkR mi88 0 19 [(5, [570, 571, 572])] = true := by decide +kernel
theorem cl88 : calB mi88 569 44 = true := by decide +kernel
theorem ck89 : chkR mi89 0 189 [(3, [936, 938, 40]), (14, [713]), (18, [713]), (39, [714]), (50, [717]), (57, [731]), (68, [718]), (75, [731]), (88, [717]), (97, [893, 895, 37]), (102, [731]), (115, [718]), (124, [897, 899, 38]), (129, [731]), (149, [732])] = true := by decide +kernel
theorem cl89 : calB mi89 943 52 = true := by decide +kernel
theorem ck90 : chkR mi90 0 11 [(2, [172]), (7, [178])] = true := by decide +kernel
theorem cl90 : calB mi90 590 48 = true := by decide +kernel
theorem ck91 : chkR mi91 0 35 [(6, [264]), (13, [259]), (18, [173])] = true := by decide +kernel
theorem cl91 : calB mi91 594 45 = true := by decide +kernel
theorem ck92 : chkR mi92 0 21 [(2, [172]), (7, [175]), (12, [177]), (17, [178])] = true := by decide +kernel
theorem cl92 : calB mi92 598 48 = true := by decide +kernel
theorem ck93 : chkR mi93 0 48 [(10, [615]), (19, [153]), (23, [615]), (32, [617, 494, 495]), (39, [153]), (43, [175])] = true := by decide +kernel
theorem cl93 : calB mi93 614 48 = true := by decide +kernel
theorem ck94 : chkR mi94 0 48 [(10, [622]), (19, [159]), (23, [622]), (32, [624, 498, 499]), (39, [159]), (43, [177])] = true := by decide +kernel
theorem cl94 : calB mi94 621 48 = true := by decide +kernel
theorem ck95 : chkR mi95 0 104 [(1, [118]), (5, [120]), (9, [179]), (22, [120]), (32, [112]), (38, [611, 612, 613]), (43, [113]), (49, [618, 619, 620]), (54, [114]), (59, [112]), (65, [174]), (71, [115]), (76, [113]), (82, [176]), (95, [120]), (100, [120])] = true := by decide +kernel
theorem cl95 : calB mi95 610 47 = true := by decide +kernel
theorem ck96 : chkR mi96 0 43 [(2, [120]), (13, [120]), (23, [171]), (33, [607, 609, 18])] = true := by decide +kernel
theorem cl96 : calB mi96 606 47 = true := by decide +kernel
theorem ck97 : chkR mi97 0 85 [(16, [112]), (23, [633, 494, 495]), (32, [156]), (36, [114]), (46, [113]), (53, [634, 498, 499]), (62, [161]), (66, [115])] = true := by decide +kernel
theorem cl97 : calB mi97 632 47 = true := by decide +kernel
theorem ck98 : chkR mi98 0 47 [(23, [629, 631, 20])] = true := by decide +kernel
theorem cl98 : calB mi98 628 47 = true := by decide +kernel
theorem ck99 : chkR mi99 0 104 [(22, [112]), (28, [114]), (39, [112]), (46, [114]), (56, [113]), (62, [115]), (73, [113]), (80, [115])] = true := by decide +kernel
theorem cl99 : calB mi99 642 47 = true := by decide +kernel
