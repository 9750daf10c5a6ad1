/-! CHECKS, by program -/
theorem ck100 : chkR mi100 0 75 [(4, [120]), (16, [120]), (39, [116]), (52, [639, 641, 22])] = true := by decide +kernel
theorem cl100 : calB mi100 638 47 = true := by decide +kernel
theorem ck101 : chkR mi101 0 75 [(6, [120]), (13, [116]), (30, [117]), (54, [117])] = true := by decide +kernel
theorem cl101 : calB mi101 650 47 = true := by decide +kernel
theorem ck102 : chkR mi102 0 121 [(2, [120]), (19, [118]), (29, [118]), (46, [117]), (84, [647, 649, 24]), (91, [119]), (105, [643, 645, 23])] = true := by decide +kernel
theorem cl102 : calB mi102 646 47 = true := by decide +kernel
theorem ck103 : chkR mi103 0 52 [(13, [120]), (23, [171]), (34, [119]), (39, [179])] = true := by decide +kernel
theorem cl103 : calB mi103 654 47 = true := by decide +kernel
theorem ck104 : chkR mi104 0 85 [(3, [603, 605, 17]), (10, [120]), (17, [117]), (25, [625, 627, 19]), (30, [117]), (47, [635, 637, 21]), (54, [120]), (63, [643, 645, 23]), (72, [651, 653, 25])] = true := by decide +kernel
theorem cl104 : calB mi104 602 47 = true := by decide +kernel
theorem ck105 : chkR mi105 0 69 [(2, [397, 399, 3]), (8, [313, 314]), (12, [259]), (21, [587, 588, 589]), (25, [591, 593, 16]), (39, [595, 596, 597]), (43, [263]), (47, [259]), (51, [264]), (54, [599, 600, 601]), (64, [587, 588, 589])] = true := by decide +kernel
theorem cl105 : calB mi105 586 45 = true := by decide +kernel
theorem ck106 : chkR mi106 0 26 [(8, [583, 584, 585])] = true := by decide +kernel
theorem cl106 : calB mi106 582 44 = true := by decide +kernel
theorem ck107 : chkR mi107 0 82 [(49, [717]), (56, [893, 895, 37]), (62, [717]), (69, [717]), (75, [733])] = true := by decide +kernel
theorem cl107 : calB mi107 955 52 = true := by decide +kernel
theorem ck108 : chkR mi108 0 74 [(41, [718]), (48, [718]), (55, [897, 899, 38]), (61, [718]), (67, [734])] = true := by decide +kernel
theorem cl108 : calB mi108 959 52 = true := by decide +kernel
theorem ck109 : chkR mi109 0 46 [] = true := by decide +kernel
theorem cl109 : calB mi109 962 52 = true := by decide +kernel
theorem ck110 : chkR mi110 0 216 [(8, [739]), (15, [742]), (22, [740]), (27, [952, 954, 42]), (32, [743]), (39, [740]), (44, [956, 958, 43]), (54, [714]), (61, [742]), (67, [743]), (73, [733]), (79, [734]), (85, [717]), (92, [718]), (101, [893, 895, 37]), (107, [897, 899, 38]), (110, [960, 961]), (134, [739]), (143, [742]), (149, [743]), (155, [733]), (161, [734]), (167, [742]), (174, [743]), (181, [733]), (188, [734]), (194, [960, 961])] = true := by decide +kernel
theorem cl110 : calB mi110 951 52 = true := by decide +kernel
theorem ck111 : chkR mi111 0 404 [(3, [833, 835, 27]), (14, [816, 817]), (22, [816, 817]), (33, [713]), (37, [713]), (46, [733]), (61, [714]), (70, [733]), (104, [733]), (111, [734]), (127, [714]), (134, [733]), (149, [739]), (225, [740]), (246, [739]), (257, [735]), (261, [739]), (269, [740]), (302, [948, 950, 41]), (326, [741]), (332, [740]), (359, [733]), (378, [735]), (382, [739]), (389, [741])] = true := by decide +kernel
theorem cl111 : calB mi111 947 52 = true := by decide +kernel
theorem ck112 : chkR mi112 0 83 [(2, [397, 399, 3]), (14, [405, 406, 57, 415, 178, 180, 9]), (25, [259]), (32, [173]), (38, [664, 665, 58, 674, 186, 188, 10]), (54, [180]), (57, [680, 612, 613]), (68, [180]), (71, [681, 619, 620]), (78, [180])] = true := by decide +kernel
theorem cl112 : calB mi112 662 45 = true := by decide +kernel
theorem ck113 : chkR mi113 0 22 [(5, [659, 660, 661])] = true := by decide +kernel
theorem cl113 : calB mi113 657 44 = true := by decide +kernel
theorem ck114 : chkR mi114 0 105 [(2, [833, 835, 27]), (33, [733]), (48, [713]), (52, [713]), (67, [735]), (72, [952, 954, 42]), (86, [735]), (91, [956, 958, 43]), (98, [735])] = true := by decide +kernel
theorem cl114 : calB mi114 966 52 = true := by decide +kernel
theorem ck115 : chkR mi115 0 150 [(2, [448, 450, 5]), (27, [317, 318, 56, 359, 199, 77, 11]), (39, [690]), (42, [425, 426]), (50, [690]), (53, [425, 426]), (59, [317, 318, 56, 359, 207, 77, 12]), (80, [473, 475, 8]), (131, [477, 479, 9])] = true := by decide +kernel
theorem cl115 : calB mi115 688 45 = true := by decide +kernel
theorem ck116 : chkR mi116 0 29 [(11, [685, 686, 687])] = true := by decide +kernel
theorem cl116 : calB mi116 684 44 = true := by decide +kernel
theorem ck117 : chkR mi117 0 191 [(24, [905]), (33, [906]), (42, [905]), (51, [906]), (68, [865, 867, 31]), (88, [713]), (92, [713]), (108, [724]), (118, [723]), (130, [714]), (137, [877, 879, 33]), (178, [881, 883, 34])] = true := by decide +kernel
theorem cl117 : calB mi117 904 52 = true := by decide +kernel
theorem ck118 : chkR mi118 0 124 [(2, [448, 450, 5]), (6, [260]), (13, [458, 459, 460]), (23, [219]), (34, [219]), (46, [222]), (56, [401, 403, 4]), (63, [259]), (69, [170]), (78, [485, 487, 11]), (85, [259]), (92, [262]), (95, [84]), (99, [262]), (102, [86]), (106, [262]), (109, [90]), (112, [433, 434, 435])] = true := by decide +kernel
theorem cl118 : calB mi118 698 45 = true := by decide +kernel
theorem ck119 : chkR mi119 0 24 [(4, [695, 696, 697])] = true := by decide +kernel
theorem cl119 : calB mi119 694 44 = true := by decide +kernel
theorem ck120 : chkR mi120 0 135 [(3, [865, 867, 31]), (14, [713]), (18, [713]), (25, [724]), (37, [728]), (42, [728]), (60, [714]), (67, [720]), (77, [722]), (92, [724]), (98, [721]), (103, [869, 871, 32]), (106, [889, 891, 36]), (112, [736]), (116, [737]), (120, [738]), (123, [837, 839, 28])] = true := by decide +kernel
theorem cl120 : calB mi120 922 52 = true := by decide +kernel
theorem ck121 : chkR mi121 0 103 [(2, [397, 399, 3]), (6, [259]), (53, [157]), (58, [162]), (63, [165]), (69, [167]), (75, [169]), (81, [170]), (93, [405, 406, 57, 415, 236, 180, 13])] = true := by decide +kernel
theorem cl121 : calB mi121 705 45 = true := by decide +kernel
theorem ck122 : chkR mi122 0 18 [(5, [702, 703, 704])] = true := by decide +kernel
theorem cl122 : calB mi122 701 44 = true := by decide +kernel
theorem ck123 : chkR mi123 0 125 [(3, [833, 835, 27]), (24, [713]), (28, [713]), (73, [717]), (80, [718]), (87, [719]), (95, [720]), (103, [721]), (111, [722])] = true := by decide +kernel
theorem cl123 : calB mi123 852 52 = true := by decide +kernel
