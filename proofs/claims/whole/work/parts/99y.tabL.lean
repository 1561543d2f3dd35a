def lL_law : List (Nat × qP) := [(0, oNew 11 11 [.null, .null, .null, .null, .null, .null, .null, .null, .null, .null, .null] 3), (3, oDup 4), (4, oCallI mX11_init 0 7), (7, oAs 1 8), (8, oNew 12 58 [.int 0, .null, .int 0, .null, .null, .null, .null, .null, .null, .null, .int 0, .int 0, .null, .null, .null, .null, .int 0, .null, .int 0, .int 0, .int 0, .int 0, .int 0, .null, .null, .null, .null, .null, .null, .null, .int 0, .int 0, .int 0, .null, .null, .null, .null, .int 0, .int 0, .null, .null, .null, .null, .null, .null, .null, .null, .null, .int 0, .int 0, .int 0, .int 0, .null, .null, .int 0, .null, .null, .int 0] 11), (11, oDup 12), (12, oCallI mX12_init 0 15), (15, oAs 2 16), (16, oK (.int (nI 0)) 17), (17, oIs 3 18), (18, oIl 3 19), (19, oAl 0 20), (20, oAlen 21), (21, oK (.int (nI 5)) 22), (22, oSub 23), (23, oIf2gt 949 26), (26, oAl 0 27), (27, oIl 3 28), (28, oIald 29), (29, oK (.int (nI 31)) 31), (31, oAnd 32), (32, oTab 0 [148, 181, 204, 237, 260, 293, 336, 369, 402, 435, 478, 511, 544, 577, 630, 663, 696, 719, 762, 785, 798, 831, 864, 877, 920] 943), (148, oAl 1 149), (149, oAl 0 150), (150, oIl 3 151), (151, oK (.int (nI 1)) 152), (152, oAdd 153), (153, oIald 154), (154, oAl 0 155), (155, oIl 3 156), (156, oK (.int (nI 2)) 157), (157, oAdd 158), (158, oIald 159), (159, oCallV 11 mX11_feed 2 162), (162, oAl 2 163), (163, oAl 0 164), (164, oIl 3 165), (165, oK (.int (nI 1)) 166), (166, oAdd 167), (167, oIald 168), (168, oAl 0 169), (169, oIl 3 170), (170, oK (.int (nI 2)) 171), (171, oAdd 172), (172, oIald 173), (173, oCallV 12 mX12_feed 2 176), (176, oIf2eq 943 179), (179, oK (.int (nI 0)) 180), (180, oZret), (181, oAl 1 182), (182, oAl 0 183), (183, oIl 3 184), (184, oK (.int (nI 1)) 185), (185, oAdd 186), (186, oIald 187), (187, oCallV 11 mX11_read 1 190), (190, oAl 2 191), (191, oAl 0 192), (192, oIl 3 193), (193, oK (.int (nI 1)) 194), (194, oAdd 195), (195, oIald 196), (196, oCallV 12 mX12_read 1 199), (199, oIf2eq 943 202), (202, oK (.int (nI 0)) 203), (203, oZret), (204, oAl 1 205), (205, oAl 0 206), (206, oIl 3 207), (207, oK (.int (nI 1)) 208), (208, oAdd 209), (209, oIald 210), (210, oAl 0 211), (211, oIl 3 212), (212, oK (.int (nI 2)) 213), (213, oAdd 214), (214, oIald 215), (215, oCallV 11 mX11_say 2 218), (218, oAl 2 219), (219, oAl 0 220), (220, oIl 3 221), (221, oK (.int (nI 1)) 222), (222, oAdd 223), (223, oIald 224), (224, oAl 0 225), (225, oIl 3 226), (226, oK (.int (nI 2)) 227), (227, oAdd 228), (228, oIald 229), (229, oCallV 12 mX12_say 2 232), (232, oIf2eq 943 235), (235, oK (.int (nI 0)) 236), (236, oZret), (237, oAl 1 238), (238, oAl 0 239), (239, oIl 3 240), (240, oK (.int (nI 1)) 241), (241, oAdd 242), (242, oIald 243), (243, oCallV 11 mX11_drop 1 246), (246, oAl 2 247), (247, oAl 0 248), (248, oIl 3 249), (249, oK (.int (nI 1)) 250), (250, oAdd 251), (251, oIald 252), (252, oCallV 12 mX12_drop 1 255), (255, oIf2eq 943 258), (258, oK (.int (nI 0)) 259), (259, oZret), (260, oAl 1 261), (261, oAl 0 262), (262, oIl 3 263), (263, oK (.int (nI 1)) 264), (264, oAdd 265), (265, oIald 266), (266, oAl 0 267), (267, oIl 3 268), (268, oK (.int (nI 2)) 269), (269, oAdd 270), (270, oIald 271), (271, oCallVA 11 mX11_about 2 274), (274, oAl 2 275), (275, oAl 0 276), (276, oIl 3 277), (277, oK (.int (nI 1)) 278), (278, oAdd 279), (279, oIald 280), (280, oAl 0 281), (281, oIl 3 282), (282, oK (.int (nI 2)) 283), (283, oAdd 284), (284, oIald 285), (285, oCallV 12 mX12_about 2 288), (288, oIf2eq 943 291), (291, oK (.int (nI 0)) 292), (292, oZret), (293, oAl 1 294), (294, oAl 0 295), (295, oIl 3 296), (296, oK (.int (nI 1)) 297), (297, oAdd 298), (298, oIald 299), (299, oAl 0 300), (300, oIl 3 301), (301, oK (.int (nI 2)) 302), (302, oAdd 303), (303, oIald 304), (304, oAl 0 305), (305, oIl 3 306), (306, oK (.int (nI 3)) 307), (307, oAdd 308), (308, oIald 309), (309, oCallVA 11 mX11_nth 3 312), (312, oAl 2 313), (313, oAl 0 314), (314, oIl 3 315), (315, oK (.int (nI 1)) 316), (316, oAdd 317), (317, oIald 318), (318, oAl 0 319), (319, oIl 3 320), (320, oK (.int (nI 2)) 321), (321, oAdd 322), (322, oIald 323), (323, oAl 0 324), (324, oIl 3 325), (325, oK (.int (nI 3)) 326), (326, oAdd 327), (327, oIald 328), (328, oCallV 12 mX12_nth 3 331), (331, oIf2eq 943 334), (334, oK (.int (nI 0)) 335), (335, oZret), (336, oAl 1 337), (337, oAl 0 338), (338, oIl 3 339), (339, oK (.int (nI 1)) 340), (340, oAdd 341), (341, oIald 342), (342, oAl 0 343), (343, oIl 3 344), (344, oK (.int (nI 2)) 345), (345, oAdd 346), (346, oIald 347), (347, oCallV 11 mX11_fits 2 350), (350, oAl 2 351), (351, oAl 0 352), (352, oIl 3 353), (353, oK (.int (nI 1)) 354), (354, oAdd 355), (355, oIald 356), (356, oAl 0 357), (357, oIl 3 358), (358, oK (.int (nI 2)) 359), (359, oAdd 360), (360, oIald 361), (361, oCallV 12 mX12_fits 2 364), (364, oIf2eq 943 367), (367, oK (.int (nI 0)) 368), (368, oZret), (369, oAl 1 370), (370, oAl 0 371), (371, oIl 3 372), (372, oK (.int (nI 1)) 373), (373, oAdd 374), (374, oIald 375), (375, oAl 0 376), (376, oIl 3 377), (377, oK (.int (nI 2)) 378), (378, oAdd 379), (379, oIald 380), (380, oCallV 11 mX11_out 2 383), (383, oAl 2 384), (384, oAl 0 385), (385, oIl 3 386), (386, oK (.int (nI 1)) 387), (387, oAdd 388), (388, oIald 389), (389, oAl 0 390), (390, oIl 3 391), (391, oK (.int (nI 2)) 392), (392, oAdd 393), (393, oIald 394), (394, oCallV 12 mX12_out 2 397), (397, oIf2eq 943 400), (400, oK (.int (nI 0)) 401), (401, oZret), (402, oAl 1 403), (403, oAl 0 404), (404, oIl 3 405), (405, oK (.int (nI 1)) 406), (406, oAdd 407), (407, oIald 408), (408, oAl 0 409), (409, oIl 3 410), (410, oK (.int (nI 2)) 411), (411, oAdd 412), (412, oIald 413), (413, oCallV 11 mX11_many 2 416), (416, oAl 2 417), (417, oAl 0 418), (418, oIl 3 419), (419, oK (.int (nI 1)) 420), (420, oAdd 421), (421, oIald 422), (422, oAl 0 423), (423, oIl 3 424), (424, oK (.int (nI 2)) 425), (425, oAdd 426), (426, oIald 427), (427, oCallV 12 mX12_many 2 430), (430, oIf2eq 943 433), (433, oK (.int (nI 0)) 434), (434, oZret), (435, oAl 1 436), (436, oAl 0 437), (437, oIl 3 438), (438, oK (.int (nI 1)) 439), (439, oAdd 440), (440, oIald 441), (441, oAl 0 442), (442, oIl 3 443), (443, oK (.int (nI 2)) 444), (444, oAdd 445), (445, oIald 446), (446, oAl 0 447), (447, oIl 3 448), (448, oK (.int (nI 3)) 449), (449, oAdd 450), (450, oIald 451), (451, oCallV 11 mX11_row 3 454), (454, oAl 2 455), (455, oAl 0 456), (456, oIl 3 457), (457, oK (.int (nI 1)) 458), (458, oAdd 459), (459, oIald 460), (460, oAl 0 461), (461, oIl 3 462), (462, oK (.int (nI 2)) 463), (463, oAdd 464), (464, oIald 465), (465, oAl 0 466), (466, oIl 3 467), (467, oK (.int (nI 3)) 468), (468, oAdd 469), (469, oIald 470), (470, oCallV 12 mX12_row 3 473), (473, oIf2eq 943 476), (476, oK (.int (nI 0)) 477), (477, oZret), (478, oAl 1 479), (479, oAl 0 480), (480, oIl 3 481), (481, oK (.int (nI 1)) 482), (482, oAdd 483), (483, oIald 484), (484, oAl 0 485), (485, oIl 3 486), (486, oK (.int (nI 2)) 487), (487, oAdd 488), (488, oIald 489), (489, oCallVA 11 mX11_alike 2 492), (492, oAl 2 493), (493, oAl 0 494), (494, oIl 3 495), (495, oK (.int (nI 1)) 496), (496, oAdd 497), (497, oIald 498), (498, oAl 0 499), (499, oIl 3 500), (500, oK (.int (nI 2)) 501), (501, oAdd 502), (502, oIald 503), (503, oCallV 12 mX12_alike 2 506), (506, oIf2eq 943 509), (509, oK (.int (nI 0)) 510), (510, oZret), (511, oAl 1 512), (512, oAl 0 513), (513, oIl 3 514), (514, oK (.int (nI 1)) 515), (515, oAdd 516), (516, oIald 517), (517, oAl 0 518), (518, oIl 3 519), (519, oK (.int (nI 2)) 520), (520, oAdd 521), (521, oIald 522), (522, oCallVA 11 mX11_parted 2 525), (525, oAl 2 526), (526, oAl 0 527), (527, oIl 3 528), (528, oK (.int (nI 1)) 529), (529, oAdd 530), (530, oIald 531), (531, oAl 0 532), (532, oIl 3 533), (533, oK (.int (nI 2)) 534), (534, oAdd 535), (535, oIald 536), (536, oCallV 12 mX12_parted 2 539), (539, oIf2eq 943 542), (542, oK (.int (nI 0)) 543), (543, oZret), (544, oAl 1 545), (545, oAl 0 546), (546, oIl 3 547), (547, oK (.int (nI 1)) 548), (548, oAdd 549), (549, oIald 550), (550, oAl 0 551), (551, oIl 3 552), (552, oK (.int (nI 2)) 553), (553, oAdd 554), (554, oIald 555), (555, oCallVA 11 mX11_inside 2 558), (558, oAl 2 559), (559, oAl 0 560), (560, oIl 3 561), (561, oK (.int (nI 1)) 562), (562, oAdd 563), (563, oIald 564), (564, oAl 0 565), (565, oIl 3 566), (566, oK (.int (nI 2)) 567), (567, oAdd 568), (568, oIald 569), (569, oCallV 12 mX12_inside 2 572), (572, oIf2eq 943 575), (575, oK (.int (nI 0)) 576), (576, oZret), (577, oAl 1 578), (578, oAl 0 579), (579, oIl 3 580), (580, oK (.int (nI 1)) 581), (581, oAdd 582), (582, oIald 583), (583, oAl 0 584), (584, oIl 3 585), (585, oK (.int (nI 2)) 586), (586, oAdd 587), (587, oIald 588), (588, oAl 0 589), (589, oIl 3 590), (590, oK (.int (nI 3)) 591), (591, oAdd 592), (592, oIald 593), (593, oAl 0 594), (594, oIl 3 595), (595, oK (.int (nI 4)) 596), (596, oAdd 597), (597, oIald 598), (598, oCallV 11 mX11_show 4 601), (601, oAl 2 602), (602, oAl 0 603), (603, oIl 3 604), (604, oK (.int (nI 1)) 605), (605, oAdd 606), (606, oIald 607), (607, oAl 0 608), (608, oIl 3 609), (609, oK (.int (nI 2)) 610), (610, oAdd 611), (611, oIald 612), (612, oAl 0 613), (613, oIl 3 614), (614, oK (.int (nI 3)) 615), (615, oAdd 616), (616, oIald 617), (617, oAl 0 618), (618, oIl 3 619), (619, oK (.int (nI 4)) 620), (620, oAdd 621), (621, oIald 622), (622, oCallV 12 mX12_show 4 625), (625, oIf2eq 943 628), (628, oK (.int (nI 0)) 629), (629, oZret), (630, oAl 1 631), (631, oAl 0 632), (632, oIl 3 633), (633, oK (.int (nI 1)) 634), (634, oAdd 635), (635, oIald 636), (636, oAl 0 637), (637, oIl 3 638), (638, oK (.int (nI 2)) 639), (639, oAdd 640), (640, oIald 641), (641, oCallV 11 mX11_back 2 644), (644, oAl 2 645), (645, oAl 0 646), (646, oIl 3 647), (647, oK (.int (nI 1)) 648), (648, oAdd 649), (649, oIald 650), (650, oAl 0 651), (651, oIl 3 652), (652, oK (.int (nI 2)) 653), (653, oAdd 654), (654, oIald 655), (655, oCallV 12 mX12_back 2 658), (658, oIf2eq 943 661), (661, oK (.int (nI 0)) 662), (662, oZret), (663, oAl 1 664), (664, oAl 0 665), (665, oIl 3 666), (666, oK (.int (nI 1)) 667), (667, oAdd 668), (668, oIald 669), (669, oAl 0 670), (670, oIl 3 671), (671, oK (.int (nI 2)) 672), (672, oAdd 673), (673, oIald 674), (674, oCallV 11 mX11_agrees 2 677), (677, oAl 2 678), (678, oAl 0 679), (679, oIl 3 680), (680, oK (.int (nI 1)) 681), (681, oAdd 682), (682, oIald 683), (683, oAl 0 684), (684, oIl 3 685), (685, oK (.int (nI 2)) 686), (686, oAdd 687), (687, oIald 688), (688, oCallV 12 mX12_agrees 2 691), (691, oIf2eq 943 694), (694, oK (.int (nI 0)) 695), (695, oZret), (696, oAl 1 697), (697, oAl 0 698), (698, oIl 3 699), (699, oK (.int (nI 1)) 700), (700, oAdd 701), (701, oIald 702), (702, oCallV 11 mX11_paid 1 705), (705, oAl 2 706), (706, oAl 0 707), (707, oIl 3 708), (708, oK (.int (nI 1)) 709), (709, oAdd 710), (710, oIald 711), (711, oCallV 12 mX12_paid 1 714), (714, oIf2eq 943 717), (717, oK (.int (nI 0)) 718), (718, oZret), (719, oAl 1 720), (720, oAl 0 721), (721, oIl 3 722), (722, oK (.int (nI 1)) 723), (723, oAdd 724), (724, oIald 725), (725, oAl 0 726), (726, oIl 3 727), (727, oK (.int (nI 2)) 728), (728, oAdd 729), (729, oIald 730), (730, oAl 0 731), (731, oIl 3 732), (732, oK (.int (nI 3)) 733), (733, oAdd 734), (734, oIald 735), (735, oCallVA 11 mX11_find 3 738), (738, oAl 2 739), (739, oAl 0 740), (740, oIl 3 741), (741, oK (.int (nI 1)) 742), (742, oAdd 743), (743, oIald 744), (744, oAl 0 745), (745, oIl 3 746), (746, oK (.int (nI 2)) 747), (747, oAdd 748), (748, oIald 749), (749, oAl 0 750), (750, oIl 3 751), (751, oK (.int (nI 3)) 752), (752, oAdd 753), (753, oIald 754), (754, oCallV 12 mX12_find 3 757), (757, oIf2eq 943 760), (760, oK (.int (nI 0)) 761), (761, oZret), (762, oAl 1 763), (763, oAl 0 764), (764, oIl 3 765), (765, oK (.int (nI 1)) 766), (766, oAdd 767), (767, oIald 768), (768, oCallVA 11 mX11_next 1 771), (771, oAl 2 772), (772, oAl 0 773), (773, oIl 3 774), (774, oK (.int (nI 1)) 775), (775, oAdd 776), (776, oIald 777), (777, oCallV 12 mX12_next 1 780), (780, oIf2eq 943 783), (783, oK (.int (nI 0)) 784), (784, oZret), (785, oAl 1 786), (786, oCallV 11 mX11_found 0 789), (789, oAl 2 790), (790, oCallV 12 mX12_found 0 793), (793, oIf2eq 943 796), (796, oK (.int (nI 0)) 797), (797, oZret), (798, oAl 1 799), (799, oAl 0 800), (800, oIl 3 801), (801, oK (.int (nI 1)) 802), (802, oAdd 803), (803, oIald 804), (804, oAl 0 805), (805, oIl 3 806), (806, oK (.int (nI 2)) 807), (807, oAdd 808), (808, oIald 809), (809, oCallVA 11 mX11_open 2 812), (812, oAl 2 813), (813, oAl 0 814), (814, oIl 3 815), (815, oK (.int (nI 1)) 816), (816, oAdd 817), (817, oIald 818), (818, oAl 0 819), (819, oIl 3 820), (820, oK (.int (nI 2)) 821), (821, oAdd 822), (822, oIald 823), (823, oCallV 12 mX12_open 2 826), (826, oIf2eq 943 829), (829, oK (.int (nI 0)) 830), (830, oZret), (831, oAl 1 832), (832, oAl 0 833), (833, oIl 3 834), (834, oK (.int (nI 1)) 835), (835, oAdd 836), (836, oIald 837), (837, oAl 0 838), (838, oIl 3 839), (839, oK (.int (nI 2)) 840), (840, oAdd 841), (841, oIald 842), (842, oCallVA 11 mX11_ask 2 845), (845, oAl 2 846), (846, oAl 0 847), (847, oIl 3 848), (848, oK (.int (nI 1)) 849), (849, oAdd 850), (850, oIald 851), (851, oAl 0 852), (852, oIl 3 853), (853, oK (.int (nI 2)) 854), (854, oAdd 855), (855, oIald 856), (856, oCallV 12 mX12_ask 2 859), (859, oIf2eq 943 862), (862, oK (.int (nI 0)) 863), (863, oZret), (864, oAl 1 865), (865, oCallV 11 mX11_asked 0 868), (868, oAl 2 869), (869, oCallV 12 mX12_asked 0 872), (872, oIf2eq 943 875), (875, oK (.int (nI 0)) 876), (876, oZret), (877, oAl 1 878), (878, oAl 0 879), (879, oIl 3 880), (880, oK (.int (nI 1)) 881), (881, oAdd 882), (882, oIald 883), (883, oAl 0 884), (884, oIl 3 885), (885, oK (.int (nI 2)) 886), (886, oAdd 887), (887, oIald 888), (888, oAl 0 889), (889, oIl 3 890), (890, oK (.int (nI 3)) 891), (891, oAdd 892), (892, oIald 893), (893, oCallVA 11 mX11_noise 3 896), (896, oAl 2 897), (897, oAl 0 898), (898, oIl 3 899), (899, oK (.int (nI 1)) 900), (900, oAdd 901), (901, oIald 902), (902, oAl 0 903), (903, oIl 3 904), (904, oK (.int (nI 2)) 905), (905, oAdd 906), (906, oIald 907), (907, oAl 0 908), (908, oIl 3 909), (909, oK (.int (nI 3)) 910), (910, oAdd 911), (911, oIald 912), (912, oCallV 12 mX12_noise 3 915), (915, oIf2eq 943 918), (918, oK (.int (nI 0)) 919), (919, oZret), (920, oAl 1 921), (921, oAl 0 922), (922, oIl 3 923), (923, oK (.int (nI 1)) 924), (924, oAdd 925), (925, oIald 926), (926, oCallV 11 mX11_count 1 929), (929, oAl 2 930), (930, oAl 0 931), (931, oIl 3 932), (932, oK (.int (nI 1)) 933), (933, oAdd 934), (934, oIald 935), (935, oCallV 12 mX12_count 1 938), (938, oIf2eq 943 941), (941, oK (.int (nI 0)) 942), (942, oZret), (943, oInc 3 (nI 5) 946), (946, oGo 18), (949, oK (.int (nI 1)) 950), (950, oZret)]
def uL_law : Nat → qP := q_tb lL_law
set_option maxRecDepth 20000 in
theorem suL_law : q_Snd mL_law uL_law := by
  refine q_tb_ok ?_
  unfold lL_law
  refine q_fa (ok_new tyX11 (by decide +kernel : decode code 0 = .ok (.new 7, 3)) rfl (rfl : vwCl[11]? = some (RX11, TX11, 11)) inX11 tyX11_ok g18 g19 g1 (by decide +kernel)) ?_
  refine q_fa (ok_dup (by decide +kernel : decode code 3 = .ok (.dup, 1)) rfl) ?_
  refine q_fa (ok_callI (by decide +kernel : decode code 4 = .ok (.invokespecial 9, 3)) rfl kX11_init.1 kX11_init.2.1 kX11_init.2.2.1 kX11_init.2.2.2.1 kX11_init.2.2.2.2 rfl rfl g21 g20) ?_
  refine q_fa (ok_astore_n (by decide +kernel : decode code 7 = .ok (.astore_n 1, 1)) rfl rfl (by decide)) ?_
  refine q_fa (ok_new tyX12 (by decide +kernel : decode code 8 = .ok (.new 10, 3)) rfl (rfl : vwCl[12]? = some (RX12, TX12, 58)) inX12 tyX12_ok g998 g999 g10 (by decide +kernel)) ?_
  refine q_fa (ok_dup (by decide +kernel : decode code 11 = .ok (.dup, 1)) rfl) ?_
  refine q_fa (ok_callI (by decide +kernel : decode code 12 = .ok (.invokespecial 12, 3)) rfl kX12_init.1 kX12_init.2.1 kX12_init.2.2.1 kX12_init.2.2.2.1 kX12_init.2.2.2.2 rfl rfl g1001 g1000) ?_
  refine q_fa (ok_astore_n (by decide +kernel : decode code 15 = .ok (.astore_n 2, 1)) rfl rfl (by decide)) ?_
  refine q_fa (ok_iconst (by decide +kernel : decode code 16 = .ok (.iconst 0, 1)) rfl (by decide +kernel)) ?_
  refine q_fa (ok_istore_n (by decide +kernel : decode code 17 = .ok (.istore_n 3, 1)) rfl rfl (by decide)) ?_
  refine q_fa (ok_iload_n (by decide +kernel : decode code 18 = .ok (.iload_n 3, 1)) rfl rfl) ?_
  refine q_fa (ok_aload_n (by decide +kernel : decode code 19 = .ok (.aload_n 0, 1)) rfl rfl) ?_
  refine q_fa (ok_alen (by decide +kernel : decode code 20 = .ok (.arraylength, 1)) rfl) ?_
  refine q_fa (ok_iconst (by decide +kernel : decode code 21 = .ok (.iconst 5, 1)) rfl (by decide +kernel)) ?_
  refine q_fa (ok_isub (by decide +kernel : decode code 22 = .ok (.isub, 1)) rfl) ?_
  refine q_fa (ok_if2gt (by decide +kernel : decode code 23 = .ok (.if_icmp .gt 926, 3)) (by decide) rfl) ?_
  refine q_fa (ok_aload_n (by decide +kernel : decode code 26 = .ok (.aload_n 0, 1)) rfl rfl) ?_
  refine q_fa (ok_iload_n (by decide +kernel : decode code 27 = .ok (.iload_n 3, 1)) rfl rfl) ?_
  refine q_fa (ok_iaload (by decide +kernel : decode code 28 = .ok (.iaload, 1)) rfl) ?_
  refine q_fa (ok_bipush (by decide +kernel : decode code 29 = .ok (.bipush 31, 2)) rfl (by decide +kernel)) ?_
  refine q_fa (ok_iand (by decide +kernel : decode code 31 = .ok (.iand, 1)) rfl) ?_
  refine q_fa (ok_table (by decide +kernel : decode code 32 = .ok (.tableswitch 911 0 24 #[116, 149, 172, 205, 228, 261, 304, 337, 370, 403, 446, 479, 512, 545, 598, 631, 664, 687, 730, 753, 766, 799, 832, 845, 888], 116)) (by decide) (by decide) (by decide) (by decide) (by decide)) ?_
  refine q_fa (ok_aload_n (by decide +kernel : decode code 148 = .ok (.aload_n 1, 1)) rfl rfl) ?_
  refine q_fa (ok_aload_n (by decide +kernel : decode code 149 = .ok (.aload_n 0, 1)) rfl rfl) ?_
  refine q_fa (ok_iload_n (by decide +kernel : decode code 150 = .ok (.iload_n 3, 1)) rfl rfl) ?_
  refine q_fa (ok_iconst (by decide +kernel : decode code 151 = .ok (.iconst 1, 1)) rfl (by decide +kernel)) ?_
  refine q_fa (ok_iadd (by decide +kernel : decode code 152 = .ok (.iadd, 1)) rfl) ?_
  refine q_fa (ok_iaload (by decide +kernel : decode code 153 = .ok (.iaload, 1)) rfl) ?_
  refine q_fa (ok_aload_n (by decide +kernel : decode code 154 = .ok (.aload_n 0, 1)) rfl rfl) ?_
  refine q_fa (ok_iload_n (by decide +kernel : decode code 155 = .ok (.iload_n 3, 1)) rfl rfl) ?_
  refine q_fa (ok_iconst (by decide +kernel : decode code 156 = .ok (.iconst 2, 1)) rfl (by decide +kernel)) ?_
  refine q_fa (ok_iadd (by decide +kernel : decode code 157 = .ok (.iadd, 1)) rfl) ?_
  refine q_fa (ok_iaload (by decide +kernel : decode code 158 = .ok (.iaload, 1)) rfl) ?_
  refine q_fa (ok_callV (by decide +kernel : decode code 159 = .ok (.invokevirtual 13, 3)) rfl kX11_feed.1 kX11_feed.2.1 kX11_feed.2.2.1 kX11_feed.2.2.2.1 kX11_feed.2.2.2.2 (rfl : vwCl[11]? = some (RX11, TX11, 11)) g213 g214 g212) ?_
  refine q_fa (ok_aload_n (by decide +kernel : decode code 162 = .ok (.aload_n 2, 1)) rfl rfl) ?_
  refine q_fa (ok_aload_n (by decide +kernel : decode code 163 = .ok (.aload_n 0, 1)) rfl rfl) ?_
  refine q_fa (ok_iload_n (by decide +kernel : decode code 164 = .ok (.iload_n 3, 1)) rfl rfl) ?_
  refine q_fa (ok_iconst (by decide +kernel : decode code 165 = .ok (.iconst 1, 1)) rfl (by decide +kernel)) ?_
  refine q_fa (ok_iadd (by decide +kernel : decode code 166 = .ok (.iadd, 1)) rfl) ?_
  refine q_fa (ok_iaload (by decide +kernel : decode code 167 = .ok (.iaload, 1)) rfl) ?_
  refine q_fa (ok_aload_n (by decide +kernel : decode code 168 = .ok (.aload_n 0, 1)) rfl rfl) ?_
  refine q_fa (ok_iload_n (by decide +kernel : decode code 169 = .ok (.iload_n 3, 1)) rfl rfl) ?_
  refine q_fa (ok_iconst (by decide +kernel : decode code 170 = .ok (.iconst 2, 1)) rfl (by decide +kernel)) ?_
  refine q_fa (ok_iadd (by decide +kernel : decode code 171 = .ok (.iadd, 1)) rfl) ?_
  refine q_fa (ok_iaload (by decide +kernel : decode code 172 = .ok (.iaload, 1)) rfl) ?_
  refine q_fa (ok_callV (by decide +kernel : decode code 173 = .ok (.invokevirtual 17, 3)) rfl kX12_feed.1 kX12_feed.2.1 kX12_feed.2.2.1 kX12_feed.2.2.2.1 kX12_feed.2.2.2.2 (rfl : vwCl[12]? = some (RX12, TX12, 58)) g1181 g1182 g1180) ?_
  refine q_fa (ok_if2eq (by decide +kernel : decode code 176 = .ok (.if_icmp .eq 767, 3)) (by decide) rfl) ?_
  refine q_fa (ok_iconst (by decide +kernel : decode code 179 = .ok (.iconst 0, 1)) rfl (by decide +kernel)) ?_
  refine q_fa (ok_zret (by decide +kernel : decode code 180 = .ok (.ireturn, 1)) rfl) ?_
  refine q_fa (ok_aload_n (by decide +kernel : decode code 181 = .ok (.aload_n 1, 1)) rfl rfl) ?_
  refine q_fa (ok_aload_n (by decide +kernel : decode code 182 = .ok (.aload_n 0, 1)) rfl rfl) ?_
  refine q_fa (ok_iload_n (by decide +kernel : decode code 183 = .ok (.iload_n 3, 1)) rfl rfl) ?_
  refine q_fa (ok_iconst (by decide +kernel : decode code 184 = .ok (.iconst 1, 1)) rfl (by decide +kernel)) ?_
  refine q_fa (ok_iadd (by decide +kernel : decode code 185 = .ok (.iadd, 1)) rfl) ?_
  refine q_fa (ok_iaload (by decide +kernel : decode code 186 = .ok (.iaload, 1)) rfl) ?_
  refine q_fa (ok_callV (by decide +kernel : decode code 187 = .ok (.invokevirtual 18, 3)) rfl kX11_read.1 kX11_read.2.1 kX11_read.2.2.1 kX11_read.2.2.2.1 kX11_read.2.2.2.2 (rfl : vwCl[11]? = some (RX11, TX11, 11)) g225 g226 g224) ?_
  refine q_fa (ok_aload_n (by decide +kernel : decode code 190 = .ok (.aload_n 2, 1)) rfl rfl) ?_
  refine q_fa (ok_aload_n (by decide +kernel : decode code 191 = .ok (.aload_n 0, 1)) rfl rfl) ?_
  refine q_fa (ok_iload_n (by decide +kernel : decode code 192 = .ok (.iload_n 3, 1)) rfl rfl) ?_
  refine q_fa (ok_iconst (by decide +kernel : decode code 193 = .ok (.iconst 1, 1)) rfl (by decide +kernel)) ?_
  refine q_fa (ok_iadd (by decide +kernel : decode code 194 = .ok (.iadd, 1)) rfl) ?_
  refine q_fa (ok_iaload (by decide +kernel : decode code 195 = .ok (.iaload, 1)) rfl) ?_
  refine q_fa (ok_callV (by decide +kernel : decode code 196 = .ok (.invokevirtual 22, 3)) rfl kX12_read.1 kX12_read.2.1 kX12_read.2.2.1 kX12_read.2.2.2.1 kX12_read.2.2.2.2 (rfl : vwCl[12]? = some (RX12, TX12, 58)) g1188 g1189 g1187) ?_
  refine q_fa (ok_if2eq (by decide +kernel : decode code 199 = .ok (.if_icmp .eq 744, 3)) (by decide) rfl) ?_
  refine q_fa (ok_iconst (by decide +kernel : decode code 202 = .ok (.iconst 0, 1)) rfl (by decide +kernel)) ?_
  refine q_fa (ok_zret (by decide +kernel : decode code 203 = .ok (.ireturn, 1)) rfl) ?_
  refine q_fa (ok_aload_n (by decide +kernel : decode code 204 = .ok (.aload_n 1, 1)) rfl rfl) ?_
  refine q_fa (ok_aload_n (by decide +kernel : decode code 205 = .ok (.aload_n 0, 1)) rfl rfl) ?_
  refine q_fa (ok_iload_n (by decide +kernel : decode code 206 = .ok (.iload_n 3, 1)) rfl rfl) ?_
  refine q_fa (ok_iconst (by decide +kernel : decode code 207 = .ok (.iconst 1, 1)) rfl (by decide +kernel)) ?_
  refine q_fa (ok_iadd (by decide +kernel : decode code 208 = .ok (.iadd, 1)) rfl) ?_
  refine q_fa (ok_iaload (by decide +kernel : decode code 209 = .ok (.iaload, 1)) rfl) ?_
  refine q_fa (ok_aload_n (by decide +kernel : decode code 210 = .ok (.aload_n 0, 1)) rfl rfl) ?_
  refine q_fa (ok_iload_n (by decide +kernel : decode code 211 = .ok (.iload_n 3, 1)) rfl rfl) ?_
  refine q_fa (ok_iconst (by decide +kernel : decode code 212 = .ok (.iconst 2, 1)) rfl (by decide +kernel)) ?_
  refine q_fa (ok_iadd (by decide +kernel : decode code 213 = .ok (.iadd, 1)) rfl) ?_
  refine q_fa (ok_iaload (by decide +kernel : decode code 214 = .ok (.iaload, 1)) rfl) ?_
  refine q_fa (ok_callV (by decide +kernel : decode code 215 = .ok (.invokevirtual 23, 3)) rfl kX11_say.1 kX11_say.2.1 kX11_say.2.2.1 kX11_say.2.2.2.1 kX11_say.2.2.2.2 (rfl : vwCl[11]? = some (RX11, TX11, 11)) g340 g341 g339) ?_
  refine q_fa (ok_aload_n (by decide +kernel : decode code 218 = .ok (.aload_n 2, 1)) rfl rfl) ?_
  refine q_fa (ok_aload_n (by decide +kernel : decode code 219 = .ok (.aload_n 0, 1)) rfl rfl) ?_
  refine q_fa (ok_iload_n (by decide +kernel : decode code 220 = .ok (.iload_n 3, 1)) rfl rfl) ?_
  refine q_fa (ok_iconst (by decide +kernel : decode code 221 = .ok (.iconst 1, 1)) rfl (by decide +kernel)) ?_
  refine q_fa (ok_iadd (by decide +kernel : decode code 222 = .ok (.iadd, 1)) rfl) ?_
  refine q_fa (ok_iaload (by decide +kernel : decode code 223 = .ok (.iaload, 1)) rfl) ?_
  refine q_fa (ok_aload_n (by decide +kernel : decode code 224 = .ok (.aload_n 0, 1)) rfl rfl) ?_
  refine q_fa (ok_iload_n (by decide +kernel : decode code 225 = .ok (.iload_n 3, 1)) rfl rfl) ?_
  refine q_fa (ok_iconst (by decide +kernel : decode code 226 = .ok (.iconst 2, 1)) rfl (by decide +kernel)) ?_
  refine q_fa (ok_iadd (by decide +kernel : decode code 227 = .ok (.iadd, 1)) rfl) ?_
  refine q_fa (ok_iaload (by decide +kernel : decode code 228 = .ok (.iaload, 1)) rfl) ?_
  refine q_fa (ok_callV (by decide +kernel : decode code 229 = .ok (.invokevirtual 26, 3)) rfl kX12_say.1 kX12_say.2.1 kX12_say.2.2.1 kX12_say.2.2.2.1 kX12_say.2.2.2.2 (rfl : vwCl[12]? = some (RX12, TX12, 58)) g1250 g1251 g1249) ?_
  refine q_fa (ok_if2eq (by decide +kernel : decode code 232 = .ok (.if_icmp .eq 711, 3)) (by decide) rfl) ?_
  refine q_fa (ok_iconst (by decide +kernel : decode code 235 = .ok (.iconst 0, 1)) rfl (by decide +kernel)) ?_
  refine q_fa (ok_zret (by decide +kernel : decode code 236 = .ok (.ireturn, 1)) rfl) ?_
  refine q_fa (ok_aload_n (by decide +kernel : decode code 237 = .ok (.aload_n 1, 1)) rfl rfl) ?_
  refine q_fa (ok_aload_n (by decide +kernel : decode code 238 = .ok (.aload_n 0, 1)) rfl rfl) ?_
  refine q_fa (ok_iload_n (by decide +kernel : decode code 239 = .ok (.iload_n 3, 1)) rfl rfl) ?_
  refine q_fa (ok_iconst (by decide +kernel : decode code 240 = .ok (.iconst 1, 1)) rfl (by decide +kernel)) ?_
  refine q_fa (ok_iadd (by decide +kernel : decode code 241 = .ok (.iadd, 1)) rfl) ?_
  refine q_fa (ok_iaload (by decide +kernel : decode code 242 = .ok (.iaload, 1)) rfl) ?_
  refine q_fa (ok_callV (by decide +kernel : decode code 243 = .ok (.invokevirtual 27, 3)) rfl kX11_drop.1 kX11_drop.2.1 kX11_drop.2.2.1 kX11_drop.2.2.2.1 kX11_drop.2.2.2.2 (rfl : vwCl[11]? = some (RX11, TX11, 11)) g379 g380 g378) ?_
  refine q_fa (ok_aload_n (by decide +kernel : decode code 246 = .ok (.aload_n 2, 1)) rfl rfl) ?_
  refine q_fa (ok_aload_n (by decide +kernel : decode code 247 = .ok (.aload_n 0, 1)) rfl rfl) ?_
  refine q_fa (ok_iload_n (by decide +kernel : decode code 248 = .ok (.iload_n 3, 1)) rfl rfl) ?_
  refine q_fa (ok_iconst (by decide +kernel : decode code 249 = .ok (.iconst 1, 1)) rfl (by decide +kernel)) ?_
  refine q_fa (ok_iadd (by decide +kernel : decode code 250 = .ok (.iadd, 1)) rfl) ?_
  refine q_fa (ok_iaload (by decide +kernel : decode code 251 = .ok (.iaload, 1)) rfl) ?_
  refine q_fa (ok_callV (by decide +kernel : decode code 252 = .ok (.invokevirtual 30, 3)) rfl kX12_drop.1 kX12_drop.2.1 kX12_drop.2.2.1 kX12_drop.2.2.2.1 kX12_drop.2.2.2.2 (rfl : vwCl[12]? = some (RX12, TX12, 58)) g1278 g1279 g1277) ?_
  refine q_fa (ok_if2eq (by decide +kernel : decode code 255 = .ok (.if_icmp .eq 688, 3)) (by decide) rfl) ?_
  refine q_fa (ok_iconst (by decide +kernel : decode code 258 = .ok (.iconst 0, 1)) rfl (by decide +kernel)) ?_
  refine q_fa (ok_zret (by decide +kernel : decode code 259 = .ok (.ireturn, 1)) rfl) ?_
  refine q_fa (ok_aload_n (by decide +kernel : decode code 260 = .ok (.aload_n 1, 1)) rfl rfl) ?_
  refine q_fa (ok_aload_n (by decide +kernel : decode code 261 = .ok (.aload_n 0, 1)) rfl rfl) ?_
  refine q_fa (ok_iload_n (by decide +kernel : decode code 262 = .ok (.iload_n 3, 1)) rfl rfl) ?_
  refine q_fa (ok_iconst (by decide +kernel : decode code 263 = .ok (.iconst 1, 1)) rfl (by decide +kernel)) ?_
  refine q_fa (ok_iadd (by decide +kernel : decode code 264 = .ok (.iadd, 1)) rfl) ?_
  refine q_fa (ok_iaload (by decide +kernel : decode code 265 = .ok (.iaload, 1)) rfl) ?_
  refine q_fa (ok_aload_n (by decide +kernel : decode code 266 = .ok (.aload_n 0, 1)) rfl rfl) ?_
  refine q_fa (ok_iload_n (by decide +kernel : decode code 267 = .ok (.iload_n 3, 1)) rfl rfl) ?_
  refine q_fa (ok_iconst (by decide +kernel : decode code 268 = .ok (.iconst 2, 1)) rfl (by decide +kernel)) ?_
  refine q_fa (ok_iadd (by decide +kernel : decode code 269 = .ok (.iadd, 1)) rfl) ?_
  refine q_fa (ok_iaload (by decide +kernel : decode code 270 = .ok (.iaload, 1)) rfl) ?_
  refine q_fa (ok_callVA (by decide +kernel : decode code 271 = .ok (.invokevirtual 31, 3)) rfl kX11_about.1 kX11_about.2.1 kX11_about.2.2.1 kX11_about.2.2.2.1 kX11_about.2.2.2.2 (rfl : vwCl[11]? = some (RX11, TX11, 11)) g384 g385 g383) ?_
  refine q_fa (ok_aload_n (by decide +kernel : decode code 274 = .ok (.aload_n 2, 1)) rfl rfl) ?_
  refine q_fa (ok_aload_n (by decide +kernel : decode code 275 = .ok (.aload_n 0, 1)) rfl rfl) ?_
  refine q_fa (ok_iload_n (by decide +kernel : decode code 276 = .ok (.iload_n 3, 1)) rfl rfl) ?_
  refine q_fa (ok_iconst (by decide +kernel : decode code 277 = .ok (.iconst 1, 1)) rfl (by decide +kernel)) ?_
  refine q_fa (ok_iadd (by decide +kernel : decode code 278 = .ok (.iadd, 1)) rfl) ?_
  refine q_fa (ok_iaload (by decide +kernel : decode code 279 = .ok (.iaload, 1)) rfl) ?_
  refine q_fa (ok_aload_n (by decide +kernel : decode code 280 = .ok (.aload_n 0, 1)) rfl rfl) ?_
  refine q_fa (ok_iload_n (by decide +kernel : decode code 281 = .ok (.iload_n 3, 1)) rfl rfl) ?_
  refine q_fa (ok_iconst (by decide +kernel : decode code 282 = .ok (.iconst 2, 1)) rfl (by decide +kernel)) ?_
  refine q_fa (ok_iadd (by decide +kernel : decode code 283 = .ok (.iadd, 1)) rfl) ?_
  refine q_fa (ok_iaload (by decide +kernel : decode code 284 = .ok (.iaload, 1)) rfl) ?_
  refine q_fa (ok_callV (by decide +kernel : decode code 285 = .ok (.invokevirtual 34, 3)) rfl kX12_about.1 kX12_about.2.1 kX12_about.2.2.1 kX12_about.2.2.2.1 kX12_about.2.2.2.2 (rfl : vwCl[12]? = some (RX12, TX12, 58)) g1282 g1283 g1281) ?_
  refine q_fa (ok_if2eq (by decide +kernel : decode code 288 = .ok (.if_icmp .eq 655, 3)) (by decide) rfl) ?_
  refine q_fa (ok_iconst (by decide +kernel : decode code 291 = .ok (.iconst 0, 1)) rfl (by decide +kernel)) ?_
  refine q_fa (ok_zret (by decide +kernel : decode code 292 = .ok (.ireturn, 1)) rfl) ?_
  refine q_fa (ok_aload_n (by decide +kernel : decode code 293 = .ok (.aload_n 1, 1)) rfl rfl) ?_
  refine q_fa (ok_aload_n (by decide +kernel : decode code 294 = .ok (.aload_n 0, 1)) rfl rfl) ?_
  refine q_fa (ok_iload_n (by decide +kernel : decode code 295 = .ok (.iload_n 3, 1)) rfl rfl) ?_
  refine q_fa (ok_iconst (by decide +kernel : decode code 296 = .ok (.iconst 1, 1)) rfl (by decide +kernel)) ?_
  refine q_fa (ok_iadd (by decide +kernel : decode code 297 = .ok (.iadd, 1)) rfl) ?_
  refine q_fa (ok_iaload (by decide +kernel : decode code 298 = .ok (.iaload, 1)) rfl) ?_
  refine q_fa (ok_aload_n (by decide +kernel : decode code 299 = .ok (.aload_n 0, 1)) rfl rfl) ?_
  refine q_fa (ok_iload_n (by decide +kernel : decode code 300 = .ok (.iload_n 3, 1)) rfl rfl) ?_
  refine q_fa (ok_iconst (by decide +kernel : decode code 301 = .ok (.iconst 2, 1)) rfl (by decide +kernel)) ?_
  refine q_fa (ok_iadd (by decide +kernel : decode code 302 = .ok (.iadd, 1)) rfl) ?_
  refine q_fa (ok_iaload (by decide +kernel : decode code 303 = .ok (.iaload, 1)) rfl) ?_
  refine q_fa (ok_aload_n (by decide +kernel : decode code 304 = .ok (.aload_n 0, 1)) rfl rfl) ?_
  refine q_fa (ok_iload_n (by decide +kernel : decode code 305 = .ok (.iload_n 3, 1)) rfl rfl) ?_
  refine q_fa (ok_iconst (by decide +kernel : decode code 306 = .ok (.iconst 3, 1)) rfl (by decide +kernel)) ?_
  refine q_fa (ok_iadd (by decide +kernel : decode code 307 = .ok (.iadd, 1)) rfl) ?_
  refine q_fa (ok_iaload (by decide +kernel : decode code 308 = .ok (.iaload, 1)) rfl) ?_
  refine q_fa (ok_callVA (by decide +kernel : decode code 309 = .ok (.invokevirtual 35, 3)) rfl kX11_nth.1 kX11_nth.2.1 kX11_nth.2.2.1 kX11_nth.2.2.2.1 kX11_nth.2.2.2.2 (rfl : vwCl[11]? = some (RX11, TX11, 11)) g472 g473 g471) ?_
  refine q_fa (ok_aload_n (by decide +kernel : decode code 312 = .ok (.aload_n 2, 1)) rfl rfl) ?_
  refine q_fa (ok_aload_n (by decide +kernel : decode code 313 = .ok (.aload_n 0, 1)) rfl rfl) ?_
  refine q_fa (ok_iload_n (by decide +kernel : decode code 314 = .ok (.iload_n 3, 1)) rfl rfl) ?_
  refine q_fa (ok_iconst (by decide +kernel : decode code 315 = .ok (.iconst 1, 1)) rfl (by decide +kernel)) ?_
  refine q_fa (ok_iadd (by decide +kernel : decode code 316 = .ok (.iadd, 1)) rfl) ?_
  refine q_fa (ok_iaload (by decide +kernel : decode code 317 = .ok (.iaload, 1)) rfl) ?_
  refine q_fa (ok_aload_n (by decide +kernel : decode code 318 = .ok (.aload_n 0, 1)) rfl rfl) ?_
  refine q_fa (ok_iload_n (by decide +kernel : decode code 319 = .ok (.iload_n 3, 1)) rfl rfl) ?_
  refine q_fa (ok_iconst (by decide +kernel : decode code 320 = .ok (.iconst 2, 1)) rfl (by decide +kernel)) ?_
  refine q_fa (ok_iadd (by decide +kernel : decode code 321 = .ok (.iadd, 1)) rfl) ?_
  refine q_fa (ok_iaload (by decide +kernel : decode code 322 = .ok (.iaload, 1)) rfl) ?_
  refine q_fa (ok_aload_n (by decide +kernel : decode code 323 = .ok (.aload_n 0, 1)) rfl rfl) ?_
  refine q_fa (ok_iload_n (by decide +kernel : decode code 324 = .ok (.iload_n 3, 1)) rfl rfl) ?_
  refine q_fa (ok_iconst (by decide +kernel : decode code 325 = .ok (.iconst 3, 1)) rfl (by decide +kernel)) ?_
  refine q_fa (ok_iadd (by decide +kernel : decode code 326 = .ok (.iadd, 1)) rfl) ?_
  refine q_fa (ok_iaload (by decide +kernel : decode code 327 = .ok (.iaload, 1)) rfl) ?_
  refine q_fa (ok_callV (by decide +kernel : decode code 328 = .ok (.invokevirtual 39, 3)) rfl kX12_nth.1 kX12_nth.2.1 kX12_nth.2.2.1 kX12_nth.2.2.2.1 kX12_nth.2.2.2.2 (rfl : vwCl[12]? = some (RX12, TX12, 58)) g1298 g1299 g1297) ?_
  refine q_fa (ok_if2eq (by decide +kernel : decode code 331 = .ok (.if_icmp .eq 612, 3)) (by decide) rfl) ?_
  refine q_fa (ok_iconst (by decide +kernel : decode code 334 = .ok (.iconst 0, 1)) rfl (by decide +kernel)) ?_
  refine q_fa (ok_zret (by decide +kernel : decode code 335 = .ok (.ireturn, 1)) rfl) ?_
  refine q_fa (ok_aload_n (by decide +kernel : decode code 336 = .ok (.aload_n 1, 1)) rfl rfl) ?_
  refine q_fa (ok_aload_n (by decide +kernel : decode code 337 = .ok (.aload_n 0, 1)) rfl rfl) ?_
  refine q_fa (ok_iload_n (by decide +kernel : decode code 338 = .ok (.iload_n 3, 1)) rfl rfl) ?_
  refine q_fa (ok_iconst (by decide +kernel : decode code 339 = .ok (.iconst 1, 1)) rfl (by decide +kernel)) ?_
  refine q_fa (ok_iadd (by decide +kernel : decode code 340 = .ok (.iadd, 1)) rfl) ?_
  refine q_fa (ok_iaload (by decide +kernel : decode code 341 = .ok (.iaload, 1)) rfl) ?_
  refine q_fa (ok_aload_n (by decide +kernel : decode code 342 = .ok (.aload_n 0, 1)) rfl rfl) ?_
  refine q_fa (ok_iload_n (by decide +kernel : decode code 343 = .ok (.iload_n 3, 1)) rfl rfl) ?_
  refine q_fa (ok_iconst (by decide +kernel : decode code 344 = .ok (.iconst 2, 1)) rfl (by decide +kernel)) ?_
  refine q_fa (ok_iadd (by decide +kernel : decode code 345 = .ok (.iadd, 1)) rfl) ?_
  refine q_fa (ok_iaload (by decide +kernel : decode code 346 = .ok (.iaload, 1)) rfl) ?_
  refine q_fa (ok_callV (by decide +kernel : decode code 347 = .ok (.invokevirtual 40, 3)) rfl kX11_fits.1 kX11_fits.2.1 kX11_fits.2.2.1 kX11_fits.2.2.2.1 kX11_fits.2.2.2.2 (rfl : vwCl[11]? = some (RX11, TX11, 11)) g483 g484 g482) ?_
  refine q_fa (ok_aload_n (by decide +kernel : decode code 350 = .ok (.aload_n 2, 1)) rfl rfl) ?_
  refine q_fa (ok_aload_n (by decide +kernel : decode code 351 = .ok (.aload_n 0, 1)) rfl rfl) ?_
  refine q_fa (ok_iload_n (by decide +kernel : decode code 352 = .ok (.iload_n 3, 1)) rfl rfl) ?_
  refine q_fa (ok_iconst (by decide +kernel : decode code 353 = .ok (.iconst 1, 1)) rfl (by decide +kernel)) ?_
  refine q_fa (ok_iadd (by decide +kernel : decode code 354 = .ok (.iadd, 1)) rfl) ?_
  refine q_fa (ok_iaload (by decide +kernel : decode code 355 = .ok (.iaload, 1)) rfl) ?_
  refine q_fa (ok_aload_n (by decide +kernel : decode code 356 = .ok (.aload_n 0, 1)) rfl rfl) ?_
  refine q_fa (ok_iload_n (by decide +kernel : decode code 357 = .ok (.iload_n 3, 1)) rfl rfl) ?_
  refine q_fa (ok_iconst (by decide +kernel : decode code 358 = .ok (.iconst 2, 1)) rfl (by decide +kernel)) ?_
  refine q_fa (ok_iadd (by decide +kernel : decode code 359 = .ok (.iadd, 1)) rfl) ?_
  refine q_fa (ok_iaload (by decide +kernel : decode code 360 = .ok (.iaload, 1)) rfl) ?_
  refine q_fa (ok_callV (by decide +kernel : decode code 361 = .ok (.invokevirtual 43, 3)) rfl kX12_fits.1 kX12_fits.2.1 kX12_fits.2.2.1 kX12_fits.2.2.2.1 kX12_fits.2.2.2.2 (rfl : vwCl[12]? = some (RX12, TX12, 58)) g1302 g1303 g1301) ?_
  refine q_fa (ok_if2eq (by decide +kernel : decode code 364 = .ok (.if_icmp .eq 579, 3)) (by decide) rfl) ?_
  refine q_fa (ok_iconst (by decide +kernel : decode code 367 = .ok (.iconst 0, 1)) rfl (by decide +kernel)) ?_
  refine q_fa (ok_zret (by decide +kernel : decode code 368 = .ok (.ireturn, 1)) rfl) ?_
  refine q_fa (ok_aload_n (by decide +kernel : decode code 369 = .ok (.aload_n 1, 1)) rfl rfl) ?_
  refine q_fa (ok_aload_n (by decide +kernel : decode code 370 = .ok (.aload_n 0, 1)) rfl rfl) ?_
  refine q_fa (ok_iload_n (by decide +kernel : decode code 371 = .ok (.iload_n 3, 1)) rfl rfl) ?_
  refine q_fa (ok_iconst (by decide +kernel : decode code 372 = .ok (.iconst 1, 1)) rfl (by decide +kernel)) ?_
  refine q_fa (ok_iadd (by decide +kernel : decode code 373 = .ok (.iadd, 1)) rfl) ?_
  refine q_fa (ok_iaload (by decide +kernel : decode code 374 = .ok (.iaload, 1)) rfl) ?_
  refine q_fa (ok_aload_n (by decide +kernel : decode code 375 = .ok (.aload_n 0, 1)) rfl rfl) ?_
  refine q_fa (ok_iload_n (by decide +kernel : decode code 376 = .ok (.iload_n 3, 1)) rfl rfl) ?_
  refine q_fa (ok_iconst (by decide +kernel : decode code 377 = .ok (.iconst 2, 1)) rfl (by decide +kernel)) ?_
  refine q_fa (ok_iadd (by decide +kernel : decode code 378 = .ok (.iadd, 1)) rfl) ?_
  refine q_fa (ok_iaload (by decide +kernel : decode code 379 = .ok (.iaload, 1)) rfl) ?_
  refine q_fa (ok_callV (by decide +kernel : decode code 380 = .ok (.invokevirtual 44, 3)) rfl kX11_out.1 kX11_out.2.1 kX11_out.2.2.1 kX11_out.2.2.2.1 kX11_out.2.2.2.2 (rfl : vwCl[11]? = some (RX11, TX11, 11)) g537 g538 g536) ?_
  refine q_fa (ok_aload_n (by decide +kernel : decode code 383 = .ok (.aload_n 2, 1)) rfl rfl) ?_
  refine q_fa (ok_aload_n (by decide +kernel : decode code 384 = .ok (.aload_n 0, 1)) rfl rfl) ?_
  refine q_fa (ok_iload_n (by decide +kernel : decode code 385 = .ok (.iload_n 3, 1)) rfl rfl) ?_
  refine q_fa (ok_iconst (by decide +kernel : decode code 386 = .ok (.iconst 1, 1)) rfl (by decide +kernel)) ?_
  refine q_fa (ok_iadd (by decide +kernel : decode code 387 = .ok (.iadd, 1)) rfl) ?_
  refine q_fa (ok_iaload (by decide +kernel : decode code 388 = .ok (.iaload, 1)) rfl) ?_
  refine q_fa (ok_aload_n (by decide +kernel : decode code 389 = .ok (.aload_n 0, 1)) rfl rfl) ?_
  refine q_fa (ok_iload_n (by decide +kernel : decode code 390 = .ok (.iload_n 3, 1)) rfl rfl) ?_
  refine q_fa (ok_iconst (by decide +kernel : decode code 391 = .ok (.iconst 2, 1)) rfl (by decide +kernel)) ?_
  refine q_fa (ok_iadd (by decide +kernel : decode code 392 = .ok (.iadd, 1)) rfl) ?_
  refine q_fa (ok_iaload (by decide +kernel : decode code 393 = .ok (.iaload, 1)) rfl) ?_
  refine q_fa (ok_callV (by decide +kernel : decode code 394 = .ok (.invokevirtual 47, 3)) rfl kX12_out.1 kX12_out.2.1 kX12_out.2.2.1 kX12_out.2.2.2.1 kX12_out.2.2.2.2 (rfl : vwCl[12]? = some (RX12, TX12, 58)) g1326 g1327 g1325) ?_
  refine q_fa (ok_if2eq (by decide +kernel : decode code 397 = .ok (.if_icmp .eq 546, 3)) (by decide) rfl) ?_
  refine q_fa (ok_iconst (by decide +kernel : decode code 400 = .ok (.iconst 0, 1)) rfl (by decide +kernel)) ?_
  refine q_fa (ok_zret (by decide +kernel : decode code 401 = .ok (.ireturn, 1)) rfl) ?_
  refine q_fa (ok_aload_n (by decide +kernel : decode code 402 = .ok (.aload_n 1, 1)) rfl rfl) ?_
  refine q_fa (ok_aload_n (by decide +kernel : decode code 403 = .ok (.aload_n 0, 1)) rfl rfl) ?_
  refine q_fa (ok_iload_n (by decide +kernel : decode code 404 = .ok (.iload_n 3, 1)) rfl rfl) ?_
  refine q_fa (ok_iconst (by decide +kernel : decode code 405 = .ok (.iconst 1, 1)) rfl (by decide +kernel)) ?_
  refine q_fa (ok_iadd (by decide +kernel : decode code 406 = .ok (.iadd, 1)) rfl) ?_
  refine q_fa (ok_iaload (by decide +kernel : decode code 407 = .ok (.iaload, 1)) rfl) ?_
  refine q_fa (ok_aload_n (by decide +kernel : decode code 408 = .ok (.aload_n 0, 1)) rfl rfl) ?_
  refine q_fa (ok_iload_n (by decide +kernel : decode code 409 = .ok (.iload_n 3, 1)) rfl rfl) ?_
  refine q_fa (ok_iconst (by decide +kernel : decode code 410 = .ok (.iconst 2, 1)) rfl (by decide +kernel)) ?_
  refine q_fa (ok_iadd (by decide +kernel : decode code 411 = .ok (.iadd, 1)) rfl) ?_
  refine q_fa (ok_iaload (by decide +kernel : decode code 412 = .ok (.iaload, 1)) rfl) ?_
  refine q_fa (ok_callV (by decide +kernel : decode code 413 = .ok (.invokevirtual 48, 3)) rfl kX11_many.1 kX11_many.2.1 kX11_many.2.2.1 kX11_many.2.2.2.1 kX11_many.2.2.2.2 (rfl : vwCl[11]? = some (RX11, TX11, 11)) g541 g542 g540) ?_
  refine q_fa (ok_aload_n (by decide +kernel : decode code 416 = .ok (.aload_n 2, 1)) rfl rfl) ?_
  refine q_fa (ok_aload_n (by decide +kernel : decode code 417 = .ok (.aload_n 0, 1)) rfl rfl) ?_
  refine q_fa (ok_iload_n (by decide +kernel : decode code 418 = .ok (.iload_n 3, 1)) rfl rfl) ?_
  refine q_fa (ok_iconst (by decide +kernel : decode code 419 = .ok (.iconst 1, 1)) rfl (by decide +kernel)) ?_
  refine q_fa (ok_iadd (by decide +kernel : decode code 420 = .ok (.iadd, 1)) rfl) ?_
  refine q_fa (ok_iaload (by decide +kernel : decode code 421 = .ok (.iaload, 1)) rfl) ?_
  refine q_fa (ok_aload_n (by decide +kernel : decode code 422 = .ok (.aload_n 0, 1)) rfl rfl) ?_
  refine q_fa (ok_iload_n (by decide +kernel : decode code 423 = .ok (.iload_n 3, 1)) rfl rfl) ?_
  refine q_fa (ok_iconst (by decide +kernel : decode code 424 = .ok (.iconst 2, 1)) rfl (by decide +kernel)) ?_
  refine q_fa (ok_iadd (by decide +kernel : decode code 425 = .ok (.iadd, 1)) rfl) ?_
  refine q_fa (ok_iaload (by decide +kernel : decode code 426 = .ok (.iaload, 1)) rfl) ?_
  refine q_fa (ok_callV (by decide +kernel : decode code 427 = .ok (.invokevirtual 51, 3)) rfl kX12_many.1 kX12_many.2.1 kX12_many.2.2.1 kX12_many.2.2.2.1 kX12_many.2.2.2.2 (rfl : vwCl[12]? = some (RX12, TX12, 58)) g1334 g1335 g1333) ?_
  refine q_fa (ok_if2eq (by decide +kernel : decode code 430 = .ok (.if_icmp .eq 513, 3)) (by decide) rfl) ?_
  refine q_fa (ok_iconst (by decide +kernel : decode code 433 = .ok (.iconst 0, 1)) rfl (by decide +kernel)) ?_
  refine q_fa (ok_zret (by decide +kernel : decode code 434 = .ok (.ireturn, 1)) rfl) ?_
  refine q_fa (ok_aload_n (by decide +kernel : decode code 435 = .ok (.aload_n 1, 1)) rfl rfl) ?_
  refine q_fa (ok_aload_n (by decide +kernel : decode code 436 = .ok (.aload_n 0, 1)) rfl rfl) ?_
  refine q_fa (ok_iload_n (by decide +kernel : decode code 437 = .ok (.iload_n 3, 1)) rfl rfl) ?_
  refine q_fa (ok_iconst (by decide +kernel : decode code 438 = .ok (.iconst 1, 1)) rfl (by decide +kernel)) ?_
  refine q_fa (ok_iadd (by decide +kernel : decode code 439 = .ok (.iadd, 1)) rfl) ?_
  refine q_fa (ok_iaload (by decide +kernel : decode code 440 = .ok (.iaload, 1)) rfl) ?_
  refine q_fa (ok_aload_n (by decide +kernel : decode code 441 = .ok (.aload_n 0, 1)) rfl rfl) ?_
  refine q_fa (ok_iload_n (by decide +kernel : decode code 442 = .ok (.iload_n 3, 1)) rfl rfl) ?_
  refine q_fa (ok_iconst (by decide +kernel : decode code 443 = .ok (.iconst 2, 1)) rfl (by decide +kernel)) ?_
  refine q_fa (ok_iadd (by decide +kernel : decode code 444 = .ok (.iadd, 1)) rfl) ?_
  refine q_fa (ok_iaload (by decide +kernel : decode code 445 = .ok (.iaload, 1)) rfl) ?_
  refine q_fa (ok_aload_n (by decide +kernel : decode code 446 = .ok (.aload_n 0, 1)) rfl rfl) ?_
  refine q_fa (ok_iload_n (by decide +kernel : decode code 447 = .ok (.iload_n 3, 1)) rfl rfl) ?_
  refine q_fa (ok_iconst (by decide +kernel : decode code 448 = .ok (.iconst 3, 1)) rfl (by decide +kernel)) ?_
  refine q_fa (ok_iadd (by decide +kernel : decode code 449 = .ok (.iadd, 1)) rfl) ?_
  refine q_fa (ok_iaload (by decide +kernel : decode code 450 = .ok (.iaload, 1)) rfl) ?_
  refine q_fa (ok_callV (by decide +kernel : decode code 451 = .ok (.invokevirtual 52, 3)) rfl kX11_row.1 kX11_row.2.1 kX11_row.2.2.1 kX11_row.2.2.2.1 kX11_row.2.2.2.2 (rfl : vwCl[11]? = some (RX11, TX11, 11)) g557 g558 g556) ?_
  refine q_fa (ok_aload_n (by decide +kernel : decode code 454 = .ok (.aload_n 2, 1)) rfl rfl) ?_
  refine q_fa (ok_aload_n (by decide +kernel : decode code 455 = .ok (.aload_n 0, 1)) rfl rfl) ?_
  refine q_fa (ok_iload_n (by decide +kernel : decode code 456 = .ok (.iload_n 3, 1)) rfl rfl) ?_
  refine q_fa (ok_iconst (by decide +kernel : decode code 457 = .ok (.iconst 1, 1)) rfl (by decide +kernel)) ?_
  refine q_fa (ok_iadd (by decide +kernel : decode code 458 = .ok (.iadd, 1)) rfl) ?_
  refine q_fa (ok_iaload (by decide +kernel : decode code 459 = .ok (.iaload, 1)) rfl) ?_
  refine q_fa (ok_aload_n (by decide +kernel : decode code 460 = .ok (.aload_n 0, 1)) rfl rfl) ?_
  refine q_fa (ok_iload_n (by decide +kernel : decode code 461 = .ok (.iload_n 3, 1)) rfl rfl) ?_
  refine q_fa (ok_iconst (by decide +kernel : decode code 462 = .ok (.iconst 2, 1)) rfl (by decide +kernel)) ?_
  refine q_fa (ok_iadd (by decide +kernel : decode code 463 = .ok (.iadd, 1)) rfl) ?_
  refine q_fa (ok_iaload (by decide +kernel : decode code 464 = .ok (.iaload, 1)) rfl) ?_
  refine q_fa (ok_aload_n (by decide +kernel : decode code 465 = .ok (.aload_n 0, 1)) rfl rfl) ?_
  refine q_fa (ok_iload_n (by decide +kernel : decode code 466 = .ok (.iload_n 3, 1)) rfl rfl) ?_
  refine q_fa (ok_iconst (by decide +kernel : decode code 467 = .ok (.iconst 3, 1)) rfl (by decide +kernel)) ?_
  refine q_fa (ok_iadd (by decide +kernel : decode code 468 = .ok (.iadd, 1)) rfl) ?_
  refine q_fa (ok_iaload (by decide +kernel : decode code 469 = .ok (.iaload, 1)) rfl) ?_
  refine q_fa (ok_callV (by decide +kernel : decode code 470 = .ok (.invokevirtual 55, 3)) rfl kX12_row.1 kX12_row.2.1 kX12_row.2.2.1 kX12_row.2.2.2.1 kX12_row.2.2.2.2 (rfl : vwCl[12]? = some (RX12, TX12, 58)) g1362 g1363 g1361) ?_
  refine q_fa (ok_if2eq (by decide +kernel : decode code 473 = .ok (.if_icmp .eq 470, 3)) (by decide) rfl) ?_
  refine q_fa (ok_iconst (by decide +kernel : decode code 476 = .ok (.iconst 0, 1)) rfl (by decide +kernel)) ?_
  refine q_fa (ok_zret (by decide +kernel : decode code 477 = .ok (.ireturn, 1)) rfl) ?_
  refine q_fa (ok_aload_n (by decide +kernel : decode code 478 = .ok (.aload_n 1, 1)) rfl rfl) ?_
  refine q_fa (ok_aload_n (by decide +kernel : decode code 479 = .ok (.aload_n 0, 1)) rfl rfl) ?_
  refine q_fa (ok_iload_n (by decide +kernel : decode code 480 = .ok (.iload_n 3, 1)) rfl rfl) ?_
  refine q_fa (ok_iconst (by decide +kernel : decode code 481 = .ok (.iconst 1, 1)) rfl (by decide +kernel)) ?_
  refine q_fa (ok_iadd (by decide +kernel : decode code 482 = .ok (.iadd, 1)) rfl) ?_
  refine q_fa (ok_iaload (by decide +kernel : decode code 483 = .ok (.iaload, 1)) rfl) ?_
  refine q_fa (ok_aload_n (by decide +kernel : decode code 484 = .ok (.aload_n 0, 1)) rfl rfl) ?_
  refine q_fa (ok_iload_n (by decide +kernel : decode code 485 = .ok (.iload_n 3, 1)) rfl rfl) ?_
  refine q_fa (ok_iconst (by decide +kernel : decode code 486 = .ok (.iconst 2, 1)) rfl (by decide +kernel)) ?_
  refine q_fa (ok_iadd (by decide +kernel : decode code 487 = .ok (.iadd, 1)) rfl) ?_
  refine q_fa (ok_iaload (by decide +kernel : decode code 488 = .ok (.iaload, 1)) rfl) ?_
  refine q_fa (ok_callVA (by decide +kernel : decode code 489 = .ok (.invokevirtual 56, 3)) rfl kX11_alike.1 kX11_alike.2.1 kX11_alike.2.2.1 kX11_alike.2.2.2.1 kX11_alike.2.2.2.2 (rfl : vwCl[11]? = some (RX11, TX11, 11)) g566 g567 g565) ?_
  refine q_fa (ok_aload_n (by decide +kernel : decode code 492 = .ok (.aload_n 2, 1)) rfl rfl) ?_
  refine q_fa (ok_aload_n (by decide +kernel : decode code 493 = .ok (.aload_n 0, 1)) rfl rfl) ?_
  refine q_fa (ok_iload_n (by decide +kernel : decode code 494 = .ok (.iload_n 3, 1)) rfl rfl) ?_
  refine q_fa (ok_iconst (by decide +kernel : decode code 495 = .ok (.iconst 1, 1)) rfl (by decide +kernel)) ?_
  refine q_fa (ok_iadd (by decide +kernel : decode code 496 = .ok (.iadd, 1)) rfl) ?_
  refine q_fa (ok_iaload (by decide +kernel : decode code 497 = .ok (.iaload, 1)) rfl) ?_
  refine q_fa (ok_aload_n (by decide +kernel : decode code 498 = .ok (.aload_n 0, 1)) rfl rfl) ?_
  refine q_fa (ok_iload_n (by decide +kernel : decode code 499 = .ok (.iload_n 3, 1)) rfl rfl) ?_
  refine q_fa (ok_iconst (by decide +kernel : decode code 500 = .ok (.iconst 2, 1)) rfl (by decide +kernel)) ?_
  refine q_fa (ok_iadd (by decide +kernel : decode code 501 = .ok (.iadd, 1)) rfl) ?_
  refine q_fa (ok_iaload (by decide +kernel : decode code 502 = .ok (.iaload, 1)) rfl) ?_
  refine q_fa (ok_callV (by decide +kernel : decode code 503 = .ok (.invokevirtual 59, 3)) rfl kX12_alike.1 kX12_alike.2.1 kX12_alike.2.2.1 kX12_alike.2.2.2.1 kX12_alike.2.2.2.2 (rfl : vwCl[12]? = some (RX12, TX12, 58)) g1366 g1367 g1365) ?_
  refine q_fa (ok_if2eq (by decide +kernel : decode code 506 = .ok (.if_icmp .eq 437, 3)) (by decide) rfl) ?_
  refine q_fa (ok_iconst (by decide +kernel : decode code 509 = .ok (.iconst 0, 1)) rfl (by decide +kernel)) ?_
  refine q_fa (ok_zret (by decide +kernel : decode code 510 = .ok (.ireturn, 1)) rfl) ?_
  refine q_fa (ok_aload_n (by decide +kernel : decode code 511 = .ok (.aload_n 1, 1)) rfl rfl) ?_
  refine q_fa (ok_aload_n (by decide +kernel : decode code 512 = .ok (.aload_n 0, 1)) rfl rfl) ?_
  refine q_fa (ok_iload_n (by decide +kernel : decode code 513 = .ok (.iload_n 3, 1)) rfl rfl) ?_
  refine q_fa (ok_iconst (by decide +kernel : decode code 514 = .ok (.iconst 1, 1)) rfl (by decide +kernel)) ?_
  refine q_fa (ok_iadd (by decide +kernel : decode code 515 = .ok (.iadd, 1)) rfl) ?_
  refine q_fa (ok_iaload (by decide +kernel : decode code 516 = .ok (.iaload, 1)) rfl) ?_
  refine q_fa (ok_aload_n (by decide +kernel : decode code 517 = .ok (.aload_n 0, 1)) rfl rfl) ?_
  refine q_fa (ok_iload_n (by decide +kernel : decode code 518 = .ok (.iload_n 3, 1)) rfl rfl) ?_
  refine q_fa (ok_iconst (by decide +kernel : decode code 519 = .ok (.iconst 2, 1)) rfl (by decide +kernel)) ?_
  refine q_fa (ok_iadd (by decide +kernel : decode code 520 = .ok (.iadd, 1)) rfl) ?_
  refine q_fa (ok_iaload (by decide +kernel : decode code 521 = .ok (.iaload, 1)) rfl) ?_
  refine q_fa (ok_callVA (by decide +kernel : decode code 522 = .ok (.invokevirtual 60, 3)) rfl kX11_parted.1 kX11_parted.2.1 kX11_parted.2.2.1 kX11_parted.2.2.2.1 kX11_parted.2.2.2.2 (rfl : vwCl[11]? = some (RX11, TX11, 11)) g609 g610 g608) ?_
  refine q_fa (ok_aload_n (by decide +kernel : decode code 525 = .ok (.aload_n 2, 1)) rfl rfl) ?_
  refine q_fa (ok_aload_n (by decide +kernel : decode code 526 = .ok (.aload_n 0, 1)) rfl rfl) ?_
  refine q_fa (ok_iload_n (by decide +kernel : decode code 527 = .ok (.iload_n 3, 1)) rfl rfl) ?_
  refine q_fa (ok_iconst (by decide +kernel : decode code 528 = .ok (.iconst 1, 1)) rfl (by decide +kernel)) ?_
  refine q_fa (ok_iadd (by decide +kernel : decode code 529 = .ok (.iadd, 1)) rfl) ?_
  refine q_fa (ok_iaload (by decide +kernel : decode code 530 = .ok (.iaload, 1)) rfl) ?_
  refine q_fa (ok_aload_n (by decide +kernel : decode code 531 = .ok (.aload_n 0, 1)) rfl rfl) ?_
  refine q_fa (ok_iload_n (by decide +kernel : decode code 532 = .ok (.iload_n 3, 1)) rfl rfl) ?_
  refine q_fa (ok_iconst (by decide +kernel : decode code 533 = .ok (.iconst 2, 1)) rfl (by decide +kernel)) ?_
  refine q_fa (ok_iadd (by decide +kernel : decode code 534 = .ok (.iadd, 1)) rfl) ?_
  refine q_fa (ok_iaload (by decide +kernel : decode code 535 = .ok (.iaload, 1)) rfl) ?_
  refine q_fa (ok_callV (by decide +kernel : decode code 536 = .ok (.invokevirtual 63, 3)) rfl kX12_parted.1 kX12_parted.2.1 kX12_parted.2.2.1 kX12_parted.2.2.2.1 kX12_parted.2.2.2.2 (rfl : vwCl[12]? = some (RX12, TX12, 58)) g1375 g1376 g1374) ?_
  refine q_fa (ok_if2eq (by decide +kernel : decode code 539 = .ok (.if_icmp .eq 404, 3)) (by decide) rfl) ?_
  refine q_fa (ok_iconst (by decide +kernel : decode code 542 = .ok (.iconst 0, 1)) rfl (by decide +kernel)) ?_
  refine q_fa (ok_zret (by decide +kernel : decode code 543 = .ok (.ireturn, 1)) rfl) ?_
  refine q_fa (ok_aload_n (by decide +kernel : decode code 544 = .ok (.aload_n 1, 1)) rfl rfl) ?_
  refine q_fa (ok_aload_n (by decide +kernel : decode code 545 = .ok (.aload_n 0, 1)) rfl rfl) ?_
  refine q_fa (ok_iload_n (by decide +kernel : decode code 546 = .ok (.iload_n 3, 1)) rfl rfl) ?_
  refine q_fa (ok_iconst (by decide +kernel : decode code 547 = .ok (.iconst 1, 1)) rfl (by decide +kernel)) ?_
  refine q_fa (ok_iadd (by decide +kernel : decode code 548 = .ok (.iadd, 1)) rfl) ?_
  refine q_fa (ok_iaload (by decide +kernel : decode code 549 = .ok (.iaload, 1)) rfl) ?_
  refine q_fa (ok_aload_n (by decide +kernel : decode code 550 = .ok (.aload_n 0, 1)) rfl rfl) ?_
  refine q_fa (ok_iload_n (by decide +kernel : decode code 551 = .ok (.iload_n 3, 1)) rfl rfl) ?_
  refine q_fa (ok_iconst (by decide +kernel : decode code 552 = .ok (.iconst 2, 1)) rfl (by decide +kernel)) ?_
  refine q_fa (ok_iadd (by decide +kernel : decode code 553 = .ok (.iadd, 1)) rfl) ?_
  refine q_fa (ok_iaload (by decide +kernel : decode code 554 = .ok (.iaload, 1)) rfl) ?_
  refine q_fa (ok_callVA (by decide +kernel : decode code 555 = .ok (.invokevirtual 64, 3)) rfl kX11_inside.1 kX11_inside.2.1 kX11_inside.2.2.1 kX11_inside.2.2.2.1 kX11_inside.2.2.2.2 (rfl : vwCl[11]? = some (RX11, TX11, 11)) g613 g614 g612) ?_
  refine q_fa (ok_aload_n (by decide +kernel : decode code 558 = .ok (.aload_n 2, 1)) rfl rfl) ?_
  refine q_fa (ok_aload_n (by decide +kernel : decode code 559 = .ok (.aload_n 0, 1)) rfl rfl) ?_
  refine q_fa (ok_iload_n (by decide +kernel : decode code 560 = .ok (.iload_n 3, 1)) rfl rfl) ?_
  refine q_fa (ok_iconst (by decide +kernel : decode code 561 = .ok (.iconst 1, 1)) rfl (by decide +kernel)) ?_
  refine q_fa (ok_iadd (by decide +kernel : decode code 562 = .ok (.iadd, 1)) rfl) ?_
  refine q_fa (ok_iaload (by decide +kernel : decode code 563 = .ok (.iaload, 1)) rfl) ?_
  refine q_fa (ok_aload_n (by decide +kernel : decode code 564 = .ok (.aload_n 0, 1)) rfl rfl) ?_
  refine q_fa (ok_iload_n (by decide +kernel : decode code 565 = .ok (.iload_n 3, 1)) rfl rfl) ?_
  refine q_fa (ok_iconst (by decide +kernel : decode code 566 = .ok (.iconst 2, 1)) rfl (by decide +kernel)) ?_
  refine q_fa (ok_iadd (by decide +kernel : decode code 567 = .ok (.iadd, 1)) rfl) ?_
  refine q_fa (ok_iaload (by decide +kernel : decode code 568 = .ok (.iaload, 1)) rfl) ?_
  refine q_fa (ok_callV (by decide +kernel : decode code 569 = .ok (.invokevirtual 67, 3)) rfl kX12_inside.1 kX12_inside.2.1 kX12_inside.2.2.1 kX12_inside.2.2.2.1 kX12_inside.2.2.2.2 (rfl : vwCl[12]? = some (RX12, TX12, 58)) g1379 g1380 g1378) ?_
  refine q_fa (ok_if2eq (by decide +kernel : decode code 572 = .ok (.if_icmp .eq 371, 3)) (by decide) rfl) ?_
  refine q_fa (ok_iconst (by decide +kernel : decode code 575 = .ok (.iconst 0, 1)) rfl (by decide +kernel)) ?_
  refine q_fa (ok_zret (by decide +kernel : decode code 576 = .ok (.ireturn, 1)) rfl) ?_
  refine q_fa (ok_aload_n (by decide +kernel : decode code 577 = .ok (.aload_n 1, 1)) rfl rfl) ?_
  refine q_fa (ok_aload_n (by decide +kernel : decode code 578 = .ok (.aload_n 0, 1)) rfl rfl) ?_
  refine q_fa (ok_iload_n (by decide +kernel : decode code 579 = .ok (.iload_n 3, 1)) rfl rfl) ?_
  refine q_fa (ok_iconst (by decide +kernel : decode code 580 = .ok (.iconst 1, 1)) rfl (by decide +kernel)) ?_
  refine q_fa (ok_iadd (by decide +kernel : decode code 581 = .ok (.iadd, 1)) rfl) ?_
  refine q_fa (ok_iaload (by decide +kernel : decode code 582 = .ok (.iaload, 1)) rfl) ?_
  refine q_fa (ok_aload_n (by decide +kernel : decode code 583 = .ok (.aload_n 0, 1)) rfl rfl) ?_
  refine q_fa (ok_iload_n (by decide +kernel : decode code 584 = .ok (.iload_n 3, 1)) rfl rfl) ?_
  refine q_fa (ok_iconst (by decide +kernel : decode code 585 = .ok (.iconst 2, 1)) rfl (by decide +kernel)) ?_
  refine q_fa (ok_iadd (by decide +kernel : decode code 586 = .ok (.iadd, 1)) rfl) ?_
  refine q_fa (ok_iaload (by decide +kernel : decode code 587 = .ok (.iaload, 1)) rfl) ?_
  refine q_fa (ok_aload_n (by decide +kernel : decode code 588 = .ok (.aload_n 0, 1)) rfl rfl) ?_
  refine q_fa (ok_iload_n (by decide +kernel : decode code 589 = .ok (.iload_n 3, 1)) rfl rfl) ?_
  refine q_fa (ok_iconst (by decide +kernel : decode code 590 = .ok (.iconst 3, 1)) rfl (by decide +kernel)) ?_
  refine q_fa (ok_iadd (by decide +kernel : decode code 591 = .ok (.iadd, 1)) rfl) ?_
  refine q_fa (ok_iaload (by decide +kernel : decode code 592 = .ok (.iaload, 1)) rfl) ?_
  refine q_fa (ok_aload_n (by decide +kernel : decode code 593 = .ok (.aload_n 0, 1)) rfl rfl) ?_
  refine q_fa (ok_iload_n (by decide +kernel : decode code 594 = .ok (.iload_n 3, 1)) rfl rfl) ?_
  refine q_fa (ok_iconst (by decide +kernel : decode code 595 = .ok (.iconst 4, 1)) rfl (by decide +kernel)) ?_
  refine q_fa (ok_iadd (by decide +kernel : decode code 596 = .ok (.iadd, 1)) rfl) ?_
  refine q_fa (ok_iaload (by decide +kernel : decode code 597 = .ok (.iaload, 1)) rfl) ?_
  refine q_fa (ok_callV (by decide +kernel : decode code 598 = .ok (.invokevirtual 68, 3)) rfl kX11_show.1 kX11_show.2.1 kX11_show.2.2.1 kX11_show.2.2.2.1 kX11_show.2.2.2.2 (rfl : vwCl[11]? = some (RX11, TX11, 11)) g617 g618 g616) ?_
  refine q_fa (ok_aload_n (by decide +kernel : decode code 601 = .ok (.aload_n 2, 1)) rfl rfl) ?_
  refine q_fa (ok_aload_n (by decide +kernel : decode code 602 = .ok (.aload_n 0, 1)) rfl rfl) ?_
  refine q_fa (ok_iload_n (by decide +kernel : decode code 603 = .ok (.iload_n 3, 1)) rfl rfl) ?_
  refine q_fa (ok_iconst (by decide +kernel : decode code 604 = .ok (.iconst 1, 1)) rfl (by decide +kernel)) ?_
  refine q_fa (ok_iadd (by decide +kernel : decode code 605 = .ok (.iadd, 1)) rfl) ?_
  refine q_fa (ok_iaload (by decide +kernel : decode code 606 = .ok (.iaload, 1)) rfl) ?_
  refine q_fa (ok_aload_n (by decide +kernel : decode code 607 = .ok (.aload_n 0, 1)) rfl rfl) ?_
  refine q_fa (ok_iload_n (by decide +kernel : decode code 608 = .ok (.iload_n 3, 1)) rfl rfl) ?_
  refine q_fa (ok_iconst (by decide +kernel : decode code 609 = .ok (.iconst 2, 1)) rfl (by decide +kernel)) ?_
  refine q_fa (ok_iadd (by decide +kernel : decode code 610 = .ok (.iadd, 1)) rfl) ?_
  refine q_fa (ok_iaload (by decide +kernel : decode code 611 = .ok (.iaload, 1)) rfl) ?_
  refine q_fa (ok_aload_n (by decide +kernel : decode code 612 = .ok (.aload_n 0, 1)) rfl rfl) ?_
  refine q_fa (ok_iload_n (by decide +kernel : decode code 613 = .ok (.iload_n 3, 1)) rfl rfl) ?_
  refine q_fa (ok_iconst (by decide +kernel : decode code 614 = .ok (.iconst 3, 1)) rfl (by decide +kernel)) ?_
  refine q_fa (ok_iadd (by decide +kernel : decode code 615 = .ok (.iadd, 1)) rfl) ?_
  refine q_fa (ok_iaload (by decide +kernel : decode code 616 = .ok (.iaload, 1)) rfl) ?_
  refine q_fa (ok_aload_n (by decide +kernel : decode code 617 = .ok (.aload_n 0, 1)) rfl rfl) ?_
  refine q_fa (ok_iload_n (by decide +kernel : decode code 618 = .ok (.iload_n 3, 1)) rfl rfl) ?_
  refine q_fa (ok_iconst (by decide +kernel : decode code 619 = .ok (.iconst 4, 1)) rfl (by decide +kernel)) ?_
  refine q_fa (ok_iadd (by decide +kernel : decode code 620 = .ok (.iadd, 1)) rfl) ?_
  refine q_fa (ok_iaload (by decide +kernel : decode code 621 = .ok (.iaload, 1)) rfl) ?_
  refine q_fa (ok_callV (by decide +kernel : decode code 622 = .ok (.invokevirtual 72, 3)) rfl kX12_show.1 kX12_show.2.1 kX12_show.2.2.1 kX12_show.2.2.2.1 kX12_show.2.2.2.2 (rfl : vwCl[12]? = some (RX12, TX12, 58)) g1383 g1384 g1382) ?_
  refine q_fa (ok_if2eq (by decide +kernel : decode code 625 = .ok (.if_icmp .eq 318, 3)) (by decide) rfl) ?_
  refine q_fa (ok_iconst (by decide +kernel : decode code 628 = .ok (.iconst 0, 1)) rfl (by decide +kernel)) ?_
  refine q_fa (ok_zret (by decide +kernel : decode code 629 = .ok (.ireturn, 1)) rfl) ?_
  refine q_fa (ok_aload_n (by decide +kernel : decode code 630 = .ok (.aload_n 1, 1)) rfl rfl) ?_
  refine q_fa (ok_aload_n (by decide +kernel : decode code 631 = .ok (.aload_n 0, 1)) rfl rfl) ?_
  refine q_fa (ok_iload_n (by decide +kernel : decode code 632 = .ok (.iload_n 3, 1)) rfl rfl) ?_
  refine q_fa (ok_iconst (by decide +kernel : decode code 633 = .ok (.iconst 1, 1)) rfl (by decide +kernel)) ?_
  refine q_fa (ok_iadd (by decide +kernel : decode code 634 = .ok (.iadd, 1)) rfl) ?_
  refine q_fa (ok_iaload (by decide +kernel : decode code 635 = .ok (.iaload, 1)) rfl) ?_
  refine q_fa (ok_aload_n (by decide +kernel : decode code 636 = .ok (.aload_n 0, 1)) rfl rfl) ?_
  refine q_fa (ok_iload_n (by decide +kernel : decode code 637 = .ok (.iload_n 3, 1)) rfl rfl) ?_
  refine q_fa (ok_iconst (by decide +kernel : decode code 638 = .ok (.iconst 2, 1)) rfl (by decide +kernel)) ?_
  refine q_fa (ok_iadd (by decide +kernel : decode code 639 = .ok (.iadd, 1)) rfl) ?_
  refine q_fa (ok_iaload (by decide +kernel : decode code 640 = .ok (.iaload, 1)) rfl) ?_
  refine q_fa (ok_callV (by decide +kernel : decode code 641 = .ok (.invokevirtual 73, 3)) rfl kX11_back.1 kX11_back.2.1 kX11_back.2.2.1 kX11_back.2.2.2.1 kX11_back.2.2.2.2 (rfl : vwCl[11]? = some (RX11, TX11, 11)) g628 g629 g627) ?_
  refine q_fa (ok_aload_n (by decide +kernel : decode code 644 = .ok (.aload_n 2, 1)) rfl rfl) ?_
  refine q_fa (ok_aload_n (by decide +kernel : decode code 645 = .ok (.aload_n 0, 1)) rfl rfl) ?_
  refine q_fa (ok_iload_n (by decide +kernel : decode code 646 = .ok (.iload_n 3, 1)) rfl rfl) ?_
  refine q_fa (ok_iconst (by decide +kernel : decode code 647 = .ok (.iconst 1, 1)) rfl (by decide +kernel)) ?_
  refine q_fa (ok_iadd (by decide +kernel : decode code 648 = .ok (.iadd, 1)) rfl) ?_
  refine q_fa (ok_iaload (by decide +kernel : decode code 649 = .ok (.iaload, 1)) rfl) ?_
  refine q_fa (ok_aload_n (by decide +kernel : decode code 650 = .ok (.aload_n 0, 1)) rfl rfl) ?_
  refine q_fa (ok_iload_n (by decide +kernel : decode code 651 = .ok (.iload_n 3, 1)) rfl rfl) ?_
  refine q_fa (ok_iconst (by decide +kernel : decode code 652 = .ok (.iconst 2, 1)) rfl (by decide +kernel)) ?_
  refine q_fa (ok_iadd (by decide +kernel : decode code 653 = .ok (.iadd, 1)) rfl) ?_
  refine q_fa (ok_iaload (by decide +kernel : decode code 654 = .ok (.iaload, 1)) rfl) ?_
  refine q_fa (ok_callV (by decide +kernel : decode code 655 = .ok (.invokevirtual 76, 3)) rfl kX12_back.1 kX12_back.2.1 kX12_back.2.2.1 kX12_back.2.2.2.1 kX12_back.2.2.2.2 (rfl : vwCl[12]? = some (RX12, TX12, 58)) g1387 g1388 g1386) ?_
  refine q_fa (ok_if2eq (by decide +kernel : decode code 658 = .ok (.if_icmp .eq 285, 3)) (by decide) rfl) ?_
  refine q_fa (ok_iconst (by decide +kernel : decode code 661 = .ok (.iconst 0, 1)) rfl (by decide +kernel)) ?_
  refine q_fa (ok_zret (by decide +kernel : decode code 662 = .ok (.ireturn, 1)) rfl) ?_
  refine q_fa (ok_aload_n (by decide +kernel : decode code 663 = .ok (.aload_n 1, 1)) rfl rfl) ?_
  refine q_fa (ok_aload_n (by decide +kernel : decode code 664 = .ok (.aload_n 0, 1)) rfl rfl) ?_
  refine q_fa (ok_iload_n (by decide +kernel : decode code 665 = .ok (.iload_n 3, 1)) rfl rfl) ?_
  refine q_fa (ok_iconst (by decide +kernel : decode code 666 = .ok (.iconst 1, 1)) rfl (by decide +kernel)) ?_
  refine q_fa (ok_iadd (by decide +kernel : decode code 667 = .ok (.iadd, 1)) rfl) ?_
  refine q_fa (ok_iaload (by decide +kernel : decode code 668 = .ok (.iaload, 1)) rfl) ?_
  refine q_fa (ok_aload_n (by decide +kernel : decode code 669 = .ok (.aload_n 0, 1)) rfl rfl) ?_
  refine q_fa (ok_iload_n (by decide +kernel : decode code 670 = .ok (.iload_n 3, 1)) rfl rfl) ?_
  refine q_fa (ok_iconst (by decide +kernel : decode code 671 = .ok (.iconst 2, 1)) rfl (by decide +kernel)) ?_
  refine q_fa (ok_iadd (by decide +kernel : decode code 672 = .ok (.iadd, 1)) rfl) ?_
  refine q_fa (ok_iaload (by decide +kernel : decode code 673 = .ok (.iaload, 1)) rfl) ?_
  refine q_fa (ok_callV (by decide +kernel : decode code 674 = .ok (.invokevirtual 77, 3)) rfl kX11_agrees.1 kX11_agrees.2.1 kX11_agrees.2.2.1 kX11_agrees.2.2.2.1 kX11_agrees.2.2.2.2 (rfl : vwCl[11]? = some (RX11, TX11, 11)) g640 g641 g639) ?_
  refine q_fa (ok_aload_n (by decide +kernel : decode code 677 = .ok (.aload_n 2, 1)) rfl rfl) ?_
  refine q_fa (ok_aload_n (by decide +kernel : decode code 678 = .ok (.aload_n 0, 1)) rfl rfl) ?_
  refine q_fa (ok_iload_n (by decide +kernel : decode code 679 = .ok (.iload_n 3, 1)) rfl rfl) ?_
  refine q_fa (ok_iconst (by decide +kernel : decode code 680 = .ok (.iconst 1, 1)) rfl (by decide +kernel)) ?_
  refine q_fa (ok_iadd (by decide +kernel : decode code 681 = .ok (.iadd, 1)) rfl) ?_
  refine q_fa (ok_iaload (by decide +kernel : decode code 682 = .ok (.iaload, 1)) rfl) ?_
  refine q_fa (ok_aload_n (by decide +kernel : decode code 683 = .ok (.aload_n 0, 1)) rfl rfl) ?_
  refine q_fa (ok_iload_n (by decide +kernel : decode code 684 = .ok (.iload_n 3, 1)) rfl rfl) ?_
  refine q_fa (ok_iconst (by decide +kernel : decode code 685 = .ok (.iconst 2, 1)) rfl (by decide +kernel)) ?_
  refine q_fa (ok_iadd (by decide +kernel : decode code 686 = .ok (.iadd, 1)) rfl) ?_
  refine q_fa (ok_iaload (by decide +kernel : decode code 687 = .ok (.iaload, 1)) rfl) ?_
  refine q_fa (ok_callV (by decide +kernel : decode code 688 = .ok (.invokevirtual 80, 3)) rfl kX12_agrees.1 kX12_agrees.2.1 kX12_agrees.2.2.1 kX12_agrees.2.2.2.1 kX12_agrees.2.2.2.2 (rfl : vwCl[12]? = some (RX12, TX12, 58)) g1395 g1396 g1394) ?_
  refine q_fa (ok_if2eq (by decide +kernel : decode code 691 = .ok (.if_icmp .eq 252, 3)) (by decide) rfl) ?_
  refine q_fa (ok_iconst (by decide +kernel : decode code 694 = .ok (.iconst 0, 1)) rfl (by decide +kernel)) ?_
  refine q_fa (ok_zret (by decide +kernel : decode code 695 = .ok (.ireturn, 1)) rfl) ?_
  refine q_fa (ok_aload_n (by decide +kernel : decode code 696 = .ok (.aload_n 1, 1)) rfl rfl) ?_
  refine q_fa (ok_aload_n (by decide +kernel : decode code 697 = .ok (.aload_n 0, 1)) rfl rfl) ?_
  refine q_fa (ok_iload_n (by decide +kernel : decode code 698 = .ok (.iload_n 3, 1)) rfl rfl) ?_
  refine q_fa (ok_iconst (by decide +kernel : decode code 699 = .ok (.iconst 1, 1)) rfl (by decide +kernel)) ?_
  refine q_fa (ok_iadd (by decide +kernel : decode code 700 = .ok (.iadd, 1)) rfl) ?_
  refine q_fa (ok_iaload (by decide +kernel : decode code 701 = .ok (.iaload, 1)) rfl) ?_
  refine q_fa (ok_callV (by decide +kernel : decode code 702 = .ok (.invokevirtual 81, 3)) rfl kX11_paid.1 kX11_paid.2.1 kX11_paid.2.2.1 kX11_paid.2.2.2.1 kX11_paid.2.2.2.2 (rfl : vwCl[11]? = some (RX11, TX11, 11)) g704 g705 g703) ?_
  refine q_fa (ok_aload_n (by decide +kernel : decode code 705 = .ok (.aload_n 2, 1)) rfl rfl) ?_
  refine q_fa (ok_aload_n (by decide +kernel : decode code 706 = .ok (.aload_n 0, 1)) rfl rfl) ?_
  refine q_fa (ok_iload_n (by decide +kernel : decode code 707 = .ok (.iload_n 3, 1)) rfl rfl) ?_
  refine q_fa (ok_iconst (by decide +kernel : decode code 708 = .ok (.iconst 1, 1)) rfl (by decide +kernel)) ?_
  refine q_fa (ok_iadd (by decide +kernel : decode code 709 = .ok (.iadd, 1)) rfl) ?_
  refine q_fa (ok_iaload (by decide +kernel : decode code 710 = .ok (.iaload, 1)) rfl) ?_
  refine q_fa (ok_callV (by decide +kernel : decode code 711 = .ok (.invokevirtual 84, 3)) rfl kX12_paid.1 kX12_paid.2.1 kX12_paid.2.2.1 kX12_paid.2.2.2.1 kX12_paid.2.2.2.2 (rfl : vwCl[12]? = some (RX12, TX12, 58)) g1403 g1404 g1402) ?_
  refine q_fa (ok_if2eq (by decide +kernel : decode code 714 = .ok (.if_icmp .eq 229, 3)) (by decide) rfl) ?_
  refine q_fa (ok_iconst (by decide +kernel : decode code 717 = .ok (.iconst 0, 1)) rfl (by decide +kernel)) ?_
  refine q_fa (ok_zret (by decide +kernel : decode code 718 = .ok (.ireturn, 1)) rfl) ?_
  refine q_fa (ok_aload_n (by decide +kernel : decode code 719 = .ok (.aload_n 1, 1)) rfl rfl) ?_
  refine q_fa (ok_aload_n (by decide +kernel : decode code 720 = .ok (.aload_n 0, 1)) rfl rfl) ?_
  refine q_fa (ok_iload_n (by decide +kernel : decode code 721 = .ok (.iload_n 3, 1)) rfl rfl) ?_
  refine q_fa (ok_iconst (by decide +kernel : decode code 722 = .ok (.iconst 1, 1)) rfl (by decide +kernel)) ?_
  refine q_fa (ok_iadd (by decide +kernel : decode code 723 = .ok (.iadd, 1)) rfl) ?_
  refine q_fa (ok_iaload (by decide +kernel : decode code 724 = .ok (.iaload, 1)) rfl) ?_
  refine q_fa (ok_aload_n (by decide +kernel : decode code 725 = .ok (.aload_n 0, 1)) rfl rfl) ?_
  refine q_fa (ok_iload_n (by decide +kernel : decode code 726 = .ok (.iload_n 3, 1)) rfl rfl) ?_
  refine q_fa (ok_iconst (by decide +kernel : decode code 727 = .ok (.iconst 2, 1)) rfl (by decide +kernel)) ?_
  refine q_fa (ok_iadd (by decide +kernel : decode code 728 = .ok (.iadd, 1)) rfl) ?_
  refine q_fa (ok_iaload (by decide +kernel : decode code 729 = .ok (.iaload, 1)) rfl) ?_
  refine q_fa (ok_aload_n (by decide +kernel : decode code 730 = .ok (.aload_n 0, 1)) rfl rfl) ?_
  refine q_fa (ok_iload_n (by decide +kernel : decode code 731 = .ok (.iload_n 3, 1)) rfl rfl) ?_
  refine q_fa (ok_iconst (by decide +kernel : decode code 732 = .ok (.iconst 3, 1)) rfl (by decide +kernel)) ?_
  refine q_fa (ok_iadd (by decide +kernel : decode code 733 = .ok (.iadd, 1)) rfl) ?_
  refine q_fa (ok_iaload (by decide +kernel : decode code 734 = .ok (.iaload, 1)) rfl) ?_
  refine q_fa (ok_callVA (by decide +kernel : decode code 735 = .ok (.invokevirtual 85, 3)) rfl kX11_find.1 kX11_find.2.1 kX11_find.2.2.1 kX11_find.2.2.2.1 kX11_find.2.2.2.2 (rfl : vwCl[11]? = some (RX11, TX11, 11)) g720 g721 g719) ?_
  refine q_fa (ok_aload_n (by decide +kernel : decode code 738 = .ok (.aload_n 2, 1)) rfl rfl) ?_
  refine q_fa (ok_aload_n (by decide +kernel : decode code 739 = .ok (.aload_n 0, 1)) rfl rfl) ?_
  refine q_fa (ok_iload_n (by decide +kernel : decode code 740 = .ok (.iload_n 3, 1)) rfl rfl) ?_
  refine q_fa (ok_iconst (by decide +kernel : decode code 741 = .ok (.iconst 1, 1)) rfl (by decide +kernel)) ?_
  refine q_fa (ok_iadd (by decide +kernel : decode code 742 = .ok (.iadd, 1)) rfl) ?_
  refine q_fa (ok_iaload (by decide +kernel : decode code 743 = .ok (.iaload, 1)) rfl) ?_
  refine q_fa (ok_aload_n (by decide +kernel : decode code 744 = .ok (.aload_n 0, 1)) rfl rfl) ?_
  refine q_fa (ok_iload_n (by decide +kernel : decode code 745 = .ok (.iload_n 3, 1)) rfl rfl) ?_
  refine q_fa (ok_iconst (by decide +kernel : decode code 746 = .ok (.iconst 2, 1)) rfl (by decide +kernel)) ?_
  refine q_fa (ok_iadd (by decide +kernel : decode code 747 = .ok (.iadd, 1)) rfl) ?_
  refine q_fa (ok_iaload (by decide +kernel : decode code 748 = .ok (.iaload, 1)) rfl) ?_
  refine q_fa (ok_aload_n (by decide +kernel : decode code 749 = .ok (.aload_n 0, 1)) rfl rfl) ?_
  refine q_fa (ok_iload_n (by decide +kernel : decode code 750 = .ok (.iload_n 3, 1)) rfl rfl) ?_
  refine q_fa (ok_iconst (by decide +kernel : decode code 751 = .ok (.iconst 3, 1)) rfl (by decide +kernel)) ?_
  refine q_fa (ok_iadd (by decide +kernel : decode code 752 = .ok (.iadd, 1)) rfl) ?_
  refine q_fa (ok_iaload (by decide +kernel : decode code 753 = .ok (.iaload, 1)) rfl) ?_
  refine q_fa (ok_callV (by decide +kernel : decode code 754 = .ok (.invokevirtual 88, 3)) rfl kX12_find.1 kX12_find.2.1 kX12_find.2.2.1 kX12_find.2.2.2.1 kX12_find.2.2.2.2 (rfl : vwCl[12]? = some (RX12, TX12, 58)) g1411 g1412 g1410) ?_
  refine q_fa (ok_if2eq (by decide +kernel : decode code 757 = .ok (.if_icmp .eq 186, 3)) (by decide) rfl) ?_
  refine q_fa (ok_iconst (by decide +kernel : decode code 760 = .ok (.iconst 0, 1)) rfl (by decide +kernel)) ?_
  refine q_fa (ok_zret (by decide +kernel : decode code 761 = .ok (.ireturn, 1)) rfl) ?_
  refine q_fa (ok_aload_n (by decide +kernel : decode code 762 = .ok (.aload_n 1, 1)) rfl rfl) ?_
  refine q_fa (ok_aload_n (by decide +kernel : decode code 763 = .ok (.aload_n 0, 1)) rfl rfl) ?_
  refine q_fa (ok_iload_n (by decide +kernel : decode code 764 = .ok (.iload_n 3, 1)) rfl rfl) ?_
  refine q_fa (ok_iconst (by decide +kernel : decode code 765 = .ok (.iconst 1, 1)) rfl (by decide +kernel)) ?_
  refine q_fa (ok_iadd (by decide +kernel : decode code 766 = .ok (.iadd, 1)) rfl) ?_
  refine q_fa (ok_iaload (by decide +kernel : decode code 767 = .ok (.iaload, 1)) rfl) ?_
  refine q_fa (ok_callVA (by decide +kernel : decode code 768 = .ok (.invokevirtual 89, 3)) rfl kX11_next.1 kX11_next.2.1 kX11_next.2.2.1 kX11_next.2.2.2.1 kX11_next.2.2.2.2 (rfl : vwCl[11]? = some (RX11, TX11, 11)) g904 g905 g903) ?_
  refine q_fa (ok_aload_n (by decide +kernel : decode code 771 = .ok (.aload_n 2, 1)) rfl rfl) ?_
  refine q_fa (ok_aload_n (by decide +kernel : decode code 772 = .ok (.aload_n 0, 1)) rfl rfl) ?_
  refine q_fa (ok_iload_n (by decide +kernel : decode code 773 = .ok (.iload_n 3, 1)) rfl rfl) ?_
  refine q_fa (ok_iconst (by decide +kernel : decode code 774 = .ok (.iconst 1, 1)) rfl (by decide +kernel)) ?_
  refine q_fa (ok_iadd (by decide +kernel : decode code 775 = .ok (.iadd, 1)) rfl) ?_
  refine q_fa (ok_iaload (by decide +kernel : decode code 776 = .ok (.iaload, 1)) rfl) ?_
  refine q_fa (ok_callV (by decide +kernel : decode code 777 = .ok (.invokevirtual 92, 3)) rfl kX12_next.1 kX12_next.2.1 kX12_next.2.2.1 kX12_next.2.2.2.1 kX12_next.2.2.2.2 (rfl : vwCl[12]? = some (RX12, TX12, 58)) g1446 g1447 g1445) ?_
  refine q_fa (ok_if2eq (by decide +kernel : decode code 780 = .ok (.if_icmp .eq 163, 3)) (by decide) rfl) ?_
  refine q_fa (ok_iconst (by decide +kernel : decode code 783 = .ok (.iconst 0, 1)) rfl (by decide +kernel)) ?_
  refine q_fa (ok_zret (by decide +kernel : decode code 784 = .ok (.ireturn, 1)) rfl) ?_
  refine q_fa (ok_aload_n (by decide +kernel : decode code 785 = .ok (.aload_n 1, 1)) rfl rfl) ?_
  refine q_fa (ok_callV (by decide +kernel : decode code 786 = .ok (.invokevirtual 93, 3)) rfl kX11_found.1 kX11_found.2.1 kX11_found.2.2.1 kX11_found.2.2.2.1 kX11_found.2.2.2.2 (rfl : vwCl[11]? = some (RX11, TX11, 11)) g912 g913 g911) ?_
  refine q_fa (ok_aload_n (by decide +kernel : decode code 789 = .ok (.aload_n 2, 1)) rfl rfl) ?_
  refine q_fa (ok_callV (by decide +kernel : decode code 790 = .ok (.invokevirtual 97, 3)) rfl kX12_found.1 kX12_found.2.1 kX12_found.2.2.1 kX12_found.2.2.2.1 kX12_found.2.2.2.2 (rfl : vwCl[12]? = some (RX12, TX12, 58)) g1450 g1451 g1449) ?_
  refine q_fa (ok_if2eq (by decide +kernel : decode code 793 = .ok (.if_icmp .eq 150, 3)) (by decide) rfl) ?_
  refine q_fa (ok_iconst (by decide +kernel : decode code 796 = .ok (.iconst 0, 1)) rfl (by decide +kernel)) ?_
  refine q_fa (ok_zret (by decide +kernel : decode code 797 = .ok (.ireturn, 1)) rfl) ?_
  refine q_fa (ok_aload_n (by decide +kernel : decode code 798 = .ok (.aload_n 1, 1)) rfl rfl) ?_
  refine q_fa (ok_aload_n (by decide +kernel : decode code 799 = .ok (.aload_n 0, 1)) rfl rfl) ?_
  refine q_fa (ok_iload_n (by decide +kernel : decode code 800 = .ok (.iload_n 3, 1)) rfl rfl) ?_
  refine q_fa (ok_iconst (by decide +kernel : decode code 801 = .ok (.iconst 1, 1)) rfl (by decide +kernel)) ?_
  refine q_fa (ok_iadd (by decide +kernel : decode code 802 = .ok (.iadd, 1)) rfl) ?_
  refine q_fa (ok_iaload (by decide +kernel : decode code 803 = .ok (.iaload, 1)) rfl) ?_
  refine q_fa (ok_aload_n (by decide +kernel : decode code 804 = .ok (.aload_n 0, 1)) rfl rfl) ?_
  refine q_fa (ok_iload_n (by decide +kernel : decode code 805 = .ok (.iload_n 3, 1)) rfl rfl) ?_
  refine q_fa (ok_iconst (by decide +kernel : decode code 806 = .ok (.iconst 2, 1)) rfl (by decide +kernel)) ?_
  refine q_fa (ok_iadd (by decide +kernel : decode code 807 = .ok (.iadd, 1)) rfl) ?_
  refine q_fa (ok_iaload (by decide +kernel : decode code 808 = .ok (.iaload, 1)) rfl) ?_
  refine q_fa (ok_callVA (by decide +kernel : decode code 809 = .ok (.invokevirtual 98, 3)) rfl kX11_open.1 kX11_open.2.1 kX11_open.2.2.1 kX11_open.2.2.2.1 kX11_open.2.2.2.2 (rfl : vwCl[11]? = some (RX11, TX11, 11)) g920 g921 g919) ?_
  refine q_fa (ok_aload_n (by decide +kernel : decode code 812 = .ok (.aload_n 2, 1)) rfl rfl) ?_
  refine q_fa (ok_aload_n (by decide +kernel : decode code 813 = .ok (.aload_n 0, 1)) rfl rfl) ?_
  refine q_fa (ok_iload_n (by decide +kernel : decode code 814 = .ok (.iload_n 3, 1)) rfl rfl) ?_
  refine q_fa (ok_iconst (by decide +kernel : decode code 815 = .ok (.iconst 1, 1)) rfl (by decide +kernel)) ?_
  refine q_fa (ok_iadd (by decide +kernel : decode code 816 = .ok (.iadd, 1)) rfl) ?_
  refine q_fa (ok_iaload (by decide +kernel : decode code 817 = .ok (.iaload, 1)) rfl) ?_
  refine q_fa (ok_aload_n (by decide +kernel : decode code 818 = .ok (.aload_n 0, 1)) rfl rfl) ?_
  refine q_fa (ok_iload_n (by decide +kernel : decode code 819 = .ok (.iload_n 3, 1)) rfl rfl) ?_
  refine q_fa (ok_iconst (by decide +kernel : decode code 820 = .ok (.iconst 2, 1)) rfl (by decide +kernel)) ?_
  refine q_fa (ok_iadd (by decide +kernel : decode code 821 = .ok (.iadd, 1)) rfl) ?_
  refine q_fa (ok_iaload (by decide +kernel : decode code 822 = .ok (.iaload, 1)) rfl) ?_
  refine q_fa (ok_callV (by decide +kernel : decode code 823 = .ok (.invokevirtual 101, 3)) rfl kX12_open.1 kX12_open.2.1 kX12_open.2.2.1 kX12_open.2.2.2.1 kX12_open.2.2.2.2 (rfl : vwCl[12]? = some (RX12, TX12, 58)) g1454 g1455 g1453) ?_
  refine q_fa (ok_if2eq (by decide +kernel : decode code 826 = .ok (.if_icmp .eq 117, 3)) (by decide) rfl) ?_
  refine q_fa (ok_iconst (by decide +kernel : decode code 829 = .ok (.iconst 0, 1)) rfl (by decide +kernel)) ?_
  refine q_fa (ok_zret (by decide +kernel : decode code 830 = .ok (.ireturn, 1)) rfl) ?_
  refine q_fa (ok_aload_n (by decide +kernel : decode code 831 = .ok (.aload_n 1, 1)) rfl rfl) ?_
  refine q_fa (ok_aload_n (by decide +kernel : decode code 832 = .ok (.aload_n 0, 1)) rfl rfl) ?_
  refine q_fa (ok_iload_n (by decide +kernel : decode code 833 = .ok (.iload_n 3, 1)) rfl rfl) ?_
  refine q_fa (ok_iconst (by decide +kernel : decode code 834 = .ok (.iconst 1, 1)) rfl (by decide +kernel)) ?_
  refine q_fa (ok_iadd (by decide +kernel : decode code 835 = .ok (.iadd, 1)) rfl) ?_
  refine q_fa (ok_iaload (by decide +kernel : decode code 836 = .ok (.iaload, 1)) rfl) ?_
  refine q_fa (ok_aload_n (by decide +kernel : decode code 837 = .ok (.aload_n 0, 1)) rfl rfl) ?_
  refine q_fa (ok_iload_n (by decide +kernel : decode code 838 = .ok (.iload_n 3, 1)) rfl rfl) ?_
  refine q_fa (ok_iconst (by decide +kernel : decode code 839 = .ok (.iconst 2, 1)) rfl (by decide +kernel)) ?_
  refine q_fa (ok_iadd (by decide +kernel : decode code 840 = .ok (.iadd, 1)) rfl) ?_
  refine q_fa (ok_iaload (by decide +kernel : decode code 841 = .ok (.iaload, 1)) rfl) ?_
  refine q_fa (ok_callVA (by decide +kernel : decode code 842 = .ok (.invokevirtual 102, 3)) rfl kX11_ask.1 kX11_ask.2.1 kX11_ask.2.2.1 kX11_ask.2.2.2.1 kX11_ask.2.2.2.2 (rfl : vwCl[11]? = some (RX11, TX11, 11)) g928 g929 g927) ?_
  refine q_fa (ok_aload_n (by decide +kernel : decode code 845 = .ok (.aload_n 2, 1)) rfl rfl) ?_
  refine q_fa (ok_aload_n (by decide +kernel : decode code 846 = .ok (.aload_n 0, 1)) rfl rfl) ?_
  refine q_fa (ok_iload_n (by decide +kernel : decode code 847 = .ok (.iload_n 3, 1)) rfl rfl) ?_
  refine q_fa (ok_iconst (by decide +kernel : decode code 848 = .ok (.iconst 1, 1)) rfl (by decide +kernel)) ?_
  refine q_fa (ok_iadd (by decide +kernel : decode code 849 = .ok (.iadd, 1)) rfl) ?_
  refine q_fa (ok_iaload (by decide +kernel : decode code 850 = .ok (.iaload, 1)) rfl) ?_
  refine q_fa (ok_aload_n (by decide +kernel : decode code 851 = .ok (.aload_n 0, 1)) rfl rfl) ?_
  refine q_fa (ok_iload_n (by decide +kernel : decode code 852 = .ok (.iload_n 3, 1)) rfl rfl) ?_
  refine q_fa (ok_iconst (by decide +kernel : decode code 853 = .ok (.iconst 2, 1)) rfl (by decide +kernel)) ?_
  refine q_fa (ok_iadd (by decide +kernel : decode code 854 = .ok (.iadd, 1)) rfl) ?_
  refine q_fa (ok_iaload (by decide +kernel : decode code 855 = .ok (.iaload, 1)) rfl) ?_
  refine q_fa (ok_callV (by decide +kernel : decode code 856 = .ok (.invokevirtual 105, 3)) rfl kX12_ask.1 kX12_ask.2.1 kX12_ask.2.2.1 kX12_ask.2.2.2.1 kX12_ask.2.2.2.2 (rfl : vwCl[12]? = some (RX12, TX12, 58)) g1462 g1463 g1461) ?_
  refine q_fa (ok_if2eq (by decide +kernel : decode code 859 = .ok (.if_icmp .eq 84, 3)) (by decide) rfl) ?_
  refine q_fa (ok_iconst (by decide +kernel : decode code 862 = .ok (.iconst 0, 1)) rfl (by decide +kernel)) ?_
  refine q_fa (ok_zret (by decide +kernel : decode code 863 = .ok (.ireturn, 1)) rfl) ?_
  refine q_fa (ok_aload_n (by decide +kernel : decode code 864 = .ok (.aload_n 1, 1)) rfl rfl) ?_
  refine q_fa (ok_callV (by decide +kernel : decode code 865 = .ok (.invokevirtual 106, 3)) rfl kX11_asked.1 kX11_asked.2.1 kX11_asked.2.2.1 kX11_asked.2.2.2.1 kX11_asked.2.2.2.2 (rfl : vwCl[11]? = some (RX11, TX11, 11)) g958 g959 g957) ?_
  refine q_fa (ok_aload_n (by decide +kernel : decode code 868 = .ok (.aload_n 2, 1)) rfl rfl) ?_
  refine q_fa (ok_callV (by decide +kernel : decode code 869 = .ok (.invokevirtual 109, 3)) rfl kX12_asked.1 kX12_asked.2.1 kX12_asked.2.2.1 kX12_asked.2.2.2.1 kX12_asked.2.2.2.2 (rfl : vwCl[12]? = some (RX12, TX12, 58)) g1466 g1467 g1465) ?_
  refine q_fa (ok_if2eq (by decide +kernel : decode code 872 = .ok (.if_icmp .eq 71, 3)) (by decide) rfl) ?_
  refine q_fa (ok_iconst (by decide +kernel : decode code 875 = .ok (.iconst 0, 1)) rfl (by decide +kernel)) ?_
  refine q_fa (ok_zret (by decide +kernel : decode code 876 = .ok (.ireturn, 1)) rfl) ?_
  refine q_fa (ok_aload_n (by decide +kernel : decode code 877 = .ok (.aload_n 1, 1)) rfl rfl) ?_
  refine q_fa (ok_aload_n (by decide +kernel : decode code 878 = .ok (.aload_n 0, 1)) rfl rfl) ?_
  refine q_fa (ok_iload_n (by decide +kernel : decode code 879 = .ok (.iload_n 3, 1)) rfl rfl) ?_
  refine q_fa (ok_iconst (by decide +kernel : decode code 880 = .ok (.iconst 1, 1)) rfl (by decide +kernel)) ?_
  refine q_fa (ok_iadd (by decide +kernel : decode code 881 = .ok (.iadd, 1)) rfl) ?_
  refine q_fa (ok_iaload (by decide +kernel : decode code 882 = .ok (.iaload, 1)) rfl) ?_
  refine q_fa (ok_aload_n (by decide +kernel : decode code 883 = .ok (.aload_n 0, 1)) rfl rfl) ?_
  refine q_fa (ok_iload_n (by decide +kernel : decode code 884 = .ok (.iload_n 3, 1)) rfl rfl) ?_
  refine q_fa (ok_iconst (by decide +kernel : decode code 885 = .ok (.iconst 2, 1)) rfl (by decide +kernel)) ?_
  refine q_fa (ok_iadd (by decide +kernel : decode code 886 = .ok (.iadd, 1)) rfl) ?_
  refine q_fa (ok_iaload (by decide +kernel : decode code 887 = .ok (.iaload, 1)) rfl) ?_
  refine q_fa (ok_aload_n (by decide +kernel : decode code 888 = .ok (.aload_n 0, 1)) rfl rfl) ?_
  refine q_fa (ok_iload_n (by decide +kernel : decode code 889 = .ok (.iload_n 3, 1)) rfl rfl) ?_
  refine q_fa (ok_iconst (by decide +kernel : decode code 890 = .ok (.iconst 3, 1)) rfl (by decide +kernel)) ?_
  refine q_fa (ok_iadd (by decide +kernel : decode code 891 = .ok (.iadd, 1)) rfl) ?_
  refine q_fa (ok_iaload (by decide +kernel : decode code 892 = .ok (.iaload, 1)) rfl) ?_
  refine q_fa (ok_callVA (by decide +kernel : decode code 893 = .ok (.invokevirtual 110, 3)) rfl kX11_noise.1 kX11_noise.2.1 kX11_noise.2.2.1 kX11_noise.2.2.2.1 kX11_noise.2.2.2.2 (rfl : vwCl[11]? = some (RX11, TX11, 11)) g966 g967 g965) ?_
  refine q_fa (ok_aload_n (by decide +kernel : decode code 896 = .ok (.aload_n 2, 1)) rfl rfl) ?_
  refine q_fa (ok_aload_n (by decide +kernel : decode code 897 = .ok (.aload_n 0, 1)) rfl rfl) ?_
  refine q_fa (ok_iload_n (by decide +kernel : decode code 898 = .ok (.iload_n 3, 1)) rfl rfl) ?_
  refine q_fa (ok_iconst (by decide +kernel : decode code 899 = .ok (.iconst 1, 1)) rfl (by decide +kernel)) ?_
  refine q_fa (ok_iadd (by decide +kernel : decode code 900 = .ok (.iadd, 1)) rfl) ?_
  refine q_fa (ok_iaload (by decide +kernel : decode code 901 = .ok (.iaload, 1)) rfl) ?_
  refine q_fa (ok_aload_n (by decide +kernel : decode code 902 = .ok (.aload_n 0, 1)) rfl rfl) ?_
  refine q_fa (ok_iload_n (by decide +kernel : decode code 903 = .ok (.iload_n 3, 1)) rfl rfl) ?_
  refine q_fa (ok_iconst (by decide +kernel : decode code 904 = .ok (.iconst 2, 1)) rfl (by decide +kernel)) ?_
  refine q_fa (ok_iadd (by decide +kernel : decode code 905 = .ok (.iadd, 1)) rfl) ?_
  refine q_fa (ok_iaload (by decide +kernel : decode code 906 = .ok (.iaload, 1)) rfl) ?_
  refine q_fa (ok_aload_n (by decide +kernel : decode code 907 = .ok (.aload_n 0, 1)) rfl rfl) ?_
  refine q_fa (ok_iload_n (by decide +kernel : decode code 908 = .ok (.iload_n 3, 1)) rfl rfl) ?_
  refine q_fa (ok_iconst (by decide +kernel : decode code 909 = .ok (.iconst 3, 1)) rfl (by decide +kernel)) ?_
  refine q_fa (ok_iadd (by decide +kernel : decode code 910 = .ok (.iadd, 1)) rfl) ?_
  refine q_fa (ok_iaload (by decide +kernel : decode code 911 = .ok (.iaload, 1)) rfl) ?_
  refine q_fa (ok_callV (by decide +kernel : decode code 912 = .ok (.invokevirtual 113, 3)) rfl kX12_noise.1 kX12_noise.2.1 kX12_noise.2.2.1 kX12_noise.2.2.2.1 kX12_noise.2.2.2.2 (rfl : vwCl[12]? = some (RX12, TX12, 58)) g1470 g1471 g1469) ?_
  refine q_fa (ok_if2eq (by decide +kernel : decode code 915 = .ok (.if_icmp .eq 28, 3)) (by decide) rfl) ?_
  refine q_fa (ok_iconst (by decide +kernel : decode code 918 = .ok (.iconst 0, 1)) rfl (by decide +kernel)) ?_
  refine q_fa (ok_zret (by decide +kernel : decode code 919 = .ok (.ireturn, 1)) rfl) ?_
  refine q_fa (ok_aload_n (by decide +kernel : decode code 920 = .ok (.aload_n 1, 1)) rfl rfl) ?_
  refine q_fa (ok_aload_n (by decide +kernel : decode code 921 = .ok (.aload_n 0, 1)) rfl rfl) ?_
  refine q_fa (ok_iload_n (by decide +kernel : decode code 922 = .ok (.iload_n 3, 1)) rfl rfl) ?_
  refine q_fa (ok_iconst (by decide +kernel : decode code 923 = .ok (.iconst 1, 1)) rfl (by decide +kernel)) ?_
  refine q_fa (ok_iadd (by decide +kernel : decode code 924 = .ok (.iadd, 1)) rfl) ?_
  refine q_fa (ok_iaload (by decide +kernel : decode code 925 = .ok (.iaload, 1)) rfl) ?_
  refine q_fa (ok_callV (by decide +kernel : decode code 926 = .ok (.invokevirtual 114, 3)) rfl kX11_count.1 kX11_count.2.1 kX11_count.2.2.1 kX11_count.2.2.2.1 kX11_count.2.2.2.2 (rfl : vwCl[11]? = some (RX11, TX11, 11)) g981 g982 g980) ?_
  refine q_fa (ok_aload_n (by decide +kernel : decode code 929 = .ok (.aload_n 2, 1)) rfl rfl) ?_
  refine q_fa (ok_aload_n (by decide +kernel : decode code 930 = .ok (.aload_n 0, 1)) rfl rfl) ?_
  refine q_fa (ok_iload_n (by decide +kernel : decode code 931 = .ok (.iload_n 3, 1)) rfl rfl) ?_
  refine q_fa (ok_iconst (by decide +kernel : decode code 932 = .ok (.iconst 1, 1)) rfl (by decide +kernel)) ?_
  refine q_fa (ok_iadd (by decide +kernel : decode code 933 = .ok (.iadd, 1)) rfl) ?_
  refine q_fa (ok_iaload (by decide +kernel : decode code 934 = .ok (.iaload, 1)) rfl) ?_
  refine q_fa (ok_callV (by decide +kernel : decode code 935 = .ok (.invokevirtual 117, 3)) rfl kX12_count.1 kX12_count.2.1 kX12_count.2.2.1 kX12_count.2.2.2.1 kX12_count.2.2.2.2 (rfl : vwCl[12]? = some (RX12, TX12, 58)) g1474 g1475 g1473) ?_
  refine q_fa (ok_if2eq (by decide +kernel : decode code 938 = .ok (.if_icmp .eq 5, 3)) (by decide) rfl) ?_
  refine q_fa (ok_iconst (by decide +kernel : decode code 941 = .ok (.iconst 0, 1)) rfl (by decide +kernel)) ?_
  refine q_fa (ok_zret (by decide +kernel : decode code 942 = .ok (.ireturn, 1)) rfl) ?_
  refine q_fa (ok_iinc (by decide +kernel : decode code 943 = .ok (.iinc 3 5, 3)) rfl (by decide +kernel) (by decide)) ?_
  refine q_fa (ok_goto (by decide +kernel : decode code 946 = .ok (.goto (-928), 3)) (by decide)) ?_
  refine q_fa (ok_iconst (by decide +kernel : decode code 949 = .ok (.iconst 1, 1)) rfl (by decide +kernel)) ?_
  refine q_fa (ok_zret (by decide +kernel : decode code 950 = .ok (.ireturn, 1)) rfl) ?_
  exact q_fa0
theorem exL_law : ∃ t : Nat → qP, t = uL_law := ⟨_, rfl⟩
noncomputable def tL_law : Nat → qP := Classical.choose exL_law
theorem teL_law : tL_law = uL_law := Classical.choose_spec exL_law
theorem sL_law : q_Snd mL_law tL_law := by rw [teL_law]; exact suL_law
theorem tL_law_0 : tL_law 0 = oNew 11 11 [.null, .null, .null, .null, .null, .null, .null, .null, .null, .null, .null] 3 := (congrFun teL_law 0).trans rfl
theorem tL_law_3 : tL_law 3 = oDup 4 := (congrFun teL_law 3).trans rfl
theorem tL_law_4 : tL_law 4 = oCallI mX11_init 0 7 := (congrFun teL_law 4).trans rfl
theorem tL_law_7 : tL_law 7 = oAs 1 8 := (congrFun teL_law 7).trans rfl
theorem tL_law_8 : tL_law 8 = oNew 12 58 [.int 0, .null, .int 0, .null, .null, .null, .null, .null, .null, .null, .int 0, .int 0, .null, .null, .null, .null, .int 0, .null, .int 0, .int 0, .int 0, .int 0, .int 0, .null, .null, .null, .null, .null, .null, .null, .int 0, .int 0, .int 0, .null, .null, .null, .null, .int 0, .int 0, .null, .null, .null, .null, .null, .null, .null, .null, .null, .int 0, .int 0, .int 0, .int 0, .null, .null, .int 0, .null, .null, .int 0] 11 := (congrFun teL_law 8).trans rfl
theorem tL_law_11 : tL_law 11 = oDup 12 := (congrFun teL_law 11).trans rfl
theorem tL_law_12 : tL_law 12 = oCallI mX12_init 0 15 := (congrFun teL_law 12).trans rfl
theorem tL_law_15 : tL_law 15 = oAs 2 16 := (congrFun teL_law 15).trans rfl
theorem tL_law_16 : tL_law 16 = oK (.int (nI 0)) 17 := (congrFun teL_law 16).trans rfl
theorem tL_law_17 : tL_law 17 = oIs 3 18 := (congrFun teL_law 17).trans rfl
theorem tL_law_18 : tL_law 18 = oIl 3 19 := (congrFun teL_law 18).trans rfl
theorem tL_law_19 : tL_law 19 = oAl 0 20 := (congrFun teL_law 19).trans rfl
theorem tL_law_20 : tL_law 20 = oAlen 21 := (congrFun teL_law 20).trans rfl
theorem tL_law_21 : tL_law 21 = oK (.int (nI 5)) 22 := (congrFun teL_law 21).trans rfl
theorem tL_law_22 : tL_law 22 = oSub 23 := (congrFun teL_law 22).trans rfl
theorem tL_law_23 : tL_law 23 = oIf2gt 949 26 := (congrFun teL_law 23).trans rfl
theorem tL_law_26 : tL_law 26 = oAl 0 27 := (congrFun teL_law 26).trans rfl
theorem tL_law_27 : tL_law 27 = oIl 3 28 := (congrFun teL_law 27).trans rfl
theorem tL_law_28 : tL_law 28 = oIald 29 := (congrFun teL_law 28).trans rfl
theorem tL_law_29 : tL_law 29 = oK (.int (nI 31)) 31 := (congrFun teL_law 29).trans rfl
theorem tL_law_31 : tL_law 31 = oAnd 32 := (congrFun teL_law 31).trans rfl
theorem tL_law_32 : tL_law 32 = oTab 0 [148, 181, 204, 237, 260, 293, 336, 369, 402, 435, 478, 511, 544, 577, 630, 663, 696, 719, 762, 785, 798, 831, 864, 877, 920] 943 := (congrFun teL_law 32).trans rfl
theorem tL_law_148 : tL_law 148 = oAl 1 149 := (congrFun teL_law 148).trans rfl
theorem tL_law_149 : tL_law 149 = oAl 0 150 := (congrFun teL_law 149).trans rfl
theorem tL_law_150 : tL_law 150 = oIl 3 151 := (congrFun teL_law 150).trans rfl
theorem tL_law_151 : tL_law 151 = oK (.int (nI 1)) 152 := (congrFun teL_law 151).trans rfl
theorem tL_law_152 : tL_law 152 = oAdd 153 := (congrFun teL_law 152).trans rfl
theorem tL_law_153 : tL_law 153 = oIald 154 := (congrFun teL_law 153).trans rfl
theorem tL_law_154 : tL_law 154 = oAl 0 155 := (congrFun teL_law 154).trans rfl
theorem tL_law_155 : tL_law 155 = oIl 3 156 := (congrFun teL_law 155).trans rfl
theorem tL_law_156 : tL_law 156 = oK (.int (nI 2)) 157 := (congrFun teL_law 156).trans rfl
theorem tL_law_157 : tL_law 157 = oAdd 158 := (congrFun teL_law 157).trans rfl
theorem tL_law_158 : tL_law 158 = oIald 159 := (congrFun teL_law 158).trans rfl
theorem tL_law_159 : tL_law 159 = oCallV 11 mX11_feed 2 162 := (congrFun teL_law 159).trans rfl
theorem tL_law_162 : tL_law 162 = oAl 2 163 := (congrFun teL_law 162).trans rfl
theorem tL_law_163 : tL_law 163 = oAl 0 164 := (congrFun teL_law 163).trans rfl
theorem tL_law_164 : tL_law 164 = oIl 3 165 := (congrFun teL_law 164).trans rfl
theorem tL_law_165 : tL_law 165 = oK (.int (nI 1)) 166 := (congrFun teL_law 165).trans rfl
theorem tL_law_166 : tL_law 166 = oAdd 167 := (congrFun teL_law 166).trans rfl
theorem tL_law_167 : tL_law 167 = oIald 168 := (congrFun teL_law 167).trans rfl
theorem tL_law_168 : tL_law 168 = oAl 0 169 := (congrFun teL_law 168).trans rfl
theorem tL_law_169 : tL_law 169 = oIl 3 170 := (congrFun teL_law 169).trans rfl
theorem tL_law_170 : tL_law 170 = oK (.int (nI 2)) 171 := (congrFun teL_law 170).trans rfl
theorem tL_law_171 : tL_law 171 = oAdd 172 := (congrFun teL_law 171).trans rfl
theorem tL_law_172 : tL_law 172 = oIald 173 := (congrFun teL_law 172).trans rfl
theorem tL_law_173 : tL_law 173 = oCallV 12 mX12_feed 2 176 := (congrFun teL_law 173).trans rfl
theorem tL_law_176 : tL_law 176 = oIf2eq 943 179 := (congrFun teL_law 176).trans rfl
theorem tL_law_179 : tL_law 179 = oK (.int (nI 0)) 180 := (congrFun teL_law 179).trans rfl
theorem tL_law_180 : tL_law 180 = oZret := (congrFun teL_law 180).trans rfl
theorem tL_law_181 : tL_law 181 = oAl 1 182 := (congrFun teL_law 181).trans rfl
theorem tL_law_182 : tL_law 182 = oAl 0 183 := (congrFun teL_law 182).trans rfl
theorem tL_law_183 : tL_law 183 = oIl 3 184 := (congrFun teL_law 183).trans rfl
theorem tL_law_184 : tL_law 184 = oK (.int (nI 1)) 185 := (congrFun teL_law 184).trans rfl
theorem tL_law_185 : tL_law 185 = oAdd 186 := (congrFun teL_law 185).trans rfl
theorem tL_law_186 : tL_law 186 = oIald 187 := (congrFun teL_law 186).trans rfl
theorem tL_law_187 : tL_law 187 = oCallV 11 mX11_read 1 190 := (congrFun teL_law 187).trans rfl
theorem tL_law_190 : tL_law 190 = oAl 2 191 := (congrFun teL_law 190).trans rfl
theorem tL_law_191 : tL_law 191 = oAl 0 192 := (congrFun teL_law 191).trans rfl
theorem tL_law_192 : tL_law 192 = oIl 3 193 := (congrFun teL_law 192).trans rfl
theorem tL_law_193 : tL_law 193 = oK (.int (nI 1)) 194 := (congrFun teL_law 193).trans rfl
theorem tL_law_194 : tL_law 194 = oAdd 195 := (congrFun teL_law 194).trans rfl
theorem tL_law_195 : tL_law 195 = oIald 196 := (congrFun teL_law 195).trans rfl
theorem tL_law_196 : tL_law 196 = oCallV 12 mX12_read 1 199 := (congrFun teL_law 196).trans rfl
theorem tL_law_199 : tL_law 199 = oIf2eq 943 202 := (congrFun teL_law 199).trans rfl
theorem tL_law_202 : tL_law 202 = oK (.int (nI 0)) 203 := (congrFun teL_law 202).trans rfl
theorem tL_law_203 : tL_law 203 = oZret := (congrFun teL_law 203).trans rfl
theorem tL_law_204 : tL_law 204 = oAl 1 205 := (congrFun teL_law 204).trans rfl
theorem tL_law_205 : tL_law 205 = oAl 0 206 := (congrFun teL_law 205).trans rfl
theorem tL_law_206 : tL_law 206 = oIl 3 207 := (congrFun teL_law 206).trans rfl
theorem tL_law_207 : tL_law 207 = oK (.int (nI 1)) 208 := (congrFun teL_law 207).trans rfl
theorem tL_law_208 : tL_law 208 = oAdd 209 := (congrFun teL_law 208).trans rfl
theorem tL_law_209 : tL_law 209 = oIald 210 := (congrFun teL_law 209).trans rfl
theorem tL_law_210 : tL_law 210 = oAl 0 211 := (congrFun teL_law 210).trans rfl
theorem tL_law_211 : tL_law 211 = oIl 3 212 := (congrFun teL_law 211).trans rfl
theorem tL_law_212 : tL_law 212 = oK (.int (nI 2)) 213 := (congrFun teL_law 212).trans rfl
theorem tL_law_213 : tL_law 213 = oAdd 214 := (congrFun teL_law 213).trans rfl
theorem tL_law_214 : tL_law 214 = oIald 215 := (congrFun teL_law 214).trans rfl
theorem tL_law_215 : tL_law 215 = oCallV 11 mX11_say 2 218 := (congrFun teL_law 215).trans rfl
theorem tL_law_218 : tL_law 218 = oAl 2 219 := (congrFun teL_law 218).trans rfl
theorem tL_law_219 : tL_law 219 = oAl 0 220 := (congrFun teL_law 219).trans rfl
theorem tL_law_220 : tL_law 220 = oIl 3 221 := (congrFun teL_law 220).trans rfl
theorem tL_law_221 : tL_law 221 = oK (.int (nI 1)) 222 := (congrFun teL_law 221).trans rfl
theorem tL_law_222 : tL_law 222 = oAdd 223 := (congrFun teL_law 222).trans rfl
theorem tL_law_223 : tL_law 223 = oIald 224 := (congrFun teL_law 223).trans rfl
theorem tL_law_224 : tL_law 224 = oAl 0 225 := (congrFun teL_law 224).trans rfl
theorem tL_law_225 : tL_law 225 = oIl 3 226 := (congrFun teL_law 225).trans rfl
theorem tL_law_226 : tL_law 226 = oK (.int (nI 2)) 227 := (congrFun teL_law 226).trans rfl
theorem tL_law_227 : tL_law 227 = oAdd 228 := (congrFun teL_law 227).trans rfl
theorem tL_law_228 : tL_law 228 = oIald 229 := (congrFun teL_law 228).trans rfl
theorem tL_law_229 : tL_law 229 = oCallV 12 mX12_say 2 232 := (congrFun teL_law 229).trans rfl
theorem tL_law_232 : tL_law 232 = oIf2eq 943 235 := (congrFun teL_law 232).trans rfl
theorem tL_law_235 : tL_law 235 = oK (.int (nI 0)) 236 := (congrFun teL_law 235).trans rfl
theorem tL_law_236 : tL_law 236 = oZret := (congrFun teL_law 236).trans rfl
theorem tL_law_237 : tL_law 237 = oAl 1 238 := (congrFun teL_law 237).trans rfl
theorem tL_law_238 : tL_law 238 = oAl 0 239 := (congrFun teL_law 238).trans rfl
theorem tL_law_239 : tL_law 239 = oIl 3 240 := (congrFun teL_law 239).trans rfl
theorem tL_law_240 : tL_law 240 = oK (.int (nI 1)) 241 := (congrFun teL_law 240).trans rfl
theorem tL_law_241 : tL_law 241 = oAdd 242 := (congrFun teL_law 241).trans rfl
theorem tL_law_242 : tL_law 242 = oIald 243 := (congrFun teL_law 242).trans rfl
theorem tL_law_243 : tL_law 243 = oCallV 11 mX11_drop 1 246 := (congrFun teL_law 243).trans rfl
theorem tL_law_246 : tL_law 246 = oAl 2 247 := (congrFun teL_law 246).trans rfl
theorem tL_law_247 : tL_law 247 = oAl 0 248 := (congrFun teL_law 247).trans rfl
theorem tL_law_248 : tL_law 248 = oIl 3 249 := (congrFun teL_law 248).trans rfl
theorem tL_law_249 : tL_law 249 = oK (.int (nI 1)) 250 := (congrFun teL_law 249).trans rfl
theorem tL_law_250 : tL_law 250 = oAdd 251 := (congrFun teL_law 250).trans rfl
theorem tL_law_251 : tL_law 251 = oIald 252 := (congrFun teL_law 251).trans rfl
theorem tL_law_252 : tL_law 252 = oCallV 12 mX12_drop 1 255 := (congrFun teL_law 252).trans rfl
theorem tL_law_255 : tL_law 255 = oIf2eq 943 258 := (congrFun teL_law 255).trans rfl
theorem tL_law_258 : tL_law 258 = oK (.int (nI 0)) 259 := (congrFun teL_law 258).trans rfl
theorem tL_law_259 : tL_law 259 = oZret := (congrFun teL_law 259).trans rfl
theorem tL_law_260 : tL_law 260 = oAl 1 261 := (congrFun teL_law 260).trans rfl
theorem tL_law_261 : tL_law 261 = oAl 0 262 := (congrFun teL_law 261).trans rfl
theorem tL_law_262 : tL_law 262 = oIl 3 263 := (congrFun teL_law 262).trans rfl
theorem tL_law_263 : tL_law 263 = oK (.int (nI 1)) 264 := (congrFun teL_law 263).trans rfl
theorem tL_law_264 : tL_law 264 = oAdd 265 := (congrFun teL_law 264).trans rfl
theorem tL_law_265 : tL_law 265 = oIald 266 := (congrFun teL_law 265).trans rfl
theorem tL_law_266 : tL_law 266 = oAl 0 267 := (congrFun teL_law 266).trans rfl
theorem tL_law_267 : tL_law 267 = oIl 3 268 := (congrFun teL_law 267).trans rfl
theorem tL_law_268 : tL_law 268 = oK (.int (nI 2)) 269 := (congrFun teL_law 268).trans rfl
theorem tL_law_269 : tL_law 269 = oAdd 270 := (congrFun teL_law 269).trans rfl
theorem tL_law_270 : tL_law 270 = oIald 271 := (congrFun teL_law 270).trans rfl
theorem tL_law_271 : tL_law 271 = oCallVA 11 mX11_about 2 274 := (congrFun teL_law 271).trans rfl
theorem tL_law_274 : tL_law 274 = oAl 2 275 := (congrFun teL_law 274).trans rfl
theorem tL_law_275 : tL_law 275 = oAl 0 276 := (congrFun teL_law 275).trans rfl
theorem tL_law_276 : tL_law 276 = oIl 3 277 := (congrFun teL_law 276).trans rfl
theorem tL_law_277 : tL_law 277 = oK (.int (nI 1)) 278 := (congrFun teL_law 277).trans rfl
theorem tL_law_278 : tL_law 278 = oAdd 279 := (congrFun teL_law 278).trans rfl
theorem tL_law_279 : tL_law 279 = oIald 280 := (congrFun teL_law 279).trans rfl
theorem tL_law_280 : tL_law 280 = oAl 0 281 := (congrFun teL_law 280).trans rfl
theorem tL_law_281 : tL_law 281 = oIl 3 282 := (congrFun teL_law 281).trans rfl
theorem tL_law_282 : tL_law 282 = oK (.int (nI 2)) 283 := (congrFun teL_law 282).trans rfl
theorem tL_law_283 : tL_law 283 = oAdd 284 := (congrFun teL_law 283).trans rfl
theorem tL_law_284 : tL_law 284 = oIald 285 := (congrFun teL_law 284).trans rfl
theorem tL_law_285 : tL_law 285 = oCallV 12 mX12_about 2 288 := (congrFun teL_law 285).trans rfl
theorem tL_law_288 : tL_law 288 = oIf2eq 943 291 := (congrFun teL_law 288).trans rfl
theorem tL_law_291 : tL_law 291 = oK (.int (nI 0)) 292 := (congrFun teL_law 291).trans rfl
theorem tL_law_292 : tL_law 292 = oZret := (congrFun teL_law 292).trans rfl
theorem tL_law_293 : tL_law 293 = oAl 1 294 := (congrFun teL_law 293).trans rfl
theorem tL_law_294 : tL_law 294 = oAl 0 295 := (congrFun teL_law 294).trans rfl
theorem tL_law_295 : tL_law 295 = oIl 3 296 := (congrFun teL_law 295).trans rfl
theorem tL_law_296 : tL_law 296 = oK (.int (nI 1)) 297 := (congrFun teL_law 296).trans rfl
theorem tL_law_297 : tL_law 297 = oAdd 298 := (congrFun teL_law 297).trans rfl
theorem tL_law_298 : tL_law 298 = oIald 299 := (congrFun teL_law 298).trans rfl
theorem tL_law_299 : tL_law 299 = oAl 0 300 := (congrFun teL_law 299).trans rfl
theorem tL_law_300 : tL_law 300 = oIl 3 301 := (congrFun teL_law 300).trans rfl
theorem tL_law_301 : tL_law 301 = oK (.int (nI 2)) 302 := (congrFun teL_law 301).trans rfl
theorem tL_law_302 : tL_law 302 = oAdd 303 := (congrFun teL_law 302).trans rfl
theorem tL_law_303 : tL_law 303 = oIald 304 := (congrFun teL_law 303).trans rfl
theorem tL_law_304 : tL_law 304 = oAl 0 305 := (congrFun teL_law 304).trans rfl
theorem tL_law_305 : tL_law 305 = oIl 3 306 := (congrFun teL_law 305).trans rfl
theorem tL_law_306 : tL_law 306 = oK (.int (nI 3)) 307 := (congrFun teL_law 306).trans rfl
theorem tL_law_307 : tL_law 307 = oAdd 308 := (congrFun teL_law 307).trans rfl
theorem tL_law_308 : tL_law 308 = oIald 309 := (congrFun teL_law 308).trans rfl
theorem tL_law_309 : tL_law 309 = oCallVA 11 mX11_nth 3 312 := (congrFun teL_law 309).trans rfl
theorem tL_law_312 : tL_law 312 = oAl 2 313 := (congrFun teL_law 312).trans rfl
theorem tL_law_313 : tL_law 313 = oAl 0 314 := (congrFun teL_law 313).trans rfl
theorem tL_law_314 : tL_law 314 = oIl 3 315 := (congrFun teL_law 314).trans rfl
theorem tL_law_315 : tL_law 315 = oK (.int (nI 1)) 316 := (congrFun teL_law 315).trans rfl
theorem tL_law_316 : tL_law 316 = oAdd 317 := (congrFun teL_law 316).trans rfl
theorem tL_law_317 : tL_law 317 = oIald 318 := (congrFun teL_law 317).trans rfl
theorem tL_law_318 : tL_law 318 = oAl 0 319 := (congrFun teL_law 318).trans rfl
theorem tL_law_319 : tL_law 319 = oIl 3 320 := (congrFun teL_law 319).trans rfl
theorem tL_law_320 : tL_law 320 = oK (.int (nI 2)) 321 := (congrFun teL_law 320).trans rfl
theorem tL_law_321 : tL_law 321 = oAdd 322 := (congrFun teL_law 321).trans rfl
theorem tL_law_322 : tL_law 322 = oIald 323 := (congrFun teL_law 322).trans rfl
theorem tL_law_323 : tL_law 323 = oAl 0 324 := (congrFun teL_law 323).trans rfl
theorem tL_law_324 : tL_law 324 = oIl 3 325 := (congrFun teL_law 324).trans rfl
theorem tL_law_325 : tL_law 325 = oK (.int (nI 3)) 326 := (congrFun teL_law 325).trans rfl
theorem tL_law_326 : tL_law 326 = oAdd 327 := (congrFun teL_law 326).trans rfl
theorem tL_law_327 : tL_law 327 = oIald 328 := (congrFun teL_law 327).trans rfl
theorem tL_law_328 : tL_law 328 = oCallV 12 mX12_nth 3 331 := (congrFun teL_law 328).trans rfl
theorem tL_law_331 : tL_law 331 = oIf2eq 943 334 := (congrFun teL_law 331).trans rfl
theorem tL_law_334 : tL_law 334 = oK (.int (nI 0)) 335 := (congrFun teL_law 334).trans rfl
theorem tL_law_335 : tL_law 335 = oZret := (congrFun teL_law 335).trans rfl
theorem tL_law_336 : tL_law 336 = oAl 1 337 := (congrFun teL_law 336).trans rfl
theorem tL_law_337 : tL_law 337 = oAl 0 338 := (congrFun teL_law 337).trans rfl
theorem tL_law_338 : tL_law 338 = oIl 3 339 := (congrFun teL_law 338).trans rfl
theorem tL_law_339 : tL_law 339 = oK (.int (nI 1)) 340 := (congrFun teL_law 339).trans rfl
theorem tL_law_340 : tL_law 340 = oAdd 341 := (congrFun teL_law 340).trans rfl
theorem tL_law_341 : tL_law 341 = oIald 342 := (congrFun teL_law 341).trans rfl
theorem tL_law_342 : tL_law 342 = oAl 0 343 := (congrFun teL_law 342).trans rfl
theorem tL_law_343 : tL_law 343 = oIl 3 344 := (congrFun teL_law 343).trans rfl
theorem tL_law_344 : tL_law 344 = oK (.int (nI 2)) 345 := (congrFun teL_law 344).trans rfl
theorem tL_law_345 : tL_law 345 = oAdd 346 := (congrFun teL_law 345).trans rfl
theorem tL_law_346 : tL_law 346 = oIald 347 := (congrFun teL_law 346).trans rfl
theorem tL_law_347 : tL_law 347 = oCallV 11 mX11_fits 2 350 := (congrFun teL_law 347).trans rfl
theorem tL_law_350 : tL_law 350 = oAl 2 351 := (congrFun teL_law 350).trans rfl
set_option maxRecDepth 20000 in
theorem tL_law_351 : tL_law 351 = oAl 0 352 := (congrFun teL_law 351).trans rfl
set_option maxRecDepth 20000 in
theorem tL_law_352 : tL_law 352 = oIl 3 353 := (congrFun teL_law 352).trans rfl
set_option maxRecDepth 20000 in
theorem tL_law_353 : tL_law 353 = oK (.int (nI 1)) 354 := (congrFun teL_law 353).trans rfl
set_option maxRecDepth 20000 in
theorem tL_law_354 : tL_law 354 = oAdd 355 := (congrFun teL_law 354).trans rfl
set_option maxRecDepth 20000 in
theorem tL_law_355 : tL_law 355 = oIald 356 := (congrFun teL_law 355).trans rfl
set_option maxRecDepth 20000 in
theorem tL_law_356 : tL_law 356 = oAl 0 357 := (congrFun teL_law 356).trans rfl
set_option maxRecDepth 20000 in
theorem tL_law_357 : tL_law 357 = oIl 3 358 := (congrFun teL_law 357).trans rfl
set_option maxRecDepth 20000 in
theorem tL_law_358 : tL_law 358 = oK (.int (nI 2)) 359 := (congrFun teL_law 358).trans rfl
set_option maxRecDepth 20000 in
theorem tL_law_359 : tL_law 359 = oAdd 360 := (congrFun teL_law 359).trans rfl
set_option maxRecDepth 20000 in
theorem tL_law_360 : tL_law 360 = oIald 361 := (congrFun teL_law 360).trans rfl
set_option maxRecDepth 20000 in
theorem tL_law_361 : tL_law 361 = oCallV 12 mX12_fits 2 364 := (congrFun teL_law 361).trans rfl
set_option maxRecDepth 20000 in
theorem tL_law_364 : tL_law 364 = oIf2eq 943 367 := (congrFun teL_law 364).trans rfl
set_option maxRecDepth 20000 in
theorem tL_law_367 : tL_law 367 = oK (.int (nI 0)) 368 := (congrFun teL_law 367).trans rfl
set_option maxRecDepth 20000 in
theorem tL_law_368 : tL_law 368 = oZret := (congrFun teL_law 368).trans rfl
set_option maxRecDepth 20000 in
theorem tL_law_369 : tL_law 369 = oAl 1 370 := (congrFun teL_law 369).trans rfl
set_option maxRecDepth 20000 in
theorem tL_law_370 : tL_law 370 = oAl 0 371 := (congrFun teL_law 370).trans rfl
set_option maxRecDepth 20000 in
theorem tL_law_371 : tL_law 371 = oIl 3 372 := (congrFun teL_law 371).trans rfl
set_option maxRecDepth 20000 in
theorem tL_law_372 : tL_law 372 = oK (.int (nI 1)) 373 := (congrFun teL_law 372).trans rfl
set_option maxRecDepth 20000 in
theorem tL_law_373 : tL_law 373 = oAdd 374 := (congrFun teL_law 373).trans rfl
set_option maxRecDepth 20000 in
theorem tL_law_374 : tL_law 374 = oIald 375 := (congrFun teL_law 374).trans rfl
set_option maxRecDepth 20000 in
theorem tL_law_375 : tL_law 375 = oAl 0 376 := (congrFun teL_law 375).trans rfl
set_option maxRecDepth 20000 in
theorem tL_law_376 : tL_law 376 = oIl 3 377 := (congrFun teL_law 376).trans rfl
set_option maxRecDepth 20000 in
theorem tL_law_377 : tL_law 377 = oK (.int (nI 2)) 378 := (congrFun teL_law 377).trans rfl
set_option maxRecDepth 20000 in
theorem tL_law_378 : tL_law 378 = oAdd 379 := (congrFun teL_law 378).trans rfl
set_option maxRecDepth 20000 in
theorem tL_law_379 : tL_law 379 = oIald 380 := (congrFun teL_law 379).trans rfl
set_option maxRecDepth 20000 in
theorem tL_law_380 : tL_law 380 = oCallV 11 mX11_out 2 383 := (congrFun teL_law 380).trans rfl
set_option maxRecDepth 20000 in
theorem tL_law_383 : tL_law 383 = oAl 2 384 := (congrFun teL_law 383).trans rfl
set_option maxRecDepth 20000 in
theorem tL_law_384 : tL_law 384 = oAl 0 385 := (congrFun teL_law 384).trans rfl
set_option maxRecDepth 20000 in
theorem tL_law_385 : tL_law 385 = oIl 3 386 := (congrFun teL_law 385).trans rfl
set_option maxRecDepth 20000 in
theorem tL_law_386 : tL_law 386 = oK (.int (nI 1)) 387 := (congrFun teL_law 386).trans rfl
set_option maxRecDepth 20000 in
theorem tL_law_387 : tL_law 387 = oAdd 388 := (congrFun teL_law 387).trans rfl
set_option maxRecDepth 20000 in
theorem tL_law_388 : tL_law 388 = oIald 389 := (congrFun teL_law 388).trans rfl
set_option maxRecDepth 20000 in
theorem tL_law_389 : tL_law 389 = oAl 0 390 := (congrFun teL_law 389).trans rfl
set_option maxRecDepth 20000 in
theorem tL_law_390 : tL_law 390 = oIl 3 391 := (congrFun teL_law 390).trans rfl
set_option maxRecDepth 20000 in
theorem tL_law_391 : tL_law 391 = oK (.int (nI 2)) 392 := (congrFun teL_law 391).trans rfl
set_option maxRecDepth 20000 in
theorem tL_law_392 : tL_law 392 = oAdd 393 := (congrFun teL_law 392).trans rfl
set_option maxRecDepth 20000 in
theorem tL_law_393 : tL_law 393 = oIald 394 := (congrFun teL_law 393).trans rfl
set_option maxRecDepth 20000 in
theorem tL_law_394 : tL_law 394 = oCallV 12 mX12_out 2 397 := (congrFun teL_law 394).trans rfl
set_option maxRecDepth 20000 in
theorem tL_law_397 : tL_law 397 = oIf2eq 943 400 := (congrFun teL_law 397).trans rfl
set_option maxRecDepth 20000 in
theorem tL_law_400 : tL_law 400 = oK (.int (nI 0)) 401 := (congrFun teL_law 400).trans rfl
set_option maxRecDepth 20000 in
theorem tL_law_401 : tL_law 401 = oZret := (congrFun teL_law 401).trans rfl
set_option maxRecDepth 20000 in
theorem tL_law_402 : tL_law 402 = oAl 1 403 := (congrFun teL_law 402).trans rfl
set_option maxRecDepth 20000 in
theorem tL_law_403 : tL_law 403 = oAl 0 404 := (congrFun teL_law 403).trans rfl
set_option maxRecDepth 20000 in
theorem tL_law_404 : tL_law 404 = oIl 3 405 := (congrFun teL_law 404).trans rfl
set_option maxRecDepth 20000 in
theorem tL_law_405 : tL_law 405 = oK (.int (nI 1)) 406 := (congrFun teL_law 405).trans rfl
set_option maxRecDepth 20000 in
theorem tL_law_406 : tL_law 406 = oAdd 407 := (congrFun teL_law 406).trans rfl
set_option maxRecDepth 20000 in
theorem tL_law_407 : tL_law 407 = oIald 408 := (congrFun teL_law 407).trans rfl
set_option maxRecDepth 20000 in
theorem tL_law_408 : tL_law 408 = oAl 0 409 := (congrFun teL_law 408).trans rfl
set_option maxRecDepth 20000 in
theorem tL_law_409 : tL_law 409 = oIl 3 410 := (congrFun teL_law 409).trans rfl
set_option maxRecDepth 20000 in
theorem tL_law_410 : tL_law 410 = oK (.int (nI 2)) 411 := (congrFun teL_law 410).trans rfl
set_option maxRecDepth 20000 in
theorem tL_law_411 : tL_law 411 = oAdd 412 := (congrFun teL_law 411).trans rfl
set_option maxRecDepth 20000 in
theorem tL_law_412 : tL_law 412 = oIald 413 := (congrFun teL_law 412).trans rfl
set_option maxRecDepth 20000 in
theorem tL_law_413 : tL_law 413 = oCallV 11 mX11_many 2 416 := (congrFun teL_law 413).trans rfl
set_option maxRecDepth 20000 in
theorem tL_law_416 : tL_law 416 = oAl 2 417 := (congrFun teL_law 416).trans rfl
set_option maxRecDepth 20000 in
theorem tL_law_417 : tL_law 417 = oAl 0 418 := (congrFun teL_law 417).trans rfl
set_option maxRecDepth 20000 in
theorem tL_law_418 : tL_law 418 = oIl 3 419 := (congrFun teL_law 418).trans rfl
set_option maxRecDepth 20000 in
theorem tL_law_419 : tL_law 419 = oK (.int (nI 1)) 420 := (congrFun teL_law 419).trans rfl
set_option maxRecDepth 20000 in
theorem tL_law_420 : tL_law 420 = oAdd 421 := (congrFun teL_law 420).trans rfl
set_option maxRecDepth 20000 in
theorem tL_law_421 : tL_law 421 = oIald 422 := (congrFun teL_law 421).trans rfl
set_option maxRecDepth 20000 in
theorem tL_law_422 : tL_law 422 = oAl 0 423 := (congrFun teL_law 422).trans rfl
set_option maxRecDepth 20000 in
theorem tL_law_423 : tL_law 423 = oIl 3 424 := (congrFun teL_law 423).trans rfl
set_option maxRecDepth 20000 in
theorem tL_law_424 : tL_law 424 = oK (.int (nI 2)) 425 := (congrFun teL_law 424).trans rfl
set_option maxRecDepth 20000 in
theorem tL_law_425 : tL_law 425 = oAdd 426 := (congrFun teL_law 425).trans rfl
set_option maxRecDepth 20000 in
theorem tL_law_426 : tL_law 426 = oIald 427 := (congrFun teL_law 426).trans rfl
set_option maxRecDepth 20000 in
theorem tL_law_427 : tL_law 427 = oCallV 12 mX12_many 2 430 := (congrFun teL_law 427).trans rfl
set_option maxRecDepth 20000 in
theorem tL_law_430 : tL_law 430 = oIf2eq 943 433 := (congrFun teL_law 430).trans rfl
set_option maxRecDepth 20000 in
theorem tL_law_433 : tL_law 433 = oK (.int (nI 0)) 434 := (congrFun teL_law 433).trans rfl
set_option maxRecDepth 20000 in
theorem tL_law_434 : tL_law 434 = oZret := (congrFun teL_law 434).trans rfl
set_option maxRecDepth 20000 in
theorem tL_law_435 : tL_law 435 = oAl 1 436 := (congrFun teL_law 435).trans rfl
set_option maxRecDepth 20000 in
theorem tL_law_436 : tL_law 436 = oAl 0 437 := (congrFun teL_law 436).trans rfl
set_option maxRecDepth 20000 in
theorem tL_law_437 : tL_law 437 = oIl 3 438 := (congrFun teL_law 437).trans rfl
set_option maxRecDepth 20000 in
theorem tL_law_438 : tL_law 438 = oK (.int (nI 1)) 439 := (congrFun teL_law 438).trans rfl
set_option maxRecDepth 20000 in
theorem tL_law_439 : tL_law 439 = oAdd 440 := (congrFun teL_law 439).trans rfl
set_option maxRecDepth 20000 in
theorem tL_law_440 : tL_law 440 = oIald 441 := (congrFun teL_law 440).trans rfl
set_option maxRecDepth 20000 in
theorem tL_law_441 : tL_law 441 = oAl 0 442 := (congrFun teL_law 441).trans rfl
set_option maxRecDepth 20000 in
theorem tL_law_442 : tL_law 442 = oIl 3 443 := (congrFun teL_law 442).trans rfl
set_option maxRecDepth 20000 in
theorem tL_law_443 : tL_law 443 = oK (.int (nI 2)) 444 := (congrFun teL_law 443).trans rfl
set_option maxRecDepth 20000 in
theorem tL_law_444 : tL_law 444 = oAdd 445 := (congrFun teL_law 444).trans rfl
set_option maxRecDepth 20000 in
theorem tL_law_445 : tL_law 445 = oIald 446 := (congrFun teL_law 445).trans rfl
set_option maxRecDepth 20000 in
theorem tL_law_446 : tL_law 446 = oAl 0 447 := (congrFun teL_law 446).trans rfl
set_option maxRecDepth 20000 in
theorem tL_law_447 : tL_law 447 = oIl 3 448 := (congrFun teL_law 447).trans rfl
set_option maxRecDepth 20000 in
theorem tL_law_448 : tL_law 448 = oK (.int (nI 3)) 449 := (congrFun teL_law 448).trans rfl
set_option maxRecDepth 20000 in
theorem tL_law_449 : tL_law 449 = oAdd 450 := (congrFun teL_law 449).trans rfl
set_option maxRecDepth 20000 in
theorem tL_law_450 : tL_law 450 = oIald 451 := (congrFun teL_law 450).trans rfl
set_option maxRecDepth 20000 in
theorem tL_law_451 : tL_law 451 = oCallV 11 mX11_row 3 454 := (congrFun teL_law 451).trans rfl
set_option maxRecDepth 20000 in
theorem tL_law_454 : tL_law 454 = oAl 2 455 := (congrFun teL_law 454).trans rfl
set_option maxRecDepth 20000 in
theorem tL_law_455 : tL_law 455 = oAl 0 456 := (congrFun teL_law 455).trans rfl
set_option maxRecDepth 20000 in
theorem tL_law_456 : tL_law 456 = oIl 3 457 := (congrFun teL_law 456).trans rfl
set_option maxRecDepth 20000 in
theorem tL_law_457 : tL_law 457 = oK (.int (nI 1)) 458 := (congrFun teL_law 457).trans rfl
set_option maxRecDepth 20000 in
theorem tL_law_458 : tL_law 458 = oAdd 459 := (congrFun teL_law 458).trans rfl
set_option maxRecDepth 20000 in
theorem tL_law_459 : tL_law 459 = oIald 460 := (congrFun teL_law 459).trans rfl
set_option maxRecDepth 20000 in
theorem tL_law_460 : tL_law 460 = oAl 0 461 := (congrFun teL_law 460).trans rfl
set_option maxRecDepth 20000 in
theorem tL_law_461 : tL_law 461 = oIl 3 462 := (congrFun teL_law 461).trans rfl
set_option maxRecDepth 20000 in
theorem tL_law_462 : tL_law 462 = oK (.int (nI 2)) 463 := (congrFun teL_law 462).trans rfl
set_option maxRecDepth 20000 in
theorem tL_law_463 : tL_law 463 = oAdd 464 := (congrFun teL_law 463).trans rfl
set_option maxRecDepth 20000 in
theorem tL_law_464 : tL_law 464 = oIald 465 := (congrFun teL_law 464).trans rfl
set_option maxRecDepth 20000 in
theorem tL_law_465 : tL_law 465 = oAl 0 466 := (congrFun teL_law 465).trans rfl
set_option maxRecDepth 20000 in
theorem tL_law_466 : tL_law 466 = oIl 3 467 := (congrFun teL_law 466).trans rfl
set_option maxRecDepth 20000 in
theorem tL_law_467 : tL_law 467 = oK (.int (nI 3)) 468 := (congrFun teL_law 467).trans rfl
set_option maxRecDepth 20000 in
theorem tL_law_468 : tL_law 468 = oAdd 469 := (congrFun teL_law 468).trans rfl
set_option maxRecDepth 20000 in
theorem tL_law_469 : tL_law 469 = oIald 470 := (congrFun teL_law 469).trans rfl
set_option maxRecDepth 20000 in
theorem tL_law_470 : tL_law 470 = oCallV 12 mX12_row 3 473 := (congrFun teL_law 470).trans rfl
set_option maxRecDepth 20000 in
theorem tL_law_473 : tL_law 473 = oIf2eq 943 476 := (congrFun teL_law 473).trans rfl
set_option maxRecDepth 20000 in
theorem tL_law_476 : tL_law 476 = oK (.int (nI 0)) 477 := (congrFun teL_law 476).trans rfl
set_option maxRecDepth 20000 in
theorem tL_law_477 : tL_law 477 = oZret := (congrFun teL_law 477).trans rfl
set_option maxRecDepth 20000 in
theorem tL_law_478 : tL_law 478 = oAl 1 479 := (congrFun teL_law 478).trans rfl
set_option maxRecDepth 20000 in
theorem tL_law_479 : tL_law 479 = oAl 0 480 := (congrFun teL_law 479).trans rfl
set_option maxRecDepth 20000 in
theorem tL_law_480 : tL_law 480 = oIl 3 481 := (congrFun teL_law 480).trans rfl
set_option maxRecDepth 20000 in
theorem tL_law_481 : tL_law 481 = oK (.int (nI 1)) 482 := (congrFun teL_law 481).trans rfl
set_option maxRecDepth 20000 in
theorem tL_law_482 : tL_law 482 = oAdd 483 := (congrFun teL_law 482).trans rfl
set_option maxRecDepth 20000 in
theorem tL_law_483 : tL_law 483 = oIald 484 := (congrFun teL_law 483).trans rfl
set_option maxRecDepth 20000 in
theorem tL_law_484 : tL_law 484 = oAl 0 485 := (congrFun teL_law 484).trans rfl
set_option maxRecDepth 20000 in
theorem tL_law_485 : tL_law 485 = oIl 3 486 := (congrFun teL_law 485).trans rfl
set_option maxRecDepth 20000 in
theorem tL_law_486 : tL_law 486 = oK (.int (nI 2)) 487 := (congrFun teL_law 486).trans rfl
set_option maxRecDepth 20000 in
theorem tL_law_487 : tL_law 487 = oAdd 488 := (congrFun teL_law 487).trans rfl
set_option maxRecDepth 20000 in
theorem tL_law_488 : tL_law 488 = oIald 489 := (congrFun teL_law 488).trans rfl
set_option maxRecDepth 20000 in
theorem tL_law_489 : tL_law 489 = oCallVA 11 mX11_alike 2 492 := (congrFun teL_law 489).trans rfl
set_option maxRecDepth 20000 in
theorem tL_law_492 : tL_law 492 = oAl 2 493 := (congrFun teL_law 492).trans rfl
set_option maxRecDepth 20000 in
theorem tL_law_493 : tL_law 493 = oAl 0 494 := (congrFun teL_law 493).trans rfl
set_option maxRecDepth 20000 in
theorem tL_law_494 : tL_law 494 = oIl 3 495 := (congrFun teL_law 494).trans rfl
set_option maxRecDepth 20000 in
theorem tL_law_495 : tL_law 495 = oK (.int (nI 1)) 496 := (congrFun teL_law 495).trans rfl
set_option maxRecDepth 20000 in
theorem tL_law_496 : tL_law 496 = oAdd 497 := (congrFun teL_law 496).trans rfl
set_option maxRecDepth 20000 in
theorem tL_law_497 : tL_law 497 = oIald 498 := (congrFun teL_law 497).trans rfl
set_option maxRecDepth 20000 in
theorem tL_law_498 : tL_law 498 = oAl 0 499 := (congrFun teL_law 498).trans rfl
set_option maxRecDepth 20000 in
theorem tL_law_499 : tL_law 499 = oIl 3 500 := (congrFun teL_law 499).trans rfl
set_option maxRecDepth 20000 in
theorem tL_law_500 : tL_law 500 = oK (.int (nI 2)) 501 := (congrFun teL_law 500).trans rfl
set_option maxRecDepth 20000 in
theorem tL_law_501 : tL_law 501 = oAdd 502 := (congrFun teL_law 501).trans rfl
set_option maxRecDepth 20000 in
theorem tL_law_502 : tL_law 502 = oIald 503 := (congrFun teL_law 502).trans rfl
set_option maxRecDepth 20000 in
theorem tL_law_503 : tL_law 503 = oCallV 12 mX12_alike 2 506 := (congrFun teL_law 503).trans rfl
set_option maxRecDepth 20000 in
theorem tL_law_506 : tL_law 506 = oIf2eq 943 509 := (congrFun teL_law 506).trans rfl
set_option maxRecDepth 20000 in
theorem tL_law_509 : tL_law 509 = oK (.int (nI 0)) 510 := (congrFun teL_law 509).trans rfl
set_option maxRecDepth 20000 in
theorem tL_law_510 : tL_law 510 = oZret := (congrFun teL_law 510).trans rfl
set_option maxRecDepth 20000 in
theorem tL_law_511 : tL_law 511 = oAl 1 512 := (congrFun teL_law 511).trans rfl
set_option maxRecDepth 20000 in
theorem tL_law_512 : tL_law 512 = oAl 0 513 := (congrFun teL_law 512).trans rfl
set_option maxRecDepth 20000 in
theorem tL_law_513 : tL_law 513 = oIl 3 514 := (congrFun teL_law 513).trans rfl
set_option maxRecDepth 20000 in
theorem tL_law_514 : tL_law 514 = oK (.int (nI 1)) 515 := (congrFun teL_law 514).trans rfl
set_option maxRecDepth 20000 in
theorem tL_law_515 : tL_law 515 = oAdd 516 := (congrFun teL_law 515).trans rfl
set_option maxRecDepth 20000 in
theorem tL_law_516 : tL_law 516 = oIald 517 := (congrFun teL_law 516).trans rfl
set_option maxRecDepth 20000 in
theorem tL_law_517 : tL_law 517 = oAl 0 518 := (congrFun teL_law 517).trans rfl
set_option maxRecDepth 20000 in
theorem tL_law_518 : tL_law 518 = oIl 3 519 := (congrFun teL_law 518).trans rfl
set_option maxRecDepth 20000 in
theorem tL_law_519 : tL_law 519 = oK (.int (nI 2)) 520 := (congrFun teL_law 519).trans rfl
set_option maxRecDepth 20000 in
theorem tL_law_520 : tL_law 520 = oAdd 521 := (congrFun teL_law 520).trans rfl
set_option maxRecDepth 20000 in
theorem tL_law_521 : tL_law 521 = oIald 522 := (congrFun teL_law 521).trans rfl
set_option maxRecDepth 20000 in
theorem tL_law_522 : tL_law 522 = oCallVA 11 mX11_parted 2 525 := (congrFun teL_law 522).trans rfl
set_option maxRecDepth 20000 in
theorem tL_law_525 : tL_law 525 = oAl 2 526 := (congrFun teL_law 525).trans rfl
set_option maxRecDepth 20000 in
theorem tL_law_526 : tL_law 526 = oAl 0 527 := (congrFun teL_law 526).trans rfl
set_option maxRecDepth 20000 in
theorem tL_law_527 : tL_law 527 = oIl 3 528 := (congrFun teL_law 527).trans rfl
set_option maxRecDepth 20000 in
theorem tL_law_528 : tL_law 528 = oK (.int (nI 1)) 529 := (congrFun teL_law 528).trans rfl
set_option maxRecDepth 20000 in
theorem tL_law_529 : tL_law 529 = oAdd 530 := (congrFun teL_law 529).trans rfl
set_option maxRecDepth 20000 in
theorem tL_law_530 : tL_law 530 = oIald 531 := (congrFun teL_law 530).trans rfl
set_option maxRecDepth 20000 in
theorem tL_law_531 : tL_law 531 = oAl 0 532 := (congrFun teL_law 531).trans rfl
set_option maxRecDepth 20000 in
theorem tL_law_532 : tL_law 532 = oIl 3 533 := (congrFun teL_law 532).trans rfl
set_option maxRecDepth 20000 in
theorem tL_law_533 : tL_law 533 = oK (.int (nI 2)) 534 := (congrFun teL_law 533).trans rfl
set_option maxRecDepth 20000 in
theorem tL_law_534 : tL_law 534 = oAdd 535 := (congrFun teL_law 534).trans rfl
set_option maxRecDepth 20000 in
theorem tL_law_535 : tL_law 535 = oIald 536 := (congrFun teL_law 535).trans rfl
set_option maxRecDepth 20000 in
theorem tL_law_536 : tL_law 536 = oCallV 12 mX12_parted 2 539 := (congrFun teL_law 536).trans rfl
set_option maxRecDepth 20000 in
theorem tL_law_539 : tL_law 539 = oIf2eq 943 542 := (congrFun teL_law 539).trans rfl
set_option maxRecDepth 20000 in
theorem tL_law_542 : tL_law 542 = oK (.int (nI 0)) 543 := (congrFun teL_law 542).trans rfl
set_option maxRecDepth 20000 in
theorem tL_law_543 : tL_law 543 = oZret := (congrFun teL_law 543).trans rfl
set_option maxRecDepth 20000 in
theorem tL_law_544 : tL_law 544 = oAl 1 545 := (congrFun teL_law 544).trans rfl
set_option maxRecDepth 20000 in
theorem tL_law_545 : tL_law 545 = oAl 0 546 := (congrFun teL_law 545).trans rfl
set_option maxRecDepth 20000 in
theorem tL_law_546 : tL_law 546 = oIl 3 547 := (congrFun teL_law 546).trans rfl
set_option maxRecDepth 20000 in
theorem tL_law_547 : tL_law 547 = oK (.int (nI 1)) 548 := (congrFun teL_law 547).trans rfl
set_option maxRecDepth 20000 in
theorem tL_law_548 : tL_law 548 = oAdd 549 := (congrFun teL_law 548).trans rfl
set_option maxRecDepth 20000 in
theorem tL_law_549 : tL_law 549 = oIald 550 := (congrFun teL_law 549).trans rfl
set_option maxRecDepth 20000 in
theorem tL_law_550 : tL_law 550 = oAl 0 551 := (congrFun teL_law 550).trans rfl
set_option maxRecDepth 20000 in
theorem tL_law_551 : tL_law 551 = oIl 3 552 := (congrFun teL_law 551).trans rfl
set_option maxRecDepth 20000 in
theorem tL_law_552 : tL_law 552 = oK (.int (nI 2)) 553 := (congrFun teL_law 552).trans rfl
set_option maxRecDepth 20000 in
theorem tL_law_553 : tL_law 553 = oAdd 554 := (congrFun teL_law 553).trans rfl
set_option maxRecDepth 20000 in
theorem tL_law_554 : tL_law 554 = oIald 555 := (congrFun teL_law 554).trans rfl
set_option maxRecDepth 20000 in
theorem tL_law_555 : tL_law 555 = oCallVA 11 mX11_inside 2 558 := (congrFun teL_law 555).trans rfl
set_option maxRecDepth 20000 in
theorem tL_law_558 : tL_law 558 = oAl 2 559 := (congrFun teL_law 558).trans rfl
set_option maxRecDepth 20000 in
theorem tL_law_559 : tL_law 559 = oAl 0 560 := (congrFun teL_law 559).trans rfl
set_option maxRecDepth 20000 in
theorem tL_law_560 : tL_law 560 = oIl 3 561 := (congrFun teL_law 560).trans rfl
set_option maxRecDepth 20000 in
theorem tL_law_561 : tL_law 561 = oK (.int (nI 1)) 562 := (congrFun teL_law 561).trans rfl
set_option maxRecDepth 20000 in
theorem tL_law_562 : tL_law 562 = oAdd 563 := (congrFun teL_law 562).trans rfl
set_option maxRecDepth 20000 in
theorem tL_law_563 : tL_law 563 = oIald 564 := (congrFun teL_law 563).trans rfl
set_option maxRecDepth 20000 in
theorem tL_law_564 : tL_law 564 = oAl 0 565 := (congrFun teL_law 564).trans rfl
set_option maxRecDepth 20000 in
theorem tL_law_565 : tL_law 565 = oIl 3 566 := (congrFun teL_law 565).trans rfl
set_option maxRecDepth 20000 in
theorem tL_law_566 : tL_law 566 = oK (.int (nI 2)) 567 := (congrFun teL_law 566).trans rfl
set_option maxRecDepth 20000 in
theorem tL_law_567 : tL_law 567 = oAdd 568 := (congrFun teL_law 567).trans rfl
set_option maxRecDepth 20000 in
theorem tL_law_568 : tL_law 568 = oIald 569 := (congrFun teL_law 568).trans rfl
set_option maxRecDepth 20000 in
theorem tL_law_569 : tL_law 569 = oCallV 12 mX12_inside 2 572 := (congrFun teL_law 569).trans rfl
set_option maxRecDepth 20000 in
theorem tL_law_572 : tL_law 572 = oIf2eq 943 575 := (congrFun teL_law 572).trans rfl
set_option maxRecDepth 20000 in
theorem tL_law_575 : tL_law 575 = oK (.int (nI 0)) 576 := (congrFun teL_law 575).trans rfl
set_option maxRecDepth 20000 in
theorem tL_law_576 : tL_law 576 = oZret := (congrFun teL_law 576).trans rfl
set_option maxRecDepth 20000 in
theorem tL_law_577 : tL_law 577 = oAl 1 578 := (congrFun teL_law 577).trans rfl
set_option maxRecDepth 20000 in
theorem tL_law_578 : tL_law 578 = oAl 0 579 := (congrFun teL_law 578).trans rfl
set_option maxRecDepth 20000 in
theorem tL_law_579 : tL_law 579 = oIl 3 580 := (congrFun teL_law 579).trans rfl
set_option maxRecDepth 20000 in
theorem tL_law_580 : tL_law 580 = oK (.int (nI 1)) 581 := (congrFun teL_law 580).trans rfl
set_option maxRecDepth 20000 in
theorem tL_law_581 : tL_law 581 = oAdd 582 := (congrFun teL_law 581).trans rfl
set_option maxRecDepth 20000 in
theorem tL_law_582 : tL_law 582 = oIald 583 := (congrFun teL_law 582).trans rfl
set_option maxRecDepth 20000 in
theorem tL_law_583 : tL_law 583 = oAl 0 584 := (congrFun teL_law 583).trans rfl
set_option maxRecDepth 20000 in
theorem tL_law_584 : tL_law 584 = oIl 3 585 := (congrFun teL_law 584).trans rfl
set_option maxRecDepth 20000 in
theorem tL_law_585 : tL_law 585 = oK (.int (nI 2)) 586 := (congrFun teL_law 585).trans rfl
set_option maxRecDepth 20000 in
theorem tL_law_586 : tL_law 586 = oAdd 587 := (congrFun teL_law 586).trans rfl
set_option maxRecDepth 20000 in
theorem tL_law_587 : tL_law 587 = oIald 588 := (congrFun teL_law 587).trans rfl
set_option maxRecDepth 20000 in
theorem tL_law_588 : tL_law 588 = oAl 0 589 := (congrFun teL_law 588).trans rfl
set_option maxRecDepth 20000 in
theorem tL_law_589 : tL_law 589 = oIl 3 590 := (congrFun teL_law 589).trans rfl
set_option maxRecDepth 20000 in
theorem tL_law_590 : tL_law 590 = oK (.int (nI 3)) 591 := (congrFun teL_law 590).trans rfl
set_option maxRecDepth 20000 in
theorem tL_law_591 : tL_law 591 = oAdd 592 := (congrFun teL_law 591).trans rfl
set_option maxRecDepth 20000 in
theorem tL_law_592 : tL_law 592 = oIald 593 := (congrFun teL_law 592).trans rfl
set_option maxRecDepth 20000 in
theorem tL_law_593 : tL_law 593 = oAl 0 594 := (congrFun teL_law 593).trans rfl
set_option maxRecDepth 20000 in
theorem tL_law_594 : tL_law 594 = oIl 3 595 := (congrFun teL_law 594).trans rfl
set_option maxRecDepth 20000 in
theorem tL_law_595 : tL_law 595 = oK (.int (nI 4)) 596 := (congrFun teL_law 595).trans rfl
set_option maxRecDepth 20000 in
theorem tL_law_596 : tL_law 596 = oAdd 597 := (congrFun teL_law 596).trans rfl
set_option maxRecDepth 20000 in
theorem tL_law_597 : tL_law 597 = oIald 598 := (congrFun teL_law 597).trans rfl
set_option maxRecDepth 20000 in
theorem tL_law_598 : tL_law 598 = oCallV 11 mX11_show 4 601 := (congrFun teL_law 598).trans rfl
set_option maxRecDepth 20000 in
theorem tL_law_601 : tL_law 601 = oAl 2 602 := (congrFun teL_law 601).trans rfl
set_option maxRecDepth 20000 in
theorem tL_law_602 : tL_law 602 = oAl 0 603 := (congrFun teL_law 602).trans rfl
set_option maxRecDepth 20000 in
theorem tL_law_603 : tL_law 603 = oIl 3 604 := (congrFun teL_law 603).trans rfl
set_option maxRecDepth 20000 in
theorem tL_law_604 : tL_law 604 = oK (.int (nI 1)) 605 := (congrFun teL_law 604).trans rfl
set_option maxRecDepth 20000 in
theorem tL_law_605 : tL_law 605 = oAdd 606 := (congrFun teL_law 605).trans rfl
set_option maxRecDepth 20000 in
theorem tL_law_606 : tL_law 606 = oIald 607 := (congrFun teL_law 606).trans rfl
set_option maxRecDepth 20000 in
theorem tL_law_607 : tL_law 607 = oAl 0 608 := (congrFun teL_law 607).trans rfl
set_option maxRecDepth 20000 in
theorem tL_law_608 : tL_law 608 = oIl 3 609 := (congrFun teL_law 608).trans rfl
set_option maxRecDepth 20000 in
theorem tL_law_609 : tL_law 609 = oK (.int (nI 2)) 610 := (congrFun teL_law 609).trans rfl
set_option maxRecDepth 20000 in
theorem tL_law_610 : tL_law 610 = oAdd 611 := (congrFun teL_law 610).trans rfl
set_option maxRecDepth 20000 in
theorem tL_law_611 : tL_law 611 = oIald 612 := (congrFun teL_law 611).trans rfl
set_option maxRecDepth 20000 in
theorem tL_law_612 : tL_law 612 = oAl 0 613 := (congrFun teL_law 612).trans rfl
set_option maxRecDepth 20000 in
theorem tL_law_613 : tL_law 613 = oIl 3 614 := (congrFun teL_law 613).trans rfl
set_option maxRecDepth 20000 in
theorem tL_law_614 : tL_law 614 = oK (.int (nI 3)) 615 := (congrFun teL_law 614).trans rfl
set_option maxRecDepth 20000 in
theorem tL_law_615 : tL_law 615 = oAdd 616 := (congrFun teL_law 615).trans rfl
set_option maxRecDepth 20000 in
theorem tL_law_616 : tL_law 616 = oIald 617 := (congrFun teL_law 616).trans rfl
set_option maxRecDepth 20000 in
theorem tL_law_617 : tL_law 617 = oAl 0 618 := (congrFun teL_law 617).trans rfl
set_option maxRecDepth 20000 in
theorem tL_law_618 : tL_law 618 = oIl 3 619 := (congrFun teL_law 618).trans rfl
set_option maxRecDepth 20000 in
theorem tL_law_619 : tL_law 619 = oK (.int (nI 4)) 620 := (congrFun teL_law 619).trans rfl
set_option maxRecDepth 20000 in
theorem tL_law_620 : tL_law 620 = oAdd 621 := (congrFun teL_law 620).trans rfl
set_option maxRecDepth 20000 in
theorem tL_law_621 : tL_law 621 = oIald 622 := (congrFun teL_law 621).trans rfl
set_option maxRecDepth 20000 in
theorem tL_law_622 : tL_law 622 = oCallV 12 mX12_show 4 625 := (congrFun teL_law 622).trans rfl
set_option maxRecDepth 20000 in
theorem tL_law_625 : tL_law 625 = oIf2eq 943 628 := (congrFun teL_law 625).trans rfl
set_option maxRecDepth 20000 in
theorem tL_law_628 : tL_law 628 = oK (.int (nI 0)) 629 := (congrFun teL_law 628).trans rfl
set_option maxRecDepth 20000 in
theorem tL_law_629 : tL_law 629 = oZret := (congrFun teL_law 629).trans rfl
set_option maxRecDepth 20000 in
theorem tL_law_630 : tL_law 630 = oAl 1 631 := (congrFun teL_law 630).trans rfl
set_option maxRecDepth 20000 in
theorem tL_law_631 : tL_law 631 = oAl 0 632 := (congrFun teL_law 631).trans rfl
set_option maxRecDepth 20000 in
theorem tL_law_632 : tL_law 632 = oIl 3 633 := (congrFun teL_law 632).trans rfl
set_option maxRecDepth 20000 in
theorem tL_law_633 : tL_law 633 = oK (.int (nI 1)) 634 := (congrFun teL_law 633).trans rfl
set_option maxRecDepth 20000 in
theorem tL_law_634 : tL_law 634 = oAdd 635 := (congrFun teL_law 634).trans rfl
set_option maxRecDepth 20000 in
theorem tL_law_635 : tL_law 635 = oIald 636 := (congrFun teL_law 635).trans rfl
set_option maxRecDepth 20000 in
theorem tL_law_636 : tL_law 636 = oAl 0 637 := (congrFun teL_law 636).trans rfl
set_option maxRecDepth 20000 in
theorem tL_law_637 : tL_law 637 = oIl 3 638 := (congrFun teL_law 637).trans rfl
set_option maxRecDepth 20000 in
theorem tL_law_638 : tL_law 638 = oK (.int (nI 2)) 639 := (congrFun teL_law 638).trans rfl
set_option maxRecDepth 20000 in
theorem tL_law_639 : tL_law 639 = oAdd 640 := (congrFun teL_law 639).trans rfl
set_option maxRecDepth 20000 in
theorem tL_law_640 : tL_law 640 = oIald 641 := (congrFun teL_law 640).trans rfl
set_option maxRecDepth 20000 in
theorem tL_law_641 : tL_law 641 = oCallV 11 mX11_back 2 644 := (congrFun teL_law 641).trans rfl
set_option maxRecDepth 20000 in
theorem tL_law_644 : tL_law 644 = oAl 2 645 := (congrFun teL_law 644).trans rfl
set_option maxRecDepth 20000 in
theorem tL_law_645 : tL_law 645 = oAl 0 646 := (congrFun teL_law 645).trans rfl
set_option maxRecDepth 20000 in
theorem tL_law_646 : tL_law 646 = oIl 3 647 := (congrFun teL_law 646).trans rfl
set_option maxRecDepth 20000 in
theorem tL_law_647 : tL_law 647 = oK (.int (nI 1)) 648 := (congrFun teL_law 647).trans rfl
set_option maxRecDepth 20000 in
theorem tL_law_648 : tL_law 648 = oAdd 649 := (congrFun teL_law 648).trans rfl
set_option maxRecDepth 20000 in
theorem tL_law_649 : tL_law 649 = oIald 650 := (congrFun teL_law 649).trans rfl
set_option maxRecDepth 20000 in
theorem tL_law_650 : tL_law 650 = oAl 0 651 := (congrFun teL_law 650).trans rfl
set_option maxRecDepth 20000 in
theorem tL_law_651 : tL_law 651 = oIl 3 652 := (congrFun teL_law 651).trans rfl
set_option maxRecDepth 20000 in
theorem tL_law_652 : tL_law 652 = oK (.int (nI 2)) 653 := (congrFun teL_law 652).trans rfl
set_option maxRecDepth 20000 in
theorem tL_law_653 : tL_law 653 = oAdd 654 := (congrFun teL_law 653).trans rfl
set_option maxRecDepth 20000 in
theorem tL_law_654 : tL_law 654 = oIald 655 := (congrFun teL_law 654).trans rfl
set_option maxRecDepth 20000 in
theorem tL_law_655 : tL_law 655 = oCallV 12 mX12_back 2 658 := (congrFun teL_law 655).trans rfl
set_option maxRecDepth 20000 in
theorem tL_law_658 : tL_law 658 = oIf2eq 943 661 := (congrFun teL_law 658).trans rfl
set_option maxRecDepth 20000 in
theorem tL_law_661 : tL_law 661 = oK (.int (nI 0)) 662 := (congrFun teL_law 661).trans rfl
set_option maxRecDepth 20000 in
theorem tL_law_662 : tL_law 662 = oZret := (congrFun teL_law 662).trans rfl
set_option maxRecDepth 20000 in
theorem tL_law_663 : tL_law 663 = oAl 1 664 := (congrFun teL_law 663).trans rfl
set_option maxRecDepth 20000 in
theorem tL_law_664 : tL_law 664 = oAl 0 665 := (congrFun teL_law 664).trans rfl
set_option maxRecDepth 20000 in
theorem tL_law_665 : tL_law 665 = oIl 3 666 := (congrFun teL_law 665).trans rfl
set_option maxRecDepth 20000 in
theorem tL_law_666 : tL_law 666 = oK (.int (nI 1)) 667 := (congrFun teL_law 666).trans rfl
set_option maxRecDepth 20000 in
theorem tL_law_667 : tL_law 667 = oAdd 668 := (congrFun teL_law 667).trans rfl
set_option maxRecDepth 20000 in
theorem tL_law_668 : tL_law 668 = oIald 669 := (congrFun teL_law 668).trans rfl
set_option maxRecDepth 20000 in
theorem tL_law_669 : tL_law 669 = oAl 0 670 := (congrFun teL_law 669).trans rfl
set_option maxRecDepth 20000 in
theorem tL_law_670 : tL_law 670 = oIl 3 671 := (congrFun teL_law 670).trans rfl
set_option maxRecDepth 20000 in
theorem tL_law_671 : tL_law 671 = oK (.int (nI 2)) 672 := (congrFun teL_law 671).trans rfl
set_option maxRecDepth 20000 in
theorem tL_law_672 : tL_law 672 = oAdd 673 := (congrFun teL_law 672).trans rfl
set_option maxRecDepth 20000 in
theorem tL_law_673 : tL_law 673 = oIald 674 := (congrFun teL_law 673).trans rfl
set_option maxRecDepth 20000 in
theorem tL_law_674 : tL_law 674 = oCallV 11 mX11_agrees 2 677 := (congrFun teL_law 674).trans rfl
set_option maxRecDepth 20000 in
theorem tL_law_677 : tL_law 677 = oAl 2 678 := (congrFun teL_law 677).trans rfl
set_option maxRecDepth 20000 in
theorem tL_law_678 : tL_law 678 = oAl 0 679 := (congrFun teL_law 678).trans rfl
set_option maxRecDepth 20000 in
theorem tL_law_679 : tL_law 679 = oIl 3 680 := (congrFun teL_law 679).trans rfl
set_option maxRecDepth 20000 in
theorem tL_law_680 : tL_law 680 = oK (.int (nI 1)) 681 := (congrFun teL_law 680).trans rfl
set_option maxRecDepth 20000 in
theorem tL_law_681 : tL_law 681 = oAdd 682 := (congrFun teL_law 681).trans rfl
set_option maxRecDepth 20000 in
theorem tL_law_682 : tL_law 682 = oIald 683 := (congrFun teL_law 682).trans rfl
set_option maxRecDepth 20000 in
theorem tL_law_683 : tL_law 683 = oAl 0 684 := (congrFun teL_law 683).trans rfl
set_option maxRecDepth 20000 in
theorem tL_law_684 : tL_law 684 = oIl 3 685 := (congrFun teL_law 684).trans rfl
set_option maxRecDepth 20000 in
theorem tL_law_685 : tL_law 685 = oK (.int (nI 2)) 686 := (congrFun teL_law 685).trans rfl
set_option maxRecDepth 20000 in
theorem tL_law_686 : tL_law 686 = oAdd 687 := (congrFun teL_law 686).trans rfl
set_option maxRecDepth 20000 in
theorem tL_law_687 : tL_law 687 = oIald 688 := (congrFun teL_law 687).trans rfl
set_option maxRecDepth 20000 in
theorem tL_law_688 : tL_law 688 = oCallV 12 mX12_agrees 2 691 := (congrFun teL_law 688).trans rfl
set_option maxRecDepth 20000 in
theorem tL_law_691 : tL_law 691 = oIf2eq 943 694 := (congrFun teL_law 691).trans rfl
set_option maxRecDepth 20000 in
theorem tL_law_694 : tL_law 694 = oK (.int (nI 0)) 695 := (congrFun teL_law 694).trans rfl
set_option maxRecDepth 20000 in
theorem tL_law_695 : tL_law 695 = oZret := (congrFun teL_law 695).trans rfl
set_option maxRecDepth 20000 in
theorem tL_law_696 : tL_law 696 = oAl 1 697 := (congrFun teL_law 696).trans rfl
set_option maxRecDepth 20000 in
theorem tL_law_697 : tL_law 697 = oAl 0 698 := (congrFun teL_law 697).trans rfl
set_option maxRecDepth 20000 in
theorem tL_law_698 : tL_law 698 = oIl 3 699 := (congrFun teL_law 698).trans rfl
set_option maxRecDepth 20000 in
theorem tL_law_699 : tL_law 699 = oK (.int (nI 1)) 700 := (congrFun teL_law 699).trans rfl
set_option maxRecDepth 20000 in
theorem tL_law_700 : tL_law 700 = oAdd 701 := (congrFun teL_law 700).trans rfl
set_option maxRecDepth 20000 in
theorem tL_law_701 : tL_law 701 = oIald 702 := (congrFun teL_law 701).trans rfl
set_option maxRecDepth 20000 in
theorem tL_law_702 : tL_law 702 = oCallV 11 mX11_paid 1 705 := (congrFun teL_law 702).trans rfl
set_option maxRecDepth 20000 in
theorem tL_law_705 : tL_law 705 = oAl 2 706 := (congrFun teL_law 705).trans rfl
set_option maxRecDepth 20000 in
theorem tL_law_706 : tL_law 706 = oAl 0 707 := (congrFun teL_law 706).trans rfl
set_option maxRecDepth 20000 in
theorem tL_law_707 : tL_law 707 = oIl 3 708 := (congrFun teL_law 707).trans rfl
set_option maxRecDepth 20000 in
theorem tL_law_708 : tL_law 708 = oK (.int (nI 1)) 709 := (congrFun teL_law 708).trans rfl
set_option maxRecDepth 20000 in
theorem tL_law_709 : tL_law 709 = oAdd 710 := (congrFun teL_law 709).trans rfl
set_option maxRecDepth 20000 in
theorem tL_law_710 : tL_law 710 = oIald 711 := (congrFun teL_law 710).trans rfl
set_option maxRecDepth 20000 in
theorem tL_law_711 : tL_law 711 = oCallV 12 mX12_paid 1 714 := (congrFun teL_law 711).trans rfl
set_option maxRecDepth 20000 in
theorem tL_law_714 : tL_law 714 = oIf2eq 943 717 := (congrFun teL_law 714).trans rfl
set_option maxRecDepth 20000 in
theorem tL_law_717 : tL_law 717 = oK (.int (nI 0)) 718 := (congrFun teL_law 717).trans rfl
set_option maxRecDepth 20000 in
theorem tL_law_718 : tL_law 718 = oZret := (congrFun teL_law 718).trans rfl
set_option maxRecDepth 20000 in
theorem tL_law_719 : tL_law 719 = oAl 1 720 := (congrFun teL_law 719).trans rfl
set_option maxRecDepth 20000 in
theorem tL_law_720 : tL_law 720 = oAl 0 721 := (congrFun teL_law 720).trans rfl
set_option maxRecDepth 20000 in
theorem tL_law_721 : tL_law 721 = oIl 3 722 := (congrFun teL_law 721).trans rfl
set_option maxRecDepth 20000 in
theorem tL_law_722 : tL_law 722 = oK (.int (nI 1)) 723 := (congrFun teL_law 722).trans rfl
set_option maxRecDepth 20000 in
theorem tL_law_723 : tL_law 723 = oAdd 724 := (congrFun teL_law 723).trans rfl
set_option maxRecDepth 20000 in
theorem tL_law_724 : tL_law 724 = oIald 725 := (congrFun teL_law 724).trans rfl
set_option maxRecDepth 20000 in
theorem tL_law_725 : tL_law 725 = oAl 0 726 := (congrFun teL_law 725).trans rfl
set_option maxRecDepth 20000 in
theorem tL_law_726 : tL_law 726 = oIl 3 727 := (congrFun teL_law 726).trans rfl
set_option maxRecDepth 20000 in
theorem tL_law_727 : tL_law 727 = oK (.int (nI 2)) 728 := (congrFun teL_law 727).trans rfl
set_option maxRecDepth 20000 in
theorem tL_law_728 : tL_law 728 = oAdd 729 := (congrFun teL_law 728).trans rfl
set_option maxRecDepth 20000 in
theorem tL_law_729 : tL_law 729 = oIald 730 := (congrFun teL_law 729).trans rfl
set_option maxRecDepth 20000 in
theorem tL_law_730 : tL_law 730 = oAl 0 731 := (congrFun teL_law 730).trans rfl
set_option maxRecDepth 20000 in
theorem tL_law_731 : tL_law 731 = oIl 3 732 := (congrFun teL_law 731).trans rfl
set_option maxRecDepth 20000 in
theorem tL_law_732 : tL_law 732 = oK (.int (nI 3)) 733 := (congrFun teL_law 732).trans rfl
set_option maxRecDepth 20000 in
theorem tL_law_733 : tL_law 733 = oAdd 734 := (congrFun teL_law 733).trans rfl
set_option maxRecDepth 20000 in
theorem tL_law_734 : tL_law 734 = oIald 735 := (congrFun teL_law 734).trans rfl
set_option maxRecDepth 20000 in
theorem tL_law_735 : tL_law 735 = oCallVA 11 mX11_find 3 738 := (congrFun teL_law 735).trans rfl
set_option maxRecDepth 20000 in
theorem tL_law_738 : tL_law 738 = oAl 2 739 := (congrFun teL_law 738).trans rfl
set_option maxRecDepth 20000 in
theorem tL_law_739 : tL_law 739 = oAl 0 740 := (congrFun teL_law 739).trans rfl
set_option maxRecDepth 20000 in
theorem tL_law_740 : tL_law 740 = oIl 3 741 := (congrFun teL_law 740).trans rfl
set_option maxRecDepth 20000 in
theorem tL_law_741 : tL_law 741 = oK (.int (nI 1)) 742 := (congrFun teL_law 741).trans rfl
set_option maxRecDepth 20000 in
theorem tL_law_742 : tL_law 742 = oAdd 743 := (congrFun teL_law 742).trans rfl
set_option maxRecDepth 20000 in
theorem tL_law_743 : tL_law 743 = oIald 744 := (congrFun teL_law 743).trans rfl
set_option maxRecDepth 20000 in
theorem tL_law_744 : tL_law 744 = oAl 0 745 := (congrFun teL_law 744).trans rfl
set_option maxRecDepth 20000 in
theorem tL_law_745 : tL_law 745 = oIl 3 746 := (congrFun teL_law 745).trans rfl
set_option maxRecDepth 20000 in
theorem tL_law_746 : tL_law 746 = oK (.int (nI 2)) 747 := (congrFun teL_law 746).trans rfl
set_option maxRecDepth 20000 in
theorem tL_law_747 : tL_law 747 = oAdd 748 := (congrFun teL_law 747).trans rfl
set_option maxRecDepth 20000 in
theorem tL_law_748 : tL_law 748 = oIald 749 := (congrFun teL_law 748).trans rfl
set_option maxRecDepth 20000 in
theorem tL_law_749 : tL_law 749 = oAl 0 750 := (congrFun teL_law 749).trans rfl
set_option maxRecDepth 20000 in
theorem tL_law_750 : tL_law 750 = oIl 3 751 := (congrFun teL_law 750).trans rfl
set_option maxRecDepth 20000 in
theorem tL_law_751 : tL_law 751 = oK (.int (nI 3)) 752 := (congrFun teL_law 751).trans rfl
set_option maxRecDepth 20000 in
theorem tL_law_752 : tL_law 752 = oAdd 753 := (congrFun teL_law 752).trans rfl
set_option maxRecDepth 20000 in
theorem tL_law_753 : tL_law 753 = oIald 754 := (congrFun teL_law 753).trans rfl
set_option maxRecDepth 20000 in
theorem tL_law_754 : tL_law 754 = oCallV 12 mX12_find 3 757 := (congrFun teL_law 754).trans rfl
set_option maxRecDepth 20000 in
theorem tL_law_757 : tL_law 757 = oIf2eq 943 760 := (congrFun teL_law 757).trans rfl
set_option maxRecDepth 20000 in
theorem tL_law_760 : tL_law 760 = oK (.int (nI 0)) 761 := (congrFun teL_law 760).trans rfl
set_option maxRecDepth 20000 in
theorem tL_law_761 : tL_law 761 = oZret := (congrFun teL_law 761).trans rfl
set_option maxRecDepth 20000 in
theorem tL_law_762 : tL_law 762 = oAl 1 763 := (congrFun teL_law 762).trans rfl
set_option maxRecDepth 20000 in
theorem tL_law_763 : tL_law 763 = oAl 0 764 := (congrFun teL_law 763).trans rfl
set_option maxRecDepth 20000 in
theorem tL_law_764 : tL_law 764 = oIl 3 765 := (congrFun teL_law 764).trans rfl
set_option maxRecDepth 20000 in
theorem tL_law_765 : tL_law 765 = oK (.int (nI 1)) 766 := (congrFun teL_law 765).trans rfl
set_option maxRecDepth 20000 in
theorem tL_law_766 : tL_law 766 = oAdd 767 := (congrFun teL_law 766).trans rfl
set_option maxRecDepth 20000 in
theorem tL_law_767 : tL_law 767 = oIald 768 := (congrFun teL_law 767).trans rfl
set_option maxRecDepth 20000 in
theorem tL_law_768 : tL_law 768 = oCallVA 11 mX11_next 1 771 := (congrFun teL_law 768).trans rfl
set_option maxRecDepth 20000 in
theorem tL_law_771 : tL_law 771 = oAl 2 772 := (congrFun teL_law 771).trans rfl
set_option maxRecDepth 20000 in
theorem tL_law_772 : tL_law 772 = oAl 0 773 := (congrFun teL_law 772).trans rfl
set_option maxRecDepth 20000 in
theorem tL_law_773 : tL_law 773 = oIl 3 774 := (congrFun teL_law 773).trans rfl
set_option maxRecDepth 20000 in
theorem tL_law_774 : tL_law 774 = oK (.int (nI 1)) 775 := (congrFun teL_law 774).trans rfl
set_option maxRecDepth 20000 in
theorem tL_law_775 : tL_law 775 = oAdd 776 := (congrFun teL_law 775).trans rfl
set_option maxRecDepth 20000 in
theorem tL_law_776 : tL_law 776 = oIald 777 := (congrFun teL_law 776).trans rfl
set_option maxRecDepth 20000 in
theorem tL_law_777 : tL_law 777 = oCallV 12 mX12_next 1 780 := (congrFun teL_law 777).trans rfl
set_option maxRecDepth 20000 in
theorem tL_law_780 : tL_law 780 = oIf2eq 943 783 := (congrFun teL_law 780).trans rfl
set_option maxRecDepth 20000 in
theorem tL_law_783 : tL_law 783 = oK (.int (nI 0)) 784 := (congrFun teL_law 783).trans rfl
set_option maxRecDepth 20000 in
theorem tL_law_784 : tL_law 784 = oZret := (congrFun teL_law 784).trans rfl
set_option maxRecDepth 20000 in
theorem tL_law_785 : tL_law 785 = oAl 1 786 := (congrFun teL_law 785).trans rfl
set_option maxRecDepth 20000 in
theorem tL_law_786 : tL_law 786 = oCallV 11 mX11_found 0 789 := (congrFun teL_law 786).trans rfl
set_option maxRecDepth 20000 in
theorem tL_law_789 : tL_law 789 = oAl 2 790 := (congrFun teL_law 789).trans rfl
set_option maxRecDepth 20000 in
theorem tL_law_790 : tL_law 790 = oCallV 12 mX12_found 0 793 := (congrFun teL_law 790).trans rfl
set_option maxRecDepth 20000 in
theorem tL_law_793 : tL_law 793 = oIf2eq 943 796 := (congrFun teL_law 793).trans rfl
set_option maxRecDepth 20000 in
theorem tL_law_796 : tL_law 796 = oK (.int (nI 0)) 797 := (congrFun teL_law 796).trans rfl
set_option maxRecDepth 20000 in
theorem tL_law_797 : tL_law 797 = oZret := (congrFun teL_law 797).trans rfl
set_option maxRecDepth 20000 in
theorem tL_law_798 : tL_law 798 = oAl 1 799 := (congrFun teL_law 798).trans rfl
set_option maxRecDepth 20000 in
theorem tL_law_799 : tL_law 799 = oAl 0 800 := (congrFun teL_law 799).trans rfl
set_option maxRecDepth 20000 in
theorem tL_law_800 : tL_law 800 = oIl 3 801 := (congrFun teL_law 800).trans rfl
set_option maxRecDepth 20000 in
theorem tL_law_801 : tL_law 801 = oK (.int (nI 1)) 802 := (congrFun teL_law 801).trans rfl
set_option maxRecDepth 20000 in
theorem tL_law_802 : tL_law 802 = oAdd 803 := (congrFun teL_law 802).trans rfl
set_option maxRecDepth 20000 in
theorem tL_law_803 : tL_law 803 = oIald 804 := (congrFun teL_law 803).trans rfl
set_option maxRecDepth 20000 in
theorem tL_law_804 : tL_law 804 = oAl 0 805 := (congrFun teL_law 804).trans rfl
set_option maxRecDepth 20000 in
theorem tL_law_805 : tL_law 805 = oIl 3 806 := (congrFun teL_law 805).trans rfl
set_option maxRecDepth 20000 in
theorem tL_law_806 : tL_law 806 = oK (.int (nI 2)) 807 := (congrFun teL_law 806).trans rfl
set_option maxRecDepth 20000 in
theorem tL_law_807 : tL_law 807 = oAdd 808 := (congrFun teL_law 807).trans rfl
set_option maxRecDepth 20000 in
theorem tL_law_808 : tL_law 808 = oIald 809 := (congrFun teL_law 808).trans rfl
set_option maxRecDepth 20000 in
theorem tL_law_809 : tL_law 809 = oCallVA 11 mX11_open 2 812 := (congrFun teL_law 809).trans rfl
set_option maxRecDepth 20000 in
theorem tL_law_812 : tL_law 812 = oAl 2 813 := (congrFun teL_law 812).trans rfl
set_option maxRecDepth 20000 in
theorem tL_law_813 : tL_law 813 = oAl 0 814 := (congrFun teL_law 813).trans rfl
set_option maxRecDepth 20000 in
theorem tL_law_814 : tL_law 814 = oIl 3 815 := (congrFun teL_law 814).trans rfl
set_option maxRecDepth 20000 in
theorem tL_law_815 : tL_law 815 = oK (.int (nI 1)) 816 := (congrFun teL_law 815).trans rfl
set_option maxRecDepth 20000 in
theorem tL_law_816 : tL_law 816 = oAdd 817 := (congrFun teL_law 816).trans rfl
set_option maxRecDepth 20000 in
theorem tL_law_817 : tL_law 817 = oIald 818 := (congrFun teL_law 817).trans rfl
set_option maxRecDepth 20000 in
theorem tL_law_818 : tL_law 818 = oAl 0 819 := (congrFun teL_law 818).trans rfl
set_option maxRecDepth 20000 in
theorem tL_law_819 : tL_law 819 = oIl 3 820 := (congrFun teL_law 819).trans rfl
set_option maxRecDepth 20000 in
theorem tL_law_820 : tL_law 820 = oK (.int (nI 2)) 821 := (congrFun teL_law 820).trans rfl
set_option maxRecDepth 20000 in
theorem tL_law_821 : tL_law 821 = oAdd 822 := (congrFun teL_law 821).trans rfl
set_option maxRecDepth 20000 in
theorem tL_law_822 : tL_law 822 = oIald 823 := (congrFun teL_law 822).trans rfl
set_option maxRecDepth 20000 in
theorem tL_law_823 : tL_law 823 = oCallV 12 mX12_open 2 826 := (congrFun teL_law 823).trans rfl
set_option maxRecDepth 20000 in
theorem tL_law_826 : tL_law 826 = oIf2eq 943 829 := (congrFun teL_law 826).trans rfl
set_option maxRecDepth 20000 in
theorem tL_law_829 : tL_law 829 = oK (.int (nI 0)) 830 := (congrFun teL_law 829).trans rfl
set_option maxRecDepth 20000 in
theorem tL_law_830 : tL_law 830 = oZret := (congrFun teL_law 830).trans rfl
set_option maxRecDepth 20000 in
theorem tL_law_831 : tL_law 831 = oAl 1 832 := (congrFun teL_law 831).trans rfl
set_option maxRecDepth 20000 in
theorem tL_law_832 : tL_law 832 = oAl 0 833 := (congrFun teL_law 832).trans rfl
set_option maxRecDepth 20000 in
theorem tL_law_833 : tL_law 833 = oIl 3 834 := (congrFun teL_law 833).trans rfl
set_option maxRecDepth 20000 in
theorem tL_law_834 : tL_law 834 = oK (.int (nI 1)) 835 := (congrFun teL_law 834).trans rfl
set_option maxRecDepth 20000 in
theorem tL_law_835 : tL_law 835 = oAdd 836 := (congrFun teL_law 835).trans rfl
set_option maxRecDepth 20000 in
theorem tL_law_836 : tL_law 836 = oIald 837 := (congrFun teL_law 836).trans rfl
set_option maxRecDepth 20000 in
theorem tL_law_837 : tL_law 837 = oAl 0 838 := (congrFun teL_law 837).trans rfl
set_option maxRecDepth 20000 in
theorem tL_law_838 : tL_law 838 = oIl 3 839 := (congrFun teL_law 838).trans rfl
set_option maxRecDepth 20000 in
theorem tL_law_839 : tL_law 839 = oK (.int (nI 2)) 840 := (congrFun teL_law 839).trans rfl
set_option maxRecDepth 20000 in
theorem tL_law_840 : tL_law 840 = oAdd 841 := (congrFun teL_law 840).trans rfl
set_option maxRecDepth 20000 in
theorem tL_law_841 : tL_law 841 = oIald 842 := (congrFun teL_law 841).trans rfl
set_option maxRecDepth 20000 in
theorem tL_law_842 : tL_law 842 = oCallVA 11 mX11_ask 2 845 := (congrFun teL_law 842).trans rfl
set_option maxRecDepth 20000 in
theorem tL_law_845 : tL_law 845 = oAl 2 846 := (congrFun teL_law 845).trans rfl
set_option maxRecDepth 20000 in
theorem tL_law_846 : tL_law 846 = oAl 0 847 := (congrFun teL_law 846).trans rfl
set_option maxRecDepth 20000 in
theorem tL_law_847 : tL_law 847 = oIl 3 848 := (congrFun teL_law 847).trans rfl
set_option maxRecDepth 20000 in
theorem tL_law_848 : tL_law 848 = oK (.int (nI 1)) 849 := (congrFun teL_law 848).trans rfl
set_option maxRecDepth 20000 in
theorem tL_law_849 : tL_law 849 = oAdd 850 := (congrFun teL_law 849).trans rfl
set_option maxRecDepth 20000 in
theorem tL_law_850 : tL_law 850 = oIald 851 := (congrFun teL_law 850).trans rfl
set_option maxRecDepth 20000 in
theorem tL_law_851 : tL_law 851 = oAl 0 852 := (congrFun teL_law 851).trans rfl
set_option maxRecDepth 20000 in
theorem tL_law_852 : tL_law 852 = oIl 3 853 := (congrFun teL_law 852).trans rfl
set_option maxRecDepth 20000 in
theorem tL_law_853 : tL_law 853 = oK (.int (nI 2)) 854 := (congrFun teL_law 853).trans rfl
set_option maxRecDepth 20000 in
theorem tL_law_854 : tL_law 854 = oAdd 855 := (congrFun teL_law 854).trans rfl
set_option maxRecDepth 20000 in
theorem tL_law_855 : tL_law 855 = oIald 856 := (congrFun teL_law 855).trans rfl
set_option maxRecDepth 20000 in
theorem tL_law_856 : tL_law 856 = oCallV 12 mX12_ask 2 859 := (congrFun teL_law 856).trans rfl
set_option maxRecDepth 20000 in
theorem tL_law_859 : tL_law 859 = oIf2eq 943 862 := (congrFun teL_law 859).trans rfl
set_option maxRecDepth 20000 in
theorem tL_law_862 : tL_law 862 = oK (.int (nI 0)) 863 := (congrFun teL_law 862).trans rfl
set_option maxRecDepth 20000 in
theorem tL_law_863 : tL_law 863 = oZret := (congrFun teL_law 863).trans rfl
set_option maxRecDepth 20000 in
theorem tL_law_864 : tL_law 864 = oAl 1 865 := (congrFun teL_law 864).trans rfl
set_option maxRecDepth 20000 in
theorem tL_law_865 : tL_law 865 = oCallV 11 mX11_asked 0 868 := (congrFun teL_law 865).trans rfl
set_option maxRecDepth 20000 in
theorem tL_law_868 : tL_law 868 = oAl 2 869 := (congrFun teL_law 868).trans rfl
set_option maxRecDepth 20000 in
theorem tL_law_869 : tL_law 869 = oCallV 12 mX12_asked 0 872 := (congrFun teL_law 869).trans rfl
set_option maxRecDepth 20000 in
theorem tL_law_872 : tL_law 872 = oIf2eq 943 875 := (congrFun teL_law 872).trans rfl
set_option maxRecDepth 20000 in
theorem tL_law_875 : tL_law 875 = oK (.int (nI 0)) 876 := (congrFun teL_law 875).trans rfl
set_option maxRecDepth 20000 in
theorem tL_law_876 : tL_law 876 = oZret := (congrFun teL_law 876).trans rfl
set_option maxRecDepth 20000 in
theorem tL_law_877 : tL_law 877 = oAl 1 878 := (congrFun teL_law 877).trans rfl
set_option maxRecDepth 20000 in
theorem tL_law_878 : tL_law 878 = oAl 0 879 := (congrFun teL_law 878).trans rfl
set_option maxRecDepth 20000 in
theorem tL_law_879 : tL_law 879 = oIl 3 880 := (congrFun teL_law 879).trans rfl
set_option maxRecDepth 20000 in
theorem tL_law_880 : tL_law 880 = oK (.int (nI 1)) 881 := (congrFun teL_law 880).trans rfl
set_option maxRecDepth 20000 in
theorem tL_law_881 : tL_law 881 = oAdd 882 := (congrFun teL_law 881).trans rfl
set_option maxRecDepth 20000 in
theorem tL_law_882 : tL_law 882 = oIald 883 := (congrFun teL_law 882).trans rfl
set_option maxRecDepth 20000 in
theorem tL_law_883 : tL_law 883 = oAl 0 884 := (congrFun teL_law 883).trans rfl
set_option maxRecDepth 20000 in
theorem tL_law_884 : tL_law 884 = oIl 3 885 := (congrFun teL_law 884).trans rfl
set_option maxRecDepth 20000 in
theorem tL_law_885 : tL_law 885 = oK (.int (nI 2)) 886 := (congrFun teL_law 885).trans rfl
set_option maxRecDepth 20000 in
theorem tL_law_886 : tL_law 886 = oAdd 887 := (congrFun teL_law 886).trans rfl
set_option maxRecDepth 20000 in
theorem tL_law_887 : tL_law 887 = oIald 888 := (congrFun teL_law 887).trans rfl
set_option maxRecDepth 20000 in
theorem tL_law_888 : tL_law 888 = oAl 0 889 := (congrFun teL_law 888).trans rfl
set_option maxRecDepth 20000 in
theorem tL_law_889 : tL_law 889 = oIl 3 890 := (congrFun teL_law 889).trans rfl
set_option maxRecDepth 20000 in
theorem tL_law_890 : tL_law 890 = oK (.int (nI 3)) 891 := (congrFun teL_law 890).trans rfl
set_option maxRecDepth 20000 in
theorem tL_law_891 : tL_law 891 = oAdd 892 := (congrFun teL_law 891).trans rfl
set_option maxRecDepth 20000 in
theorem tL_law_892 : tL_law 892 = oIald 893 := (congrFun teL_law 892).trans rfl
set_option maxRecDepth 20000 in
theorem tL_law_893 : tL_law 893 = oCallVA 11 mX11_noise 3 896 := (congrFun teL_law 893).trans rfl
set_option maxRecDepth 20000 in
theorem tL_law_896 : tL_law 896 = oAl 2 897 := (congrFun teL_law 896).trans rfl
set_option maxRecDepth 20000 in
theorem tL_law_897 : tL_law 897 = oAl 0 898 := (congrFun teL_law 897).trans rfl
set_option maxRecDepth 20000 in
theorem tL_law_898 : tL_law 898 = oIl 3 899 := (congrFun teL_law 898).trans rfl
set_option maxRecDepth 20000 in
theorem tL_law_899 : tL_law 899 = oK (.int (nI 1)) 900 := (congrFun teL_law 899).trans rfl
set_option maxRecDepth 20000 in
theorem tL_law_900 : tL_law 900 = oAdd 901 := (congrFun teL_law 900).trans rfl
set_option maxRecDepth 20000 in
theorem tL_law_901 : tL_law 901 = oIald 902 := (congrFun teL_law 901).trans rfl
set_option maxRecDepth 20000 in
theorem tL_law_902 : tL_law 902 = oAl 0 903 := (congrFun teL_law 902).trans rfl
set_option maxRecDepth 20000 in
theorem tL_law_903 : tL_law 903 = oIl 3 904 := (congrFun teL_law 903).trans rfl
set_option maxRecDepth 20000 in
theorem tL_law_904 : tL_law 904 = oK (.int (nI 2)) 905 := (congrFun teL_law 904).trans rfl
set_option maxRecDepth 20000 in
theorem tL_law_905 : tL_law 905 = oAdd 906 := (congrFun teL_law 905).trans rfl
set_option maxRecDepth 20000 in
theorem tL_law_906 : tL_law 906 = oIald 907 := (congrFun teL_law 906).trans rfl
set_option maxRecDepth 20000 in
theorem tL_law_907 : tL_law 907 = oAl 0 908 := (congrFun teL_law 907).trans rfl
set_option maxRecDepth 20000 in
theorem tL_law_908 : tL_law 908 = oIl 3 909 := (congrFun teL_law 908).trans rfl
set_option maxRecDepth 20000 in
theorem tL_law_909 : tL_law 909 = oK (.int (nI 3)) 910 := (congrFun teL_law 909).trans rfl
set_option maxRecDepth 20000 in
theorem tL_law_910 : tL_law 910 = oAdd 911 := (congrFun teL_law 910).trans rfl
set_option maxRecDepth 20000 in
theorem tL_law_911 : tL_law 911 = oIald 912 := (congrFun teL_law 911).trans rfl
set_option maxRecDepth 20000 in
theorem tL_law_912 : tL_law 912 = oCallV 12 mX12_noise 3 915 := (congrFun teL_law 912).trans rfl
set_option maxRecDepth 20000 in
theorem tL_law_915 : tL_law 915 = oIf2eq 943 918 := (congrFun teL_law 915).trans rfl
set_option maxRecDepth 20000 in
theorem tL_law_918 : tL_law 918 = oK (.int (nI 0)) 919 := (congrFun teL_law 918).trans rfl
set_option maxRecDepth 20000 in
theorem tL_law_919 : tL_law 919 = oZret := (congrFun teL_law 919).trans rfl
set_option maxRecDepth 20000 in
theorem tL_law_920 : tL_law 920 = oAl 1 921 := (congrFun teL_law 920).trans rfl
set_option maxRecDepth 20000 in
theorem tL_law_921 : tL_law 921 = oAl 0 922 := (congrFun teL_law 921).trans rfl
set_option maxRecDepth 20000 in
theorem tL_law_922 : tL_law 922 = oIl 3 923 := (congrFun teL_law 922).trans rfl
set_option maxRecDepth 20000 in
theorem tL_law_923 : tL_law 923 = oK (.int (nI 1)) 924 := (congrFun teL_law 923).trans rfl
set_option maxRecDepth 20000 in
theorem tL_law_924 : tL_law 924 = oAdd 925 := (congrFun teL_law 924).trans rfl
set_option maxRecDepth 20000 in
theorem tL_law_925 : tL_law 925 = oIald 926 := (congrFun teL_law 925).trans rfl
set_option maxRecDepth 20000 in
theorem tL_law_926 : tL_law 926 = oCallV 11 mX11_count 1 929 := (congrFun teL_law 926).trans rfl
set_option maxRecDepth 20000 in
theorem tL_law_929 : tL_law 929 = oAl 2 930 := (congrFun teL_law 929).trans rfl
set_option maxRecDepth 20000 in
theorem tL_law_930 : tL_law 930 = oAl 0 931 := (congrFun teL_law 930).trans rfl
set_option maxRecDepth 20000 in
theorem tL_law_931 : tL_law 931 = oIl 3 932 := (congrFun teL_law 931).trans rfl
set_option maxRecDepth 20000 in
theorem tL_law_932 : tL_law 932 = oK (.int (nI 1)) 933 := (congrFun teL_law 932).trans rfl
set_option maxRecDepth 20000 in
theorem tL_law_933 : tL_law 933 = oAdd 934 := (congrFun teL_law 933).trans rfl
set_option maxRecDepth 20000 in
theorem tL_law_934 : tL_law 934 = oIald 935 := (congrFun teL_law 934).trans rfl
set_option maxRecDepth 20000 in
theorem tL_law_935 : tL_law 935 = oCallV 12 mX12_count 1 938 := (congrFun teL_law 935).trans rfl
set_option maxRecDepth 20000 in
theorem tL_law_938 : tL_law 938 = oIf2eq 943 941 := (congrFun teL_law 938).trans rfl
set_option maxRecDepth 20000 in
theorem tL_law_941 : tL_law 941 = oK (.int (nI 0)) 942 := (congrFun teL_law 941).trans rfl
set_option maxRecDepth 20000 in
theorem tL_law_942 : tL_law 942 = oZret := (congrFun teL_law 942).trans rfl
set_option maxRecDepth 20000 in
theorem tL_law_943 : tL_law 943 = oInc 3 (nI 5) 946 := (congrFun teL_law 943).trans rfl
set_option maxRecDepth 20000 in
theorem tL_law_946 : tL_law 946 = oGo 18 := (congrFun teL_law 946).trans rfl
set_option maxRecDepth 20000 in
theorem tL_law_949 : tL_law 949 = oK (.int (nI 1)) 950 := (congrFun teL_law 949).trans rfl
set_option maxRecDepth 20000 in
theorem tL_law_950 : tL_law 950 = oZret := (congrFun teL_law 950).trans rfl
