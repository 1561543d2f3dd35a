def lX12_init : List (Nat × qP) := [(0, oAl 0 1), (1, oObj 4), (4, oAl 0 5), (5, oK (.int (nI 12)) 7), (7, oNewa 1 9), (9, oPutR 12 1 12), (12, oAl 0 13), (13, oK (.int (nI 6400)) 16), (16, oNewa 1 18), (18, oPutR 12 3 21), (21, oAl 0 22), (22, oK (.int (nI 6400)) 25), (25, oNewa 1 27), (27, oPutR 12 4 30), (30, oAl 0 31), (31, oK (.int (nI 6400)) 34), (34, oNewa 1 36), (36, oPutR 12 5 39), (39, oAl 0 40), (40, oK (.int (nI 6400)) 43), (43, oNewa 1 45), (45, oPutR 12 6 48), (48, oAl 0 49), (49, oK (.int (nI 6400)) 52), (52, oNewa 1 54), (54, oPutR 12 7 57), (57, oAl 0 58), (58, oK (.int (nI 6400)) 61), (61, oNewa 1 63), (63, oPutR 12 8 66), (66, oAl 0 67), (67, oK (.int (nI 6400)) 70), (70, oNewa 1 72), (72, oPutR 12 9 75), (75, oAl 0 76), (76, oK (.int (nI 6000)) 79), (79, oPutI 12 10 82), (82, oAl 0 83), (83, oK (.int (nI 12)) 85), (85, oNewa 1 87), (87, oPutR 12 12 90), (90, oAl 0 91), (91, oK (.int (nI 10)) 93), (93, oNewa 1 95), (95, oPutR 12 13 98), (98, oAl 0 99), (99, oK (.int (nI 120)) 101), (101, oNewa 1 103), (103, oPutR 12 14 106), (106, oAl 0 107), (107, oK (.int (nI 120)) 109), (109, oNewa 1 111), (111, oPutR 12 15 114), (114, oAl 0 115), (115, oK (.int (nI 60)) 117), (117, oNewa 4 119), (119, oPutR 12 17 122), (122, oAl 0 123), (123, oK (.int (nI 200)) 126), (126, oNewa 1 128), (128, oPutR 12 23 131), (131, oAl 0 132), (132, oK (.int (nI 2)) 133), (133, oNewa 1 135), (135, oPutR 12 24 138), (138, oAl 0 139), (139, oK (.int (nI 16)) 141), (141, oNewa 1 143), (143, oPutR 12 25 146), (146, oAl 0 147), (147, oK (.int (nI 16)) 149), (149, oNewa 1 151), (151, oPutR 12 26 154), (154, oAl 0 155), (155, oK (.int (nI 2)) 156), (156, oNewa 1 158), (158, oPutR 12 27 161), (161, oAl 0 162), (162, oK (.int (nI 2)) 163), (163, oNewa 1 165), (165, oPutR 12 28 168), (168, oAl 0 169), (169, oK (.int (nI 2)) 170), (170, oNewa 3 172), (172, oPutR 12 29 175), (175, oAl 0 176), (176, oK (.int (nI 3328)) 179), (179, oNewa 1 181), (181, oPutR 12 33 184), (184, oAl 0 185), (185, oK (.int (nI 65536)) 187), (187, oNewa 1 189), (189, oPutR 12 34 192), (192, oAl 0 193), (193, oK (.int (nI 65536)) 195), (195, oNewa 1 197), (197, oPutR 12 35 200), (200, oAl 0 201), (201, oK (.int (nI 65536)) 203), (203, oNewa 3 205), (205, oPutR 12 36 208), (208, oAl 0 209), (209, oK (.int (nI 20)) 211), (211, oNewa 1 213), (213, oPutR 12 39 216), (216, oAl 0 217), (217, oK (.int (nI 20)) 219), (219, oNewa 1 221), (221, oPutR 12 40 224), (224, oAl 0 225), (225, oK (.int (nI 20)) 227), (227, oNewa 1 229), (229, oPutR 12 41 232), (232, oAl 0 233), (233, oK (.int (nI 20)) 235), (235, oNewa 1 237), (237, oPutR 12 42 240), (240, oAl 0 241), (241, oK (.int (nI 20)) 243), (243, oNewa 3 245), (245, oPutR 12 43 248), (248, oAl 0 249), (249, oK (.int (nI 6000)) 252), (252, oNewa 3 254), (254, oPutR 12 44 257), (257, oAl 0 258), (258, oK (.int (nI 6000)) 261), (261, oNewa 2 263), (263, oPutR 12 45 266), (266, oAl 0 267), (267, oK (.int (nI 6000)) 270), (270, oNewa 2 272), (272, oPutR 12 46 275), (275, oAl 0 276), (276, oK (.int (nI 121)) 278), (278, oNewa 1 280), (280, oPutR 12 47 283), (283, oAl 0 284), (284, oK (.int (-1)) 285), (285, oPutI 12 48 288), (288, oAl 0 289), (289, oK (.int (nI 6000)) 292), (292, oNewa 2 294), (294, oPutR 12 52 297), (297, oAl 0 298), (298, oK (.int (nI 6000)) 301), (301, oNewa 2 303), (303, oPutR 12 53 306), (306, oAl 0 307), (307, oK (.int (nI 6000)) 310), (310, oNewa 2 312), (312, oPutR 12 55 315), (315, oAl 0 316), (316, oK (.int (nI 6000)) 319), (319, oNewa 2 321), (321, oPutR 12 56 324), (324, oVret)]
def uX12_init : Nat → qP := q_tb lX12_init
set_option maxRecDepth 20000 in
theorem suX12_init : q_Snd mX12_init uX12_init := by
  refine q_tb_ok ?_
  unfold lX12_init
  refine q_fa (ok_aload_n (by decide +kernel : decode cX12_init 0 = .ok (.aload_n 0, 1)) rfl rfl) ?_
  refine q_fa (ok_obj (by decide +kernel : decode cX12_init 1 = .ok (.invokespecial 1, 3)) rfl g1003 g24 g25) ?_
  refine q_fa (ok_aload_n (by decide +kernel : decode cX12_init 4 = .ok (.aload_n 0, 1)) rfl rfl) ?_
  refine q_fa (ok_bipush (by decide +kernel : decode cX12_init 5 = .ok (.bipush 12, 2)) rfl (by decide +kernel)) ?_
  refine q_fa (ok_newa_int (by decide +kernel : decode cX12_init 7 = .ok (.newarray .int, 2)) rfl g56) ?_
  refine q_fa (ok_putR tyX12 (by decide +kernel : decode cX12_init 9 = .ok (.putfield 7, 3)) rfl (rfl : vwCl[12]? = some (RX12, TX12, 58)) inX12 tyX12_ok nmX12 (by decide) g1005 (Or.inr ⟨rfl, rfl, rfl⟩) (by decide +kernel : parseFieldDescriptor (TX12 1).2.2.1 = some (tyX12 1)) (q_rfA _)) ?_
  refine q_fa (ok_aload_n (by decide +kernel : decode cX12_init 12 = .ok (.aload_n 0, 1)) rfl rfl) ?_
  refine q_fa (ok_sipush (by decide +kernel : decode cX12_init 13 = .ok (.sipush 6400, 3)) rfl (by decide +kernel)) ?_
  refine q_fa (ok_newa_int (by decide +kernel : decode cX12_init 16 = .ok (.newarray .int, 2)) rfl g56) ?_
  refine q_fa (ok_putR tyX12 (by decide +kernel : decode cX12_init 18 = .ok (.putfield 13, 3)) rfl (rfl : vwCl[12]? = some (RX12, TX12, 58)) inX12 tyX12_ok nmX12 (by decide) g1007 (Or.inr ⟨rfl, rfl, rfl⟩) (by decide +kernel : parseFieldDescriptor (TX12 3).2.2.1 = some (tyX12 3)) (q_rfA _)) ?_
  refine q_fa (ok_aload_n (by decide +kernel : decode cX12_init 21 = .ok (.aload_n 0, 1)) rfl rfl) ?_
  refine q_fa (ok_sipush (by decide +kernel : decode cX12_init 22 = .ok (.sipush 6400, 3)) rfl (by decide +kernel)) ?_
  refine q_fa (ok_newa_int (by decide +kernel : decode cX12_init 25 = .ok (.newarray .int, 2)) rfl g56) ?_
  refine q_fa (ok_putR tyX12 (by decide +kernel : decode cX12_init 27 = .ok (.putfield 16, 3)) rfl (rfl : vwCl[12]? = some (RX12, TX12, 58)) inX12 tyX12_ok nmX12 (by decide) g1008 (Or.inr ⟨rfl, rfl, rfl⟩) (by decide +kernel : parseFieldDescriptor (TX12 4).2.2.1 = some (tyX12 4)) (q_rfA _)) ?_
  refine q_fa (ok_aload_n (by decide +kernel : decode cX12_init 30 = .ok (.aload_n 0, 1)) rfl rfl) ?_
  refine q_fa (ok_sipush (by decide +kernel : decode cX12_init 31 = .ok (.sipush 6400, 3)) rfl (by decide +kernel)) ?_
  refine q_fa (ok_newa_int (by decide +kernel : decode cX12_init 34 = .ok (.newarray .int, 2)) rfl g56) ?_
  refine q_fa (ok_putR tyX12 (by decide +kernel : decode cX12_init 36 = .ok (.putfield 19, 3)) rfl (rfl : vwCl[12]? = some (RX12, TX12, 58)) inX12 tyX12_ok nmX12 (by decide) g1009 (Or.inr ⟨rfl, rfl, rfl⟩) (by decide +kernel : parseFieldDescriptor (TX12 5).2.2.1 = some (tyX12 5)) (q_rfA _)) ?_
  refine q_fa (ok_aload_n (by decide +kernel : decode cX12_init 39 = .ok (.aload_n 0, 1)) rfl rfl) ?_
  refine q_fa (ok_sipush (by decide +kernel : decode cX12_init 40 = .ok (.sipush 6400, 3)) rfl (by decide +kernel)) ?_
  refine q_fa (ok_newa_int (by decide +kernel : decode cX12_init 43 = .ok (.newarray .int, 2)) rfl g56) ?_
  refine q_fa (ok_putR tyX12 (by decide +kernel : decode cX12_init 45 = .ok (.putfield 22, 3)) rfl (rfl : vwCl[12]? = some (RX12, TX12, 58)) inX12 tyX12_ok nmX12 (by decide) g1010 (Or.inr ⟨rfl, rfl, rfl⟩) (by decide +kernel : parseFieldDescriptor (TX12 6).2.2.1 = some (tyX12 6)) (q_rfA _)) ?_
  refine q_fa (ok_aload_n (by decide +kernel : decode cX12_init 48 = .ok (.aload_n 0, 1)) rfl rfl) ?_
  refine q_fa (ok_sipush (by decide +kernel : decode cX12_init 49 = .ok (.sipush 6400, 3)) rfl (by decide +kernel)) ?_
  refine q_fa (ok_newa_int (by decide +kernel : decode cX12_init 52 = .ok (.newarray .int, 2)) rfl g56) ?_
  refine q_fa (ok_putR tyX12 (by decide +kernel : decode cX12_init 54 = .ok (.putfield 25, 3)) rfl (rfl : vwCl[12]? = some (RX12, TX12, 58)) inX12 tyX12_ok nmX12 (by decide) g1011 (Or.inr ⟨rfl, rfl, rfl⟩) (by decide +kernel : parseFieldDescriptor (TX12 7).2.2.1 = some (tyX12 7)) (q_rfA _)) ?_
  refine q_fa (ok_aload_n (by decide +kernel : decode cX12_init 57 = .ok (.aload_n 0, 1)) rfl rfl) ?_
  refine q_fa (ok_sipush (by decide +kernel : decode cX12_init 58 = .ok (.sipush 6400, 3)) rfl (by decide +kernel)) ?_
  refine q_fa (ok_newa_int (by decide +kernel : decode cX12_init 61 = .ok (.newarray .int, 2)) rfl g56) ?_
  refine q_fa (ok_putR tyX12 (by decide +kernel : decode cX12_init 63 = .ok (.putfield 28, 3)) rfl (rfl : vwCl[12]? = some (RX12, TX12, 58)) inX12 tyX12_ok nmX12 (by decide) g1012 (Or.inr ⟨rfl, rfl, rfl⟩) (by decide +kernel : parseFieldDescriptor (TX12 8).2.2.1 = some (tyX12 8)) (q_rfA _)) ?_
  refine q_fa (ok_aload_n (by decide +kernel : decode cX12_init 66 = .ok (.aload_n 0, 1)) rfl rfl) ?_
  refine q_fa (ok_sipush (by decide +kernel : decode cX12_init 67 = .ok (.sipush 6400, 3)) rfl (by decide +kernel)) ?_
  refine q_fa (ok_newa_int (by decide +kernel : decode cX12_init 70 = .ok (.newarray .int, 2)) rfl g56) ?_
  refine q_fa (ok_putR tyX12 (by decide +kernel : decode cX12_init 72 = .ok (.putfield 31, 3)) rfl (rfl : vwCl[12]? = some (RX12, TX12, 58)) inX12 tyX12_ok nmX12 (by decide) g1013 (Or.inr ⟨rfl, rfl, rfl⟩) (by decide +kernel : parseFieldDescriptor (TX12 9).2.2.1 = some (tyX12 9)) (q_rfA _)) ?_
  refine q_fa (ok_aload_n (by decide +kernel : decode cX12_init 75 = .ok (.aload_n 0, 1)) rfl rfl) ?_
  refine q_fa (ok_sipush (by decide +kernel : decode cX12_init 76 = .ok (.sipush 6000, 3)) rfl (by decide +kernel)) ?_
  refine q_fa (ok_putI tyX12 (by decide +kernel : decode cX12_init 79 = .ok (.putfield 34, 3)) rfl (rfl : vwCl[12]? = some (RX12, TX12, 58)) inX12 tyX12_ok nmX12 (by decide) g1014 (Or.inl rfl) (by decide +kernel)) ?_
  refine q_fa (ok_aload_n (by decide +kernel : decode cX12_init 82 = .ok (.aload_n 0, 1)) rfl rfl) ?_
  refine q_fa (ok_bipush (by decide +kernel : decode cX12_init 83 = .ok (.bipush 12, 2)) rfl (by decide +kernel)) ?_
  refine q_fa (ok_newa_int (by decide +kernel : decode cX12_init 85 = .ok (.newarray .int, 2)) rfl g56) ?_
  refine q_fa (ok_putR tyX12 (by decide +kernel : decode cX12_init 87 = .ok (.putfield 38, 3)) rfl (rfl : vwCl[12]? = some (RX12, TX12, 58)) inX12 tyX12_ok nmX12 (by decide) g1016 (Or.inr ⟨rfl, rfl, rfl⟩) (by decide +kernel : parseFieldDescriptor (TX12 12).2.2.1 = some (tyX12 12)) (q_rfA _)) ?_
  refine q_fa (ok_aload_n (by decide +kernel : decode cX12_init 90 = .ok (.aload_n 0, 1)) rfl rfl) ?_
  refine q_fa (ok_bipush (by decide +kernel : decode cX12_init 91 = .ok (.bipush 10, 2)) rfl (by decide +kernel)) ?_
  refine q_fa (ok_newa_int (by decide +kernel : decode cX12_init 93 = .ok (.newarray .int, 2)) rfl g56) ?_
  refine q_fa (ok_putR tyX12 (by decide +kernel : decode cX12_init 95 = .ok (.putfield 41, 3)) rfl (rfl : vwCl[12]? = some (RX12, TX12, 58)) inX12 tyX12_ok nmX12 (by decide) g1017 (Or.inr ⟨rfl, rfl, rfl⟩) (by decide +kernel : parseFieldDescriptor (TX12 13).2.2.1 = some (tyX12 13)) (q_rfA _)) ?_
  refine q_fa (ok_aload_n (by decide +kernel : decode cX12_init 98 = .ok (.aload_n 0, 1)) rfl rfl) ?_
  refine q_fa (ok_bipush (by decide +kernel : decode cX12_init 99 = .ok (.bipush 120, 2)) rfl (by decide +kernel)) ?_
  refine q_fa (ok_newa_int (by decide +kernel : decode cX12_init 101 = .ok (.newarray .int, 2)) rfl g56) ?_
  refine q_fa (ok_putR tyX12 (by decide +kernel : decode cX12_init 103 = .ok (.putfield 44, 3)) rfl (rfl : vwCl[12]? = some (RX12, TX12, 58)) inX12 tyX12_ok nmX12 (by decide) g1018 (Or.inr ⟨rfl, rfl, rfl⟩) (by decide +kernel : parseFieldDescriptor (TX12 14).2.2.1 = some (tyX12 14)) (q_rfA _)) ?_
  refine q_fa (ok_aload_n (by decide +kernel : decode cX12_init 106 = .ok (.aload_n 0, 1)) rfl rfl) ?_
  refine q_fa (ok_bipush (by decide +kernel : decode cX12_init 107 = .ok (.bipush 120, 2)) rfl (by decide +kernel)) ?_
  refine q_fa (ok_newa_int (by decide +kernel : decode cX12_init 109 = .ok (.newarray .int, 2)) rfl g56) ?_
  refine q_fa (ok_putR tyX12 (by decide +kernel : decode cX12_init 111 = .ok (.putfield 47, 3)) rfl (rfl : vwCl[12]? = some (RX12, TX12, 58)) inX12 tyX12_ok nmX12 (by decide) g1019 (Or.inr ⟨rfl, rfl, rfl⟩) (by decide +kernel : parseFieldDescriptor (TX12 15).2.2.1 = some (tyX12 15)) (q_rfA _)) ?_
  refine q_fa (ok_aload_n (by decide +kernel : decode cX12_init 114 = .ok (.aload_n 0, 1)) rfl rfl) ?_
  refine q_fa (ok_bipush (by decide +kernel : decode cX12_init 115 = .ok (.bipush 60, 2)) rfl (by decide +kernel)) ?_
  refine q_fa (ok_newa_byte (by decide +kernel : decode cX12_init 117 = .ok (.newarray .byte, 2)) rfl g1179) ?_
  refine q_fa (ok_putR tyX12 (by decide +kernel : decode cX12_init 119 = .ok (.putfield 50, 3)) rfl (rfl : vwCl[12]? = some (RX12, TX12, 58)) inX12 tyX12_ok nmX12 (by decide) g1021 (Or.inr ⟨rfl, rfl, rfl⟩) (by decide +kernel : parseFieldDescriptor (TX12 17).2.2.1 = some (tyX12 17)) (q_rfA _)) ?_
  refine q_fa (ok_aload_n (by decide +kernel : decode cX12_init 122 = .ok (.aload_n 0, 1)) rfl rfl) ?_
  refine q_fa (ok_sipush (by decide +kernel : decode cX12_init 123 = .ok (.sipush 200, 3)) rfl (by decide +kernel)) ?_
  refine q_fa (ok_newa_int (by decide +kernel : decode cX12_init 126 = .ok (.newarray .int, 2)) rfl g56) ?_
  refine q_fa (ok_putR tyX12 (by decide +kernel : decode cX12_init 128 = .ok (.putfield 54, 3)) rfl (rfl : vwCl[12]? = some (RX12, TX12, 58)) inX12 tyX12_ok nmX12 (by decide) g1027 (Or.inr ⟨rfl, rfl, rfl⟩) (by decide +kernel : parseFieldDescriptor (TX12 23).2.2.1 = some (tyX12 23)) (q_rfA _)) ?_
  refine q_fa (ok_aload_n (by decide +kernel : decode cX12_init 131 = .ok (.aload_n 0, 1)) rfl rfl) ?_
  refine q_fa (ok_iconst (by decide +kernel : decode cX12_init 132 = .ok (.iconst 2, 1)) rfl (by decide +kernel)) ?_
  refine q_fa (ok_newa_int (by decide +kernel : decode cX12_init 133 = .ok (.newarray .int, 2)) rfl g56) ?_
  refine q_fa (ok_putR tyX12 (by decide +kernel : decode cX12_init 135 = .ok (.putfield 57, 3)) rfl (rfl : vwCl[12]? = some (RX12, TX12, 58)) inX12 tyX12_ok nmX12 (by decide) g1028 (Or.inr ⟨rfl, rfl, rfl⟩) (by decide +kernel : parseFieldDescriptor (TX12 24).2.2.1 = some (tyX12 24)) (q_rfA _)) ?_
  refine q_fa (ok_aload_n (by decide +kernel : decode cX12_init 138 = .ok (.aload_n 0, 1)) rfl rfl) ?_
  refine q_fa (ok_bipush (by decide +kernel : decode cX12_init 139 = .ok (.bipush 16, 2)) rfl (by decide +kernel)) ?_
  refine q_fa (ok_newa_int (by decide +kernel : decode cX12_init 141 = .ok (.newarray .int, 2)) rfl g56) ?_
  refine q_fa (ok_putR tyX12 (by decide +kernel : decode cX12_init 143 = .ok (.putfield 60, 3)) rfl (rfl : vwCl[12]? = some (RX12, TX12, 58)) inX12 tyX12_ok nmX12 (by decide) g1029 (Or.inr ⟨rfl, rfl, rfl⟩) (by decide +kernel : parseFieldDescriptor (TX12 25).2.2.1 = some (tyX12 25)) (q_rfA _)) ?_
  refine q_fa (ok_aload_n (by decide +kernel : decode cX12_init 146 = .ok (.aload_n 0, 1)) rfl rfl) ?_
  refine q_fa (ok_bipush (by decide +kernel : decode cX12_init 147 = .ok (.bipush 16, 2)) rfl (by decide +kernel)) ?_
  refine q_fa (ok_newa_int (by decide +kernel : decode cX12_init 149 = .ok (.newarray .int, 2)) rfl g56) ?_
  refine q_fa (ok_putR tyX12 (by decide +kernel : decode cX12_init 151 = .ok (.putfield 63, 3)) rfl (rfl : vwCl[12]? = some (RX12, TX12, 58)) inX12 tyX12_ok nmX12 (by decide) g1030 (Or.inr ⟨rfl, rfl, rfl⟩) (by decide +kernel : parseFieldDescriptor (TX12 26).2.2.1 = some (tyX12 26)) (q_rfA _)) ?_
  refine q_fa (ok_aload_n (by decide +kernel : decode cX12_init 154 = .ok (.aload_n 0, 1)) rfl rfl) ?_
  refine q_fa (ok_iconst (by decide +kernel : decode cX12_init 155 = .ok (.iconst 2, 1)) rfl (by decide +kernel)) ?_
  refine q_fa (ok_newa_int (by decide +kernel : decode cX12_init 156 = .ok (.newarray .int, 2)) rfl g56) ?_
  refine q_fa (ok_putR tyX12 (by decide +kernel : decode cX12_init 158 = .ok (.putfield 66, 3)) rfl (rfl : vwCl[12]? = some (RX12, TX12, 58)) inX12 tyX12_ok nmX12 (by decide) g1031 (Or.inr ⟨rfl, rfl, rfl⟩) (by decide +kernel : parseFieldDescriptor (TX12 27).2.2.1 = some (tyX12 27)) (q_rfA _)) ?_
  refine q_fa (ok_aload_n (by decide +kernel : decode cX12_init 161 = .ok (.aload_n 0, 1)) rfl rfl) ?_
  refine q_fa (ok_iconst (by decide +kernel : decode cX12_init 162 = .ok (.iconst 2, 1)) rfl (by decide +kernel)) ?_
  refine q_fa (ok_newa_int (by decide +kernel : decode cX12_init 163 = .ok (.newarray .int, 2)) rfl g56) ?_
  refine q_fa (ok_putR tyX12 (by decide +kernel : decode cX12_init 165 = .ok (.putfield 69, 3)) rfl (rfl : vwCl[12]? = some (RX12, TX12, 58)) inX12 tyX12_ok nmX12 (by decide) g1032 (Or.inr ⟨rfl, rfl, rfl⟩) (by decide +kernel : parseFieldDescriptor (TX12 28).2.2.1 = some (tyX12 28)) (q_rfA _)) ?_
  refine q_fa (ok_aload_n (by decide +kernel : decode cX12_init 168 = .ok (.aload_n 0, 1)) rfl rfl) ?_
  refine q_fa (ok_iconst (by decide +kernel : decode cX12_init 169 = .ok (.iconst 2, 1)) rfl (by decide +kernel)) ?_
  refine q_fa (ok_newa_boolean (by decide +kernel : decode cX12_init 170 = .ok (.newarray .boolean, 2)) rfl g126) ?_
  refine q_fa (ok_putR tyX12 (by decide +kernel : decode cX12_init 172 = .ok (.putfield 72, 3)) rfl (rfl : vwCl[12]? = some (RX12, TX12, 58)) inX12 tyX12_ok nmX12 (by decide) g1033 (Or.inr ⟨rfl, rfl, rfl⟩) (by decide +kernel : parseFieldDescriptor (TX12 29).2.2.1 = some (tyX12 29)) (q_rfA _)) ?_
  refine q_fa (ok_aload_n (by decide +kernel : decode cX12_init 175 = .ok (.aload_n 0, 1)) rfl rfl) ?_
  refine q_fa (ok_sipush (by decide +kernel : decode cX12_init 176 = .ok (.sipush 3328, 3)) rfl (by decide +kernel)) ?_
  refine q_fa (ok_newa_int (by decide +kernel : decode cX12_init 179 = .ok (.newarray .int, 2)) rfl g56) ?_
  refine q_fa (ok_putR tyX12 (by decide +kernel : decode cX12_init 181 = .ok (.putfield 76, 3)) rfl (rfl : vwCl[12]? = some (RX12, TX12, 58)) inX12 tyX12_ok nmX12 (by decide) g1037 (Or.inr ⟨rfl, rfl, rfl⟩) (by decide +kernel : parseFieldDescriptor (TX12 33).2.2.1 = some (tyX12 33)) (q_rfA _)) ?_
  refine q_fa (ok_aload_n (by decide +kernel : decode cX12_init 184 = .ok (.aload_n 0, 1)) rfl rfl) ?_
  refine q_fa (ok_ldc (by decide +kernel : decode cX12_init 185 = .ok (.ldc 79, 2)) rfl g1004) ?_
  refine q_fa (ok_newa_int (by decide +kernel : decode cX12_init 187 = .ok (.newarray .int, 2)) rfl g56) ?_
  refine q_fa (ok_putR tyX12 (by decide +kernel : decode cX12_init 189 = .ok (.putfield 80, 3)) rfl (rfl : vwCl[12]? = some (RX12, TX12, 58)) inX12 tyX12_ok nmX12 (by decide) g1038 (Or.inr ⟨rfl, rfl, rfl⟩) (by decide +kernel : parseFieldDescriptor (TX12 34).2.2.1 = some (tyX12 34)) (q_rfA _)) ?_
  refine q_fa (ok_aload_n (by decide +kernel : decode cX12_init 192 = .ok (.aload_n 0, 1)) rfl rfl) ?_
  refine q_fa (ok_ldc (by decide +kernel : decode cX12_init 193 = .ok (.ldc 79, 2)) rfl g1004) ?_
  refine q_fa (ok_newa_int (by decide +kernel : decode cX12_init 195 = .ok (.newarray .int, 2)) rfl g56) ?_
  refine q_fa (ok_putR tyX12 (by decide +kernel : decode cX12_init 197 = .ok (.putfield 83, 3)) rfl (rfl : vwCl[12]? = some (RX12, TX12, 58)) inX12 tyX12_ok nmX12 (by decide) g1039 (Or.inr ⟨rfl, rfl, rfl⟩) (by decide +kernel : parseFieldDescriptor (TX12 35).2.2.1 = some (tyX12 35)) (q_rfA _)) ?_
  refine q_fa (ok_aload_n (by decide +kernel : decode cX12_init 200 = .ok (.aload_n 0, 1)) rfl rfl) ?_
  refine q_fa (ok_ldc (by decide +kernel : decode cX12_init 201 = .ok (.ldc 79, 2)) rfl g1004) ?_
  refine q_fa (ok_newa_boolean (by decide +kernel : decode cX12_init 203 = .ok (.newarray .boolean, 2)) rfl g126) ?_
  refine q_fa (ok_putR tyX12 (by decide +kernel : decode cX12_init 205 = .ok (.putfield 86, 3)) rfl (rfl : vwCl[12]? = some (RX12, TX12, 58)) inX12 tyX12_ok nmX12 (by decide) g1040 (Or.inr ⟨rfl, rfl, rfl⟩) (by decide +kernel : parseFieldDescriptor (TX12 36).2.2.1 = some (tyX12 36)) (q_rfA _)) ?_
  refine q_fa (ok_aload_n (by decide +kernel : decode cX12_init 208 = .ok (.aload_n 0, 1)) rfl rfl) ?_
  refine q_fa (ok_bipush (by decide +kernel : decode cX12_init 209 = .ok (.bipush 20, 2)) rfl (by decide +kernel)) ?_
  refine q_fa (ok_newa_int (by decide +kernel : decode cX12_init 211 = .ok (.newarray .int, 2)) rfl g56) ?_
  refine q_fa (ok_putR tyX12 (by decide +kernel : decode cX12_init 213 = .ok (.putfield 89, 3)) rfl (rfl : vwCl[12]? = some (RX12, TX12, 58)) inX12 tyX12_ok nmX12 (by decide) g1043 (Or.inr ⟨rfl, rfl, rfl⟩) (by decide +kernel : parseFieldDescriptor (TX12 39).2.2.1 = some (tyX12 39)) (q_rfA _)) ?_
  refine q_fa (ok_aload_n (by decide +kernel : decode cX12_init 216 = .ok (.aload_n 0, 1)) rfl rfl) ?_
  refine q_fa (ok_bipush (by decide +kernel : decode cX12_init 217 = .ok (.bipush 20, 2)) rfl (by decide +kernel)) ?_
  refine q_fa (ok_newa_int (by decide +kernel : decode cX12_init 219 = .ok (.newarray .int, 2)) rfl g56) ?_
  refine q_fa (ok_putR tyX12 (by decide +kernel : decode cX12_init 221 = .ok (.putfield 92, 3)) rfl (rfl : vwCl[12]? = some (RX12, TX12, 58)) inX12 tyX12_ok nmX12 (by decide) g1044 (Or.inr ⟨rfl, rfl, rfl⟩) (by decide +kernel : parseFieldDescriptor (TX12 40).2.2.1 = some (tyX12 40)) (q_rfA _)) ?_
  refine q_fa (ok_aload_n (by decide +kernel : decode cX12_init 224 = .ok (.aload_n 0, 1)) rfl rfl) ?_
  refine q_fa (ok_bipush (by decide +kernel : decode cX12_init 225 = .ok (.bipush 20, 2)) rfl (by decide +kernel)) ?_
  refine q_fa (ok_newa_int (by decide +kernel : decode cX12_init 227 = .ok (.newarray .int, 2)) rfl g56) ?_
  refine q_fa (ok_putR tyX12 (by decide +kernel : decode cX12_init 229 = .ok (.putfield 95, 3)) rfl (rfl : vwCl[12]? = some (RX12, TX12, 58)) inX12 tyX12_ok nmX12 (by decide) g1045 (Or.inr ⟨rfl, rfl, rfl⟩) (by decide +kernel : parseFieldDescriptor (TX12 41).2.2.1 = some (tyX12 41)) (q_rfA _)) ?_
  refine q_fa (ok_aload_n (by decide +kernel : decode cX12_init 232 = .ok (.aload_n 0, 1)) rfl rfl) ?_
  refine q_fa (ok_bipush (by decide +kernel : decode cX12_init 233 = .ok (.bipush 20, 2)) rfl (by decide +kernel)) ?_
  refine q_fa (ok_newa_int (by decide +kernel : decode cX12_init 235 = .ok (.newarray .int, 2)) rfl g56) ?_
  refine q_fa (ok_putR tyX12 (by decide +kernel : decode cX12_init 237 = .ok (.putfield 98, 3)) rfl (rfl : vwCl[12]? = some (RX12, TX12, 58)) inX12 tyX12_ok nmX12 (by decide) g1046 (Or.inr ⟨rfl, rfl, rfl⟩) (by decide +kernel : parseFieldDescriptor (TX12 42).2.2.1 = some (tyX12 42)) (q_rfA _)) ?_
  refine q_fa (ok_aload_n (by decide +kernel : decode cX12_init 240 = .ok (.aload_n 0, 1)) rfl rfl) ?_
  refine q_fa (ok_bipush (by decide +kernel : decode cX12_init 241 = .ok (.bipush 20, 2)) rfl (by decide +kernel)) ?_
  refine q_fa (ok_newa_boolean (by decide +kernel : decode cX12_init 243 = .ok (.newarray .boolean, 2)) rfl g126) ?_
  refine q_fa (ok_putR tyX12 (by decide +kernel : decode cX12_init 245 = .ok (.putfield 101, 3)) rfl (rfl : vwCl[12]? = some (RX12, TX12, 58)) inX12 tyX12_ok nmX12 (by decide) g1047 (Or.inr ⟨rfl, rfl, rfl⟩) (by decide +kernel : parseFieldDescriptor (TX12 43).2.2.1 = some (tyX12 43)) (q_rfA _)) ?_
  refine q_fa (ok_aload_n (by decide +kernel : decode cX12_init 248 = .ok (.aload_n 0, 1)) rfl rfl) ?_
  refine q_fa (ok_sipush (by decide +kernel : decode cX12_init 249 = .ok (.sipush 6000, 3)) rfl (by decide +kernel)) ?_
  refine q_fa (ok_newa_boolean (by decide +kernel : decode cX12_init 252 = .ok (.newarray .boolean, 2)) rfl g126) ?_
  refine q_fa (ok_putR tyX12 (by decide +kernel : decode cX12_init 254 = .ok (.putfield 104, 3)) rfl (rfl : vwCl[12]? = some (RX12, TX12, 58)) inX12 tyX12_ok nmX12 (by decide) g1048 (Or.inr ⟨rfl, rfl, rfl⟩) (by decide +kernel : parseFieldDescriptor (TX12 44).2.2.1 = some (tyX12 44)) (q_rfA _)) ?_
  refine q_fa (ok_aload_n (by decide +kernel : decode cX12_init 257 = .ok (.aload_n 0, 1)) rfl rfl) ?_
  refine q_fa (ok_sipush (by decide +kernel : decode cX12_init 258 = .ok (.sipush 6000, 3)) rfl (by decide +kernel)) ?_
  refine q_fa (ok_newa_long (by decide +kernel : decode cX12_init 261 = .ok (.newarray .long, 2)) rfl g151) ?_
  refine q_fa (ok_putR tyX12 (by decide +kernel : decode cX12_init 263 = .ok (.putfield 107, 3)) rfl (rfl : vwCl[12]? = some (RX12, TX12, 58)) inX12 tyX12_ok nmX12 (by decide) g1049 (Or.inr ⟨rfl, rfl, rfl⟩) (by decide +kernel : parseFieldDescriptor (TX12 45).2.2.1 = some (tyX12 45)) (q_rfA _)) ?_
  refine q_fa (ok_aload_n (by decide +kernel : decode cX12_init 266 = .ok (.aload_n 0, 1)) rfl rfl) ?_
  refine q_fa (ok_sipush (by decide +kernel : decode cX12_init 267 = .ok (.sipush 6000, 3)) rfl (by decide +kernel)) ?_
  refine q_fa (ok_newa_long (by decide +kernel : decode cX12_init 270 = .ok (.newarray .long, 2)) rfl g151) ?_
  refine q_fa (ok_putR tyX12 (by decide +kernel : decode cX12_init 272 = .ok (.putfield 111, 3)) rfl (rfl : vwCl[12]? = some (RX12, TX12, 58)) inX12 tyX12_ok nmX12 (by decide) g1050 (Or.inr ⟨rfl, rfl, rfl⟩) (by decide +kernel : parseFieldDescriptor (TX12 46).2.2.1 = some (tyX12 46)) (q_rfA _)) ?_
  refine q_fa (ok_aload_n (by decide +kernel : decode cX12_init 275 = .ok (.aload_n 0, 1)) rfl rfl) ?_
  refine q_fa (ok_bipush (by decide +kernel : decode cX12_init 276 = .ok (.bipush 121, 2)) rfl (by decide +kernel)) ?_
  refine q_fa (ok_newa_int (by decide +kernel : decode cX12_init 278 = .ok (.newarray .int, 2)) rfl g56) ?_
  refine q_fa (ok_putR tyX12 (by decide +kernel : decode cX12_init 280 = .ok (.putfield 114, 3)) rfl (rfl : vwCl[12]? = some (RX12, TX12, 58)) inX12 tyX12_ok nmX12 (by decide) g1051 (Or.inr ⟨rfl, rfl, rfl⟩) (by decide +kernel : parseFieldDescriptor (TX12 47).2.2.1 = some (tyX12 47)) (q_rfA _)) ?_
  refine q_fa (ok_aload_n (by decide +kernel : decode cX12_init 283 = .ok (.aload_n 0, 1)) rfl rfl) ?_
  refine q_fa (ok_iconst (by decide +kernel : decode cX12_init 284 = .ok (.iconst (-1), 1)) rfl (by decide +kernel)) ?_
  refine q_fa (ok_putI tyX12 (by decide +kernel : decode cX12_init 285 = .ok (.putfield 117, 3)) rfl (rfl : vwCl[12]? = some (RX12, TX12, 58)) inX12 tyX12_ok nmX12 (by decide) g1052 (Or.inl rfl) (by decide +kernel)) ?_
  refine q_fa (ok_aload_n (by decide +kernel : decode cX12_init 288 = .ok (.aload_n 0, 1)) rfl rfl) ?_
  refine q_fa (ok_sipush (by decide +kernel : decode cX12_init 289 = .ok (.sipush 6000, 3)) rfl (by decide +kernel)) ?_
  refine q_fa (ok_newa_long (by decide +kernel : decode cX12_init 292 = .ok (.newarray .long, 2)) rfl g151) ?_
  refine q_fa (ok_putR tyX12 (by decide +kernel : decode cX12_init 294 = .ok (.putfield 120, 3)) rfl (rfl : vwCl[12]? = some (RX12, TX12, 58)) inX12 tyX12_ok nmX12 (by decide) g1056 (Or.inr ⟨rfl, rfl, rfl⟩) (by decide +kernel : parseFieldDescriptor (TX12 52).2.2.1 = some (tyX12 52)) (q_rfA _)) ?_
  refine q_fa (ok_aload_n (by decide +kernel : decode cX12_init 297 = .ok (.aload_n 0, 1)) rfl rfl) ?_
  refine q_fa (ok_sipush (by decide +kernel : decode cX12_init 298 = .ok (.sipush 6000, 3)) rfl (by decide +kernel)) ?_
  refine q_fa (ok_newa_long (by decide +kernel : decode cX12_init 301 = .ok (.newarray .long, 2)) rfl g151) ?_
  refine q_fa (ok_putR tyX12 (by decide +kernel : decode cX12_init 303 = .ok (.putfield 123, 3)) rfl (rfl : vwCl[12]? = some (RX12, TX12, 58)) inX12 tyX12_ok nmX12 (by decide) g1057 (Or.inr ⟨rfl, rfl, rfl⟩) (by decide +kernel : parseFieldDescriptor (TX12 53).2.2.1 = some (tyX12 53)) (q_rfA _)) ?_
  refine q_fa (ok_aload_n (by decide +kernel : decode cX12_init 306 = .ok (.aload_n 0, 1)) rfl rfl) ?_
  refine q_fa (ok_sipush (by decide +kernel : decode cX12_init 307 = .ok (.sipush 6000, 3)) rfl (by decide +kernel)) ?_
  refine q_fa (ok_newa_long (by decide +kernel : decode cX12_init 310 = .ok (.newarray .long, 2)) rfl g151) ?_
  refine q_fa (ok_putR tyX12 (by decide +kernel : decode cX12_init 312 = .ok (.putfield 126, 3)) rfl (rfl : vwCl[12]? = some (RX12, TX12, 58)) inX12 tyX12_ok nmX12 (by decide) g1059 (Or.inr ⟨rfl, rfl, rfl⟩) (by decide +kernel : parseFieldDescriptor (TX12 55).2.2.1 = some (tyX12 55)) (q_rfA _)) ?_
  refine q_fa (ok_aload_n (by decide +kernel : decode cX12_init 315 = .ok (.aload_n 0, 1)) rfl rfl) ?_
  refine q_fa (ok_sipush (by decide +kernel : decode cX12_init 316 = .ok (.sipush 6000, 3)) rfl (by decide +kernel)) ?_
  refine q_fa (ok_newa_long (by decide +kernel : decode cX12_init 319 = .ok (.newarray .long, 2)) rfl g151) ?_
  refine q_fa (ok_putR tyX12 (by decide +kernel : decode cX12_init 321 = .ok (.putfield 129, 3)) rfl (rfl : vwCl[12]? = some (RX12, TX12, 58)) inX12 tyX12_ok nmX12 (by decide) g1060 (Or.inr ⟨rfl, rfl, rfl⟩) (by decide +kernel : parseFieldDescriptor (TX12 56).2.2.1 = some (tyX12 56)) (q_rfA _)) ?_
  refine q_fa (ok_vret (by decide +kernel : decode cX12_init 324 = .ok (.return_, 1)) rfl) ?_
  exact q_fa0
theorem exX12_init : ∃ t : Nat → qP, t = uX12_init := ⟨_, rfl⟩
noncomputable def tX12_init : Nat → qP := Classical.choose exX12_init
theorem teX12_init : tX12_init = uX12_init := Classical.choose_spec exX12_init
theorem sX12_init : q_Snd mX12_init tX12_init := by rw [teX12_init]; exact suX12_init
theorem tX12_init_0 : tX12_init 0 = oAl 0 1 := (congrFun teX12_init 0).trans rfl
theorem tX12_init_1 : tX12_init 1 = oObj 4 := (congrFun teX12_init 1).trans rfl
theorem tX12_init_4 : tX12_init 4 = oAl 0 5 := (congrFun teX12_init 4).trans rfl
theorem tX12_init_5 : tX12_init 5 = oK (.int (nI 12)) 7 := (congrFun teX12_init 5).trans rfl
theorem tX12_init_7 : tX12_init 7 = oNewa 1 9 := (congrFun teX12_init 7).trans rfl
theorem tX12_init_9 : tX12_init 9 = oPutR 12 1 12 := (congrFun teX12_init 9).trans rfl
theorem tX12_init_12 : tX12_init 12 = oAl 0 13 := (congrFun teX12_init 12).trans rfl
theorem tX12_init_13 : tX12_init 13 = oK (.int (nI 6400)) 16 := (congrFun teX12_init 13).trans rfl
theorem tX12_init_16 : tX12_init 16 = oNewa 1 18 := (congrFun teX12_init 16).trans rfl
theorem tX12_init_18 : tX12_init 18 = oPutR 12 3 21 := (congrFun teX12_init 18).trans rfl
theorem tX12_init_21 : tX12_init 21 = oAl 0 22 := (congrFun teX12_init 21).trans rfl
theorem tX12_init_22 : tX12_init 22 = oK (.int (nI 6400)) 25 := (congrFun teX12_init 22).trans rfl
theorem tX12_init_25 : tX12_init 25 = oNewa 1 27 := (congrFun teX12_init 25).trans rfl
theorem tX12_init_27 : tX12_init 27 = oPutR 12 4 30 := (congrFun teX12_init 27).trans rfl
theorem tX12_init_30 : tX12_init 30 = oAl 0 31 := (congrFun teX12_init 30).trans rfl
theorem tX12_init_31 : tX12_init 31 = oK (.int (nI 6400)) 34 := (congrFun teX12_init 31).trans rfl
theorem tX12_init_34 : tX12_init 34 = oNewa 1 36 := (congrFun teX12_init 34).trans rfl
theorem tX12_init_36 : tX12_init 36 = oPutR 12 5 39 := (congrFun teX12_init 36).trans rfl
theorem tX12_init_39 : tX12_init 39 = oAl 0 40 := (congrFun teX12_init 39).trans rfl
theorem tX12_init_40 : tX12_init 40 = oK (.int (nI 6400)) 43 := (congrFun teX12_init 40).trans rfl
theorem tX12_init_43 : tX12_init 43 = oNewa 1 45 := (congrFun teX12_init 43).trans rfl
theorem tX12_init_45 : tX12_init 45 = oPutR 12 6 48 := (congrFun teX12_init 45).trans rfl
theorem tX12_init_48 : tX12_init 48 = oAl 0 49 := (congrFun teX12_init 48).trans rfl
theorem tX12_init_49 : tX12_init 49 = oK (.int (nI 6400)) 52 := (congrFun teX12_init 49).trans rfl
theorem tX12_init_52 : tX12_init 52 = oNewa 1 54 := (congrFun teX12_init 52).trans rfl
theorem tX12_init_54 : tX12_init 54 = oPutR 12 7 57 := (congrFun teX12_init 54).trans rfl
theorem tX12_init_57 : tX12_init 57 = oAl 0 58 := (congrFun teX12_init 57).trans rfl
theorem tX12_init_58 : tX12_init 58 = oK (.int (nI 6400)) 61 := (congrFun teX12_init 58).trans rfl
theorem tX12_init_61 : tX12_init 61 = oNewa 1 63 := (congrFun teX12_init 61).trans rfl
theorem tX12_init_63 : tX12_init 63 = oPutR 12 8 66 := (congrFun teX12_init 63).trans rfl
theorem tX12_init_66 : tX12_init 66 = oAl 0 67 := (congrFun teX12_init 66).trans rfl
theorem tX12_init_67 : tX12_init 67 = oK (.int (nI 6400)) 70 := (congrFun teX12_init 67).trans rfl
theorem tX12_init_70 : tX12_init 70 = oNewa 1 72 := (congrFun teX12_init 70).trans rfl
theorem tX12_init_72 : tX12_init 72 = oPutR 12 9 75 := (congrFun teX12_init 72).trans rfl
theorem tX12_init_75 : tX12_init 75 = oAl 0 76 := (congrFun teX12_init 75).trans rfl
theorem tX12_init_76 : tX12_init 76 = oK (.int (nI 6000)) 79 := (congrFun teX12_init 76).trans rfl
theorem tX12_init_79 : tX12_init 79 = oPutI 12 10 82 := (congrFun teX12_init 79).trans rfl
theorem tX12_init_82 : tX12_init 82 = oAl 0 83 := (congrFun teX12_init 82).trans rfl
theorem tX12_init_83 : tX12_init 83 = oK (.int (nI 12)) 85 := (congrFun teX12_init 83).trans rfl
theorem tX12_init_85 : tX12_init 85 = oNewa 1 87 := (congrFun teX12_init 85).trans rfl
theorem tX12_init_87 : tX12_init 87 = oPutR 12 12 90 := (congrFun teX12_init 87).trans rfl
theorem tX12_init_90 : tX12_init 90 = oAl 0 91 := (congrFun teX12_init 90).trans rfl
theorem tX12_init_91 : tX12_init 91 = oK (.int (nI 10)) 93 := (congrFun teX12_init 91).trans rfl
theorem tX12_init_93 : tX12_init 93 = oNewa 1 95 := (congrFun teX12_init 93).trans rfl
theorem tX12_init_95 : tX12_init 95 = oPutR 12 13 98 := (congrFun teX12_init 95).trans rfl
theorem tX12_init_98 : tX12_init 98 = oAl 0 99 := (congrFun teX12_init 98).trans rfl
theorem tX12_init_99 : tX12_init 99 = oK (.int (nI 120)) 101 := (congrFun teX12_init 99).trans rfl
theorem tX12_init_101 : tX12_init 101 = oNewa 1 103 := (congrFun teX12_init 101).trans rfl
theorem tX12_init_103 : tX12_init 103 = oPutR 12 14 106 := (congrFun teX12_init 103).trans rfl
theorem tX12_init_106 : tX12_init 106 = oAl 0 107 := (congrFun teX12_init 106).trans rfl
theorem tX12_init_107 : tX12_init 107 = oK (.int (nI 120)) 109 := (congrFun teX12_init 107).trans rfl
theorem tX12_init_109 : tX12_init 109 = oNewa 1 111 := (congrFun teX12_init 109).trans rfl
theorem tX12_init_111 : tX12_init 111 = oPutR 12 15 114 := (congrFun teX12_init 111).trans rfl
theorem tX12_init_114 : tX12_init 114 = oAl 0 115 := (congrFun teX12_init 114).trans rfl
theorem tX12_init_115 : tX12_init 115 = oK (.int (nI 60)) 117 := (congrFun teX12_init 115).trans rfl
theorem tX12_init_117 : tX12_init 117 = oNewa 4 119 := (congrFun teX12_init 117).trans rfl
theorem tX12_init_119 : tX12_init 119 = oPutR 12 17 122 := (congrFun teX12_init 119).trans rfl
theorem tX12_init_122 : tX12_init 122 = oAl 0 123 := (congrFun teX12_init 122).trans rfl
theorem tX12_init_123 : tX12_init 123 = oK (.int (nI 200)) 126 := (congrFun teX12_init 123).trans rfl
theorem tX12_init_126 : tX12_init 126 = oNewa 1 128 := (congrFun teX12_init 126).trans rfl
theorem tX12_init_128 : tX12_init 128 = oPutR 12 23 131 := (congrFun teX12_init 128).trans rfl
theorem tX12_init_131 : tX12_init 131 = oAl 0 132 := (congrFun teX12_init 131).trans rfl
theorem tX12_init_132 : tX12_init 132 = oK (.int (nI 2)) 133 := (congrFun teX12_init 132).trans rfl
theorem tX12_init_133 : tX12_init 133 = oNewa 1 135 := (congrFun teX12_init 133).trans rfl
theorem tX12_init_135 : tX12_init 135 = oPutR 12 24 138 := (congrFun teX12_init 135).trans rfl
theorem tX12_init_138 : tX12_init 138 = oAl 0 139 := (congrFun teX12_init 138).trans rfl
theorem tX12_init_139 : tX12_init 139 = oK (.int (nI 16)) 141 := (congrFun teX12_init 139).trans rfl
theorem tX12_init_141 : tX12_init 141 = oNewa 1 143 := (congrFun teX12_init 141).trans rfl
theorem tX12_init_143 : tX12_init 143 = oPutR 12 25 146 := (congrFun teX12_init 143).trans rfl
theorem tX12_init_146 : tX12_init 146 = oAl 0 147 := (congrFun teX12_init 146).trans rfl
theorem tX12_init_147 : tX12_init 147 = oK (.int (nI 16)) 149 := (congrFun teX12_init 147).trans rfl
theorem tX12_init_149 : tX12_init 149 = oNewa 1 151 := (congrFun teX12_init 149).trans rfl
theorem tX12_init_151 : tX12_init 151 = oPutR 12 26 154 := (congrFun teX12_init 151).trans rfl
theorem tX12_init_154 : tX12_init 154 = oAl 0 155 := (congrFun teX12_init 154).trans rfl
theorem tX12_init_155 : tX12_init 155 = oK (.int (nI 2)) 156 := (congrFun teX12_init 155).trans rfl
theorem tX12_init_156 : tX12_init 156 = oNewa 1 158 := (congrFun teX12_init 156).trans rfl
theorem tX12_init_158 : tX12_init 158 = oPutR 12 27 161 := (congrFun teX12_init 158).trans rfl
theorem tX12_init_161 : tX12_init 161 = oAl 0 162 := (congrFun teX12_init 161).trans rfl
theorem tX12_init_162 : tX12_init 162 = oK (.int (nI 2)) 163 := (congrFun teX12_init 162).trans rfl
theorem tX12_init_163 : tX12_init 163 = oNewa 1 165 := (congrFun teX12_init 163).trans rfl
theorem tX12_init_165 : tX12_init 165 = oPutR 12 28 168 := (congrFun teX12_init 165).trans rfl
theorem tX12_init_168 : tX12_init 168 = oAl 0 169 := (congrFun teX12_init 168).trans rfl
theorem tX12_init_169 : tX12_init 169 = oK (.int (nI 2)) 170 := (congrFun teX12_init 169).trans rfl
theorem tX12_init_170 : tX12_init 170 = oNewa 3 172 := (congrFun teX12_init 170).trans rfl
theorem tX12_init_172 : tX12_init 172 = oPutR 12 29 175 := (congrFun teX12_init 172).trans rfl
theorem tX12_init_175 : tX12_init 175 = oAl 0 176 := (congrFun teX12_init 175).trans rfl
theorem tX12_init_176 : tX12_init 176 = oK (.int (nI 3328)) 179 := (congrFun teX12_init 176).trans rfl
theorem tX12_init_179 : tX12_init 179 = oNewa 1 181 := (congrFun teX12_init 179).trans rfl
theorem tX12_init_181 : tX12_init 181 = oPutR 12 33 184 := (congrFun teX12_init 181).trans rfl
theorem tX12_init_184 : tX12_init 184 = oAl 0 185 := (congrFun teX12_init 184).trans rfl
theorem tX12_init_185 : tX12_init 185 = oK (.int (nI 65536)) 187 := (congrFun teX12_init 185).trans rfl
theorem tX12_init_187 : tX12_init 187 = oNewa 1 189 := (congrFun teX12_init 187).trans rfl
theorem tX12_init_189 : tX12_init 189 = oPutR 12 34 192 := (congrFun teX12_init 189).trans rfl
theorem tX12_init_192 : tX12_init 192 = oAl 0 193 := (congrFun teX12_init 192).trans rfl
theorem tX12_init_193 : tX12_init 193 = oK (.int (nI 65536)) 195 := (congrFun teX12_init 193).trans rfl
theorem tX12_init_195 : tX12_init 195 = oNewa 1 197 := (congrFun teX12_init 195).trans rfl
theorem tX12_init_197 : tX12_init 197 = oPutR 12 35 200 := (congrFun teX12_init 197).trans rfl
theorem tX12_init_200 : tX12_init 200 = oAl 0 201 := (congrFun teX12_init 200).trans rfl
theorem tX12_init_201 : tX12_init 201 = oK (.int (nI 65536)) 203 := (congrFun teX12_init 201).trans rfl
theorem tX12_init_203 : tX12_init 203 = oNewa 3 205 := (congrFun teX12_init 203).trans rfl
theorem tX12_init_205 : tX12_init 205 = oPutR 12 36 208 := (congrFun teX12_init 205).trans rfl
theorem tX12_init_208 : tX12_init 208 = oAl 0 209 := (congrFun teX12_init 208).trans rfl
theorem tX12_init_209 : tX12_init 209 = oK (.int (nI 20)) 211 := (congrFun teX12_init 209).trans rfl
theorem tX12_init_211 : tX12_init 211 = oNewa 1 213 := (congrFun teX12_init 211).trans rfl
theorem tX12_init_213 : tX12_init 213 = oPutR 12 39 216 := (congrFun teX12_init 213).trans rfl
theorem tX12_init_216 : tX12_init 216 = oAl 0 217 := (congrFun teX12_init 216).trans rfl
theorem tX12_init_217 : tX12_init 217 = oK (.int (nI 20)) 219 := (congrFun teX12_init 217).trans rfl
theorem tX12_init_219 : tX12_init 219 = oNewa 1 221 := (congrFun teX12_init 219).trans rfl
theorem tX12_init_221 : tX12_init 221 = oPutR 12 40 224 := (congrFun teX12_init 221).trans rfl
theorem tX12_init_224 : tX12_init 224 = oAl 0 225 := (congrFun teX12_init 224).trans rfl
theorem tX12_init_225 : tX12_init 225 = oK (.int (nI 20)) 227 := (congrFun teX12_init 225).trans rfl
theorem tX12_init_227 : tX12_init 227 = oNewa 1 229 := (congrFun teX12_init 227).trans rfl
theorem tX12_init_229 : tX12_init 229 = oPutR 12 41 232 := (congrFun teX12_init 229).trans rfl
theorem tX12_init_232 : tX12_init 232 = oAl 0 233 := (congrFun teX12_init 232).trans rfl
theorem tX12_init_233 : tX12_init 233 = oK (.int (nI 20)) 235 := (congrFun teX12_init 233).trans rfl
theorem tX12_init_235 : tX12_init 235 = oNewa 1 237 := (congrFun teX12_init 235).trans rfl
theorem tX12_init_237 : tX12_init 237 = oPutR 12 42 240 := (congrFun teX12_init 237).trans rfl
theorem tX12_init_240 : tX12_init 240 = oAl 0 241 := (congrFun teX12_init 240).trans rfl
theorem tX12_init_241 : tX12_init 241 = oK (.int (nI 20)) 243 := (congrFun teX12_init 241).trans rfl
theorem tX12_init_243 : tX12_init 243 = oNewa 3 245 := (congrFun teX12_init 243).trans rfl
theorem tX12_init_245 : tX12_init 245 = oPutR 12 43 248 := (congrFun teX12_init 245).trans rfl
theorem tX12_init_248 : tX12_init 248 = oAl 0 249 := (congrFun teX12_init 248).trans rfl
theorem tX12_init_249 : tX12_init 249 = oK (.int (nI 6000)) 252 := (congrFun teX12_init 249).trans rfl
theorem tX12_init_252 : tX12_init 252 = oNewa 3 254 := (congrFun teX12_init 252).trans rfl
theorem tX12_init_254 : tX12_init 254 = oPutR 12 44 257 := (congrFun teX12_init 254).trans rfl
theorem tX12_init_257 : tX12_init 257 = oAl 0 258 := (congrFun teX12_init 257).trans rfl
theorem tX12_init_258 : tX12_init 258 = oK (.int (nI 6000)) 261 := (congrFun teX12_init 258).trans rfl
theorem tX12_init_261 : tX12_init 261 = oNewa 2 263 := (congrFun teX12_init 261).trans rfl
theorem tX12_init_263 : tX12_init 263 = oPutR 12 45 266 := (congrFun teX12_init 263).trans rfl
theorem tX12_init_266 : tX12_init 266 = oAl 0 267 := (congrFun teX12_init 266).trans rfl
theorem tX12_init_267 : tX12_init 267 = oK (.int (nI 6000)) 270 := (congrFun teX12_init 267).trans rfl
theorem tX12_init_270 : tX12_init 270 = oNewa 2 272 := (congrFun teX12_init 270).trans rfl
theorem tX12_init_272 : tX12_init 272 = oPutR 12 46 275 := (congrFun teX12_init 272).trans rfl
theorem tX12_init_275 : tX12_init 275 = oAl 0 276 := (congrFun teX12_init 275).trans rfl
theorem tX12_init_276 : tX12_init 276 = oK (.int (nI 121)) 278 := (congrFun teX12_init 276).trans rfl
theorem tX12_init_278 : tX12_init 278 = oNewa 1 280 := (congrFun teX12_init 278).trans rfl
theorem tX12_init_280 : tX12_init 280 = oPutR 12 47 283 := (congrFun teX12_init 280).trans rfl
theorem tX12_init_283 : tX12_init 283 = oAl 0 284 := (congrFun teX12_init 283).trans rfl
theorem tX12_init_284 : tX12_init 284 = oK (.int (-1)) 285 := (congrFun teX12_init 284).trans rfl
theorem tX12_init_285 : tX12_init 285 = oPutI 12 48 288 := (congrFun teX12_init 285).trans rfl
theorem tX12_init_288 : tX12_init 288 = oAl 0 289 := (congrFun teX12_init 288).trans rfl
theorem tX12_init_289 : tX12_init 289 = oK (.int (nI 6000)) 292 := (congrFun teX12_init 289).trans rfl
theorem tX12_init_292 : tX12_init 292 = oNewa 2 294 := (congrFun teX12_init 292).trans rfl
theorem tX12_init_294 : tX12_init 294 = oPutR 12 52 297 := (congrFun teX12_init 294).trans rfl
theorem tX12_init_297 : tX12_init 297 = oAl 0 298 := (congrFun teX12_init 297).trans rfl
theorem tX12_init_298 : tX12_init 298 = oK (.int (nI 6000)) 301 := (congrFun teX12_init 298).trans rfl
theorem tX12_init_301 : tX12_init 301 = oNewa 2 303 := (congrFun teX12_init 301).trans rfl
theorem tX12_init_303 : tX12_init 303 = oPutR 12 53 306 := (congrFun teX12_init 303).trans rfl
theorem tX12_init_306 : tX12_init 306 = oAl 0 307 := (congrFun teX12_init 306).trans rfl
theorem tX12_init_307 : tX12_init 307 = oK (.int (nI 6000)) 310 := (congrFun teX12_init 307).trans rfl
theorem tX12_init_310 : tX12_init 310 = oNewa 2 312 := (congrFun teX12_init 310).trans rfl
theorem tX12_init_312 : tX12_init 312 = oPutR 12 55 315 := (congrFun teX12_init 312).trans rfl
theorem tX12_init_315 : tX12_init 315 = oAl 0 316 := (congrFun teX12_init 315).trans rfl
theorem tX12_init_316 : tX12_init 316 = oK (.int (nI 6000)) 319 := (congrFun teX12_init 316).trans rfl
theorem tX12_init_319 : tX12_init 319 = oNewa 2 321 := (congrFun teX12_init 319).trans rfl
theorem tX12_init_321 : tX12_init 321 = oPutR 12 56 324 := (congrFun teX12_init 321).trans rfl
theorem tX12_init_324 : tX12_init 324 = oVret := (congrFun teX12_init 324).trans rfl
def lX12_in : List (Nat × qP) := [(0, oIl 0 1), (1, oIl 1 2), (2, oIf2lt 14 5), (5, oIl 0 6), (6, oIl 2 7), (7, oIf2gt 14 10), (10, oK (.int (nI 1)) 11), (11, oGo 15), (14, oK (.int (nI 0)) 15), (15, oZret)]
def uX12_in : Nat → qP := q_tb lX12_in
set_option maxRecDepth 20000 in
theorem suX12_in : q_Snd mX12_in uX12_in := by
  refine q_tb_ok ?_
  unfold lX12_in
  refine q_fa (ok_iload_n (by decide +kernel : decode cX12_in 0 = .ok (.iload_n 0, 1)) rfl rfl) ?_
  refine q_fa (ok_iload_n (by decide +kernel : decode cX12_in 1 = .ok (.iload_n 1, 1)) rfl rfl) ?_
  refine q_fa (ok_if2lt (by decide +kernel : decode cX12_in 2 = .ok (.if_icmp .lt 12, 3)) (by decide) rfl) ?_
  refine q_fa (ok_iload_n (by decide +kernel : decode cX12_in 5 = .ok (.iload_n 0, 1)) rfl rfl) ?_
  refine q_fa (ok_iload_n (by decide +kernel : decode cX12_in 6 = .ok (.iload_n 2, 1)) rfl rfl) ?_
  refine q_fa (ok_if2gt (by decide +kernel : decode cX12_in 7 = .ok (.if_icmp .gt 7, 3)) (by decide) rfl) ?_
  refine q_fa (ok_iconst (by decide +kernel : decode cX12_in 10 = .ok (.iconst 1, 1)) rfl (by decide +kernel)) ?_
  refine q_fa (ok_goto (by decide +kernel : decode cX12_in 11 = .ok (.goto 4, 3)) (by decide)) ?_
  refine q_fa (ok_iconst (by decide +kernel : decode cX12_in 14 = .ok (.iconst 0, 1)) rfl (by decide +kernel)) ?_
  refine q_fa (ok_zret (by decide +kernel : decode cX12_in 15 = .ok (.ireturn, 1)) rfl) ?_
  exact q_fa0
theorem exX12_in : ∃ t : Nat → qP, t = uX12_in := ⟨_, rfl⟩
noncomputable def tX12_in : Nat → qP := Classical.choose exX12_in
theorem teX12_in : tX12_in = uX12_in := Classical.choose_spec exX12_in
theorem sX12_in : q_Snd mX12_in tX12_in := by rw [teX12_in]; exact suX12_in
theorem tX12_in_0 : tX12_in 0 = oIl 0 1 := (congrFun teX12_in 0).trans rfl
theorem tX12_in_1 : tX12_in 1 = oIl 1 2 := (congrFun teX12_in 1).trans rfl
theorem tX12_in_2 : tX12_in 2 = oIf2lt 14 5 := (congrFun teX12_in 2).trans rfl
theorem tX12_in_5 : tX12_in 5 = oIl 0 6 := (congrFun teX12_in 5).trans rfl
theorem tX12_in_6 : tX12_in 6 = oIl 2 7 := (congrFun teX12_in 6).trans rfl
theorem tX12_in_7 : tX12_in 7 = oIf2gt 14 10 := (congrFun teX12_in 7).trans rfl
theorem tX12_in_10 : tX12_in 10 = oK (.int (nI 1)) 11 := (congrFun teX12_in 10).trans rfl
theorem tX12_in_11 : tX12_in 11 = oGo 15 := (congrFun teX12_in 11).trans rfl
theorem tX12_in_14 : tX12_in 14 = oK (.int (nI 0)) 15 := (congrFun teX12_in 14).trans rfl
theorem tX12_in_15 : tX12_in 15 = oZret := (congrFun teX12_in 15).trans rfl
def lX12_take : List (Nat × qP) := [(0, oIl 1 1), (1, oIs 3 2), (2, oAl 0 3), (3, oK (.int (nI 0)) 4), (4, oPutI 12 2 7), (7, oIl 1 8), (8, oK (.int (nI 1)) 9), (9, oIf2ge 14 12), (12, oK (.int (nI 0)) 13), (13, oZret), (14, oIl 3 15), (15, oK (.int (nI 3)) 16), (16, oIf2lt 58 19), (19, oAl 0 20), (20, oGet 12 2 23), (23, oIl 2 24), (24, oIf2ne 29 27), (27, oK (.int (nI 0)) 28), (28, oZret), (29, oAl 0 30), (30, oGet 12 1 33), (33, oAl 0 34), (34, oGet 12 2 37), (37, oIl 3 38), (38, oK (.int (nI 3)) 39), (39, oRem 40), (40, oIast 41), (41, oAl 0 42), (42, oDup 43), (43, oGet 12 2 46), (46, oK (.int (nI 1)) 47), (47, oAdd 48), (48, oPutI 12 2 51), (51, oIl 3 52), (52, oK (.int (nI 3)) 53), (53, oDiv 54), (54, oIs 3 55), (55, oGo 14), (58, oK (.int (nI 0)) 59), (59, oIs 4 61), (61, oIl 4 63), (63, oAl 0 64), (64, oGet 12 2 67), (67, oK (.int (nI 2)) 68), (68, oDiv 69), (69, oIf2ge 124 72), (72, oAl 0 73), (73, oGet 12 1 76), (76, oIl 4 78), (78, oIald 79), (79, oIs 5 81), (81, oAl 0 82), (82, oGet 12 1 85), (85, oIl 4 87), (87, oAl 0 88), (88, oGet 12 1 91), (91, oAl 0 92), (92, oGet 12 2 95), (95, oK (.int (nI 1)) 96), (96, oSub 97), (97, oIl 4 99), (99, oSub 100), (100, oIald 101), (101, oIast 102), (102, oAl 0 103), (103, oGet 12 1 106), (106, oAl 0 107), (107, oGet 12 2 110), (110, oK (.int (nI 1)) 111), (111, oSub 112), (112, oIl 4 114), (114, oSub 115), (115, oIl 5 117), (117, oIast 118), (118, oInc 4 (nI 1) 121), (121, oGo 61), (124, oIl 3 125), (125, oK (.int (nI 1)) 126), (126, oIf2ne 133 129), (129, oK (.int (nI 1)) 130), (130, oGo 134), (133, oK (.int (nI 0)) 134), (134, oZret)]
def uX12_take : Nat → qP := q_tb lX12_take
set_option maxRecDepth 20000 in
theorem suX12_take : q_Snd mX12_take uX12_take := by
  refine q_tb_ok ?_
  unfold lX12_take
  refine q_fa (ok_iload_n (by decide +kernel : decode cX12_take 0 = .ok (.iload_n 1, 1)) rfl rfl) ?_
  refine q_fa (ok_istore_n (by decide +kernel : decode cX12_take 1 = .ok (.istore_n 3, 1)) rfl rfl (by decide)) ?_
  refine q_fa (ok_aload_n (by decide +kernel : decode cX12_take 2 = .ok (.aload_n 0, 1)) rfl rfl) ?_
  refine q_fa (ok_iconst (by decide +kernel : decode cX12_take 3 = .ok (.iconst 0, 1)) rfl (by decide +kernel)) ?_
  refine q_fa (ok_putI tyX12 (by decide +kernel : decode cX12_take 4 = .ok (.putfield 135, 3)) rfl (rfl : vwCl[12]? = some (RX12, TX12, 58)) inX12 tyX12_ok nmX12 (by decide) g1006 (Or.inl rfl) (by decide +kernel)) ?_
  refine q_fa (ok_iload_n (by decide +kernel : decode cX12_take 7 = .ok (.iload_n 1, 1)) rfl rfl) ?_
  refine q_fa (ok_iconst (by decide +kernel : decode cX12_take 8 = .ok (.iconst 1, 1)) rfl (by decide +kernel)) ?_
  refine q_fa (ok_if2ge (by decide +kernel : decode cX12_take 9 = .ok (.if_icmp .ge 5, 3)) (by decide) rfl) ?_
  refine q_fa (ok_iconst (by decide +kernel : decode cX12_take 12 = .ok (.iconst 0, 1)) rfl (by decide +kernel)) ?_
  refine q_fa (ok_zret (by decide +kernel : decode cX12_take 13 = .ok (.ireturn, 1)) rfl) ?_
  refine q_fa (ok_iload_n (by decide +kernel : decode cX12_take 14 = .ok (.iload_n 3, 1)) rfl rfl) ?_
  refine q_fa (ok_iconst (by decide +kernel : decode cX12_take 15 = .ok (.iconst 3, 1)) rfl (by decide +kernel)) ?_
  refine q_fa (ok_if2lt (by decide +kernel : decode cX12_take 16 = .ok (.if_icmp .lt 42, 3)) (by decide) rfl) ?_
  refine q_fa (ok_aload_n (by decide +kernel : decode cX12_take 19 = .ok (.aload_n 0, 1)) rfl rfl) ?_
  refine q_fa (ok_get (by decide +kernel : decode cX12_take 20 = .ok (.getfield 135, 3)) rfl (rfl : vwCl[12]? = some (RX12, TX12, 58)) inX12 (by decide) g1006) ?_
  refine q_fa (ok_iload_n (by decide +kernel : decode cX12_take 23 = .ok (.iload_n 2, 1)) rfl rfl) ?_
  refine q_fa (ok_if2ne (by decide +kernel : decode cX12_take 24 = .ok (.if_icmp .ne 5, 3)) (by decide) rfl) ?_
  refine q_fa (ok_iconst (by decide +kernel : decode cX12_take 27 = .ok (.iconst 0, 1)) rfl (by decide +kernel)) ?_
  refine q_fa (ok_zret (by decide +kernel : decode cX12_take 28 = .ok (.ireturn, 1)) rfl) ?_
  refine q_fa (ok_aload_n (by decide +kernel : decode cX12_take 29 = .ok (.aload_n 0, 1)) rfl rfl) ?_
  refine q_fa (ok_get (by decide +kernel : decode cX12_take 30 = .ok (.getfield 7, 3)) rfl (rfl : vwCl[12]? = some (RX12, TX12, 58)) inX12 (by decide) g1005) ?_
  refine q_fa (ok_aload_n (by decide +kernel : decode cX12_take 33 = .ok (.aload_n 0, 1)) rfl rfl) ?_
  refine q_fa (ok_get (by decide +kernel : decode cX12_take 34 = .ok (.getfield 135, 3)) rfl (rfl : vwCl[12]? = some (RX12, TX12, 58)) inX12 (by decide) g1006) ?_
  refine q_fa (ok_iload_n (by decide +kernel : decode cX12_take 37 = .ok (.iload_n 3, 1)) rfl rfl) ?_
  refine q_fa (ok_iconst (by decide +kernel : decode cX12_take 38 = .ok (.iconst 3, 1)) rfl (by decide +kernel)) ?_
  refine q_fa (ok_irem (by decide +kernel : decode cX12_take 39 = .ok (.irem, 1)) rfl) ?_
  refine q_fa (ok_iastore (by decide +kernel : decode cX12_take 40 = .ok (.iastore, 1)) rfl) ?_
  refine q_fa (ok_aload_n (by decide +kernel : decode cX12_take 41 = .ok (.aload_n 0, 1)) rfl rfl) ?_
  refine q_fa (ok_dup (by decide +kernel : decode cX12_take 42 = .ok (.dup, 1)) rfl) ?_
  refine q_fa (ok_get (by decide +kernel : decode cX12_take 43 = .ok (.getfield 135, 3)) rfl (rfl : vwCl[12]? = some (RX12, TX12, 58)) inX12 (by decide) g1006) ?_
  refine q_fa (ok_iconst (by decide +kernel : decode cX12_take 46 = .ok (.iconst 1, 1)) rfl (by decide +kernel)) ?_
  refine q_fa (ok_iadd (by decide +kernel : decode cX12_take 47 = .ok (.iadd, 1)) rfl) ?_
  refine q_fa (ok_putI tyX12 (by decide +kernel : decode cX12_take 48 = .ok (.putfield 135, 3)) rfl (rfl : vwCl[12]? = some (RX12, TX12, 58)) inX12 tyX12_ok nmX12 (by decide) g1006 (Or.inl rfl) (by decide +kernel)) ?_
  refine q_fa (ok_iload_n (by decide +kernel : decode cX12_take 51 = .ok (.iload_n 3, 1)) rfl rfl) ?_
  refine q_fa (ok_iconst (by decide +kernel : decode cX12_take 52 = .ok (.iconst 3, 1)) rfl (by decide +kernel)) ?_
  refine q_fa (ok_idiv (by decide +kernel : decode cX12_take 53 = .ok (.idiv, 1)) rfl) ?_
  refine q_fa (ok_istore_n (by decide +kernel : decode cX12_take 54 = .ok (.istore_n 3, 1)) rfl rfl (by decide)) ?_
  refine q_fa (ok_goto (by decide +kernel : decode cX12_take 55 = .ok (.goto (-41), 3)) (by decide)) ?_
  refine q_fa (ok_iconst (by decide +kernel : decode cX12_take 58 = .ok (.iconst 0, 1)) rfl (by decide +kernel)) ?_
  refine q_fa (ok_istore (by decide +kernel : decode cX12_take 59 = .ok (.istore 4, 2)) rfl (by decide)) ?_
  refine q_fa (ok_iload (by decide +kernel : decode cX12_take 61 = .ok (.iload 4, 2)) rfl) ?_
  refine q_fa (ok_aload_n (by decide +kernel : decode cX12_take 63 = .ok (.aload_n 0, 1)) rfl rfl) ?_
  refine q_fa (ok_get (by decide +kernel : decode cX12_take 64 = .ok (.getfield 135, 3)) rfl (rfl : vwCl[12]? = some (RX12, TX12, 58)) inX12 (by decide) g1006) ?_
  refine q_fa (ok_iconst (by decide +kernel : decode cX12_take 67 = .ok (.iconst 2, 1)) rfl (by decide +kernel)) ?_
  refine q_fa (ok_idiv (by decide +kernel : decode cX12_take 68 = .ok (.idiv, 1)) rfl) ?_
  refine q_fa (ok_if2ge (by decide +kernel : decode cX12_take 69 = .ok (.if_icmp .ge 55, 3)) (by decide) rfl) ?_
  refine q_fa (ok_aload_n (by decide +kernel : decode cX12_take 72 = .ok (.aload_n 0, 1)) rfl rfl) ?_
  refine q_fa (ok_get (by decide +kernel : decode cX12_take 73 = .ok (.getfield 7, 3)) rfl (rfl : vwCl[12]? = some (RX12, TX12, 58)) inX12 (by decide) g1005) ?_
  refine q_fa (ok_iload (by decide +kernel : decode cX12_take 76 = .ok (.iload 4, 2)) rfl) ?_
  refine q_fa (ok_iaload (by decide +kernel : decode cX12_take 78 = .ok (.iaload, 1)) rfl) ?_
  refine q_fa (ok_istore (by decide +kernel : decode cX12_take 79 = .ok (.istore 5, 2)) rfl (by decide)) ?_
  refine q_fa (ok_aload_n (by decide +kernel : decode cX12_take 81 = .ok (.aload_n 0, 1)) rfl rfl) ?_
  refine q_fa (ok_get (by decide +kernel : decode cX12_take 82 = .ok (.getfield 7, 3)) rfl (rfl : vwCl[12]? = some (RX12, TX12, 58)) inX12 (by decide) g1005) ?_
  refine q_fa (ok_iload (by decide +kernel : decode cX12_take 85 = .ok (.iload 4, 2)) rfl) ?_
  refine q_fa (ok_aload_n (by decide +kernel : decode cX12_take 87 = .ok (.aload_n 0, 1)) rfl rfl) ?_
  refine q_fa (ok_get (by decide +kernel : decode cX12_take 88 = .ok (.getfield 7, 3)) rfl (rfl : vwCl[12]? = some (RX12, TX12, 58)) inX12 (by decide) g1005) ?_
  refine q_fa (ok_aload_n (by decide +kernel : decode cX12_take 91 = .ok (.aload_n 0, 1)) rfl rfl) ?_
  refine q_fa (ok_get (by decide +kernel : decode cX12_take 92 = .ok (.getfield 135, 3)) rfl (rfl : vwCl[12]? = some (RX12, TX12, 58)) inX12 (by decide) g1006) ?_
  refine q_fa (ok_iconst (by decide +kernel : decode cX12_take 95 = .ok (.iconst 1, 1)) rfl (by decide +kernel)) ?_
  refine q_fa (ok_isub (by decide +kernel : decode cX12_take 96 = .ok (.isub, 1)) rfl) ?_
  refine q_fa (ok_iload (by decide +kernel : decode cX12_take 97 = .ok (.iload 4, 2)) rfl) ?_
  refine q_fa (ok_isub (by decide +kernel : decode cX12_take 99 = .ok (.isub, 1)) rfl) ?_
  refine q_fa (ok_iaload (by decide +kernel : decode cX12_take 100 = .ok (.iaload, 1)) rfl) ?_
  refine q_fa (ok_iastore (by decide +kernel : decode cX12_take 101 = .ok (.iastore, 1)) rfl) ?_
  refine q_fa (ok_aload_n (by decide +kernel : decode cX12_take 102 = .ok (.aload_n 0, 1)) rfl rfl) ?_
  refine q_fa (ok_get (by decide +kernel : decode cX12_take 103 = .ok (.getfield 7, 3)) rfl (rfl : vwCl[12]? = some (RX12, TX12, 58)) inX12 (by decide) g1005) ?_
  refine q_fa (ok_aload_n (by decide +kernel : decode cX12_take 106 = .ok (.aload_n 0, 1)) rfl rfl) ?_
  refine q_fa (ok_get (by decide +kernel : decode cX12_take 107 = .ok (.getfield 135, 3)) rfl (rfl : vwCl[12]? = some (RX12, TX12, 58)) inX12 (by decide) g1006) ?_
  refine q_fa (ok_iconst (by decide +kernel : decode cX12_take 110 = .ok (.iconst 1, 1)) rfl (by decide +kernel)) ?_
  refine q_fa (ok_isub (by decide +kernel : decode cX12_take 111 = .ok (.isub, 1)) rfl) ?_
  refine q_fa (ok_iload (by decide +kernel : decode cX12_take 112 = .ok (.iload 4, 2)) rfl) ?_
  refine q_fa (ok_isub (by decide +kernel : decode cX12_take 114 = .ok (.isub, 1)) rfl) ?_
  refine q_fa (ok_iload (by decide +kernel : decode cX12_take 115 = .ok (.iload 5, 2)) rfl) ?_
  refine q_fa (ok_iastore (by decide +kernel : decode cX12_take 117 = .ok (.iastore, 1)) rfl) ?_
  refine q_fa (ok_iinc (by decide +kernel : decode cX12_take 118 = .ok (.iinc 4 1, 3)) rfl (by decide +kernel) (by decide)) ?_
  refine q_fa (ok_goto (by decide +kernel : decode cX12_take 121 = .ok (.goto (-60), 3)) (by decide)) ?_
  refine q_fa (ok_iload_n (by decide +kernel : decode cX12_take 124 = .ok (.iload_n 3, 1)) rfl rfl) ?_
  refine q_fa (ok_iconst (by decide +kernel : decode cX12_take 125 = .ok (.iconst 1, 1)) rfl (by decide +kernel)) ?_
  refine q_fa (ok_if2ne (by decide +kernel : decode cX12_take 126 = .ok (.if_icmp .ne 7, 3)) (by decide) rfl) ?_
  refine q_fa (ok_iconst (by decide +kernel : decode cX12_take 129 = .ok (.iconst 1, 1)) rfl (by decide +kernel)) ?_
  refine q_fa (ok_goto (by decide +kernel : decode cX12_take 130 = .ok (.goto 4, 3)) (by decide)) ?_
  refine q_fa (ok_iconst (by decide +kernel : decode cX12_take 133 = .ok (.iconst 0, 1)) rfl (by decide +kernel)) ?_
  refine q_fa (ok_zret (by decide +kernel : decode cX12_take 134 = .ok (.ireturn, 1)) rfl) ?_
  exact q_fa0
theorem exX12_take : ∃ t : Nat → qP, t = uX12_take := ⟨_, rfl⟩
noncomputable def tX12_take : Nat → qP := Classical.choose exX12_take
theorem teX12_take : tX12_take = uX12_take := Classical.choose_spec exX12_take
theorem sX12_take : q_Snd mX12_take tX12_take := by rw [teX12_take]; exact suX12_take
theorem tX12_take_0 : tX12_take 0 = oIl 1 1 := (congrFun teX12_take 0).trans rfl
theorem tX12_take_1 : tX12_take 1 = oIs 3 2 := (congrFun teX12_take 1).trans rfl
theorem tX12_take_2 : tX12_take 2 = oAl 0 3 := (congrFun teX12_take 2).trans rfl
theorem tX12_take_3 : tX12_take 3 = oK (.int (nI 0)) 4 := (congrFun teX12_take 3).trans rfl
theorem tX12_take_4 : tX12_take 4 = oPutI 12 2 7 := (congrFun teX12_take 4).trans rfl
theorem tX12_take_7 : tX12_take 7 = oIl 1 8 := (congrFun teX12_take 7).trans rfl
theorem tX12_take_8 : tX12_take 8 = oK (.int (nI 1)) 9 := (congrFun teX12_take 8).trans rfl
theorem tX12_take_9 : tX12_take 9 = oIf2ge 14 12 := (congrFun teX12_take 9).trans rfl
theorem tX12_take_12 : tX12_take 12 = oK (.int (nI 0)) 13 := (congrFun teX12_take 12).trans rfl
theorem tX12_take_13 : tX12_take 13 = oZret := (congrFun teX12_take 13).trans rfl
theorem tX12_take_14 : tX12_take 14 = oIl 3 15 := (congrFun teX12_take 14).trans rfl
theorem tX12_take_15 : tX12_take 15 = oK (.int (nI 3)) 16 := (congrFun teX12_take 15).trans rfl
theorem tX12_take_16 : tX12_take 16 = oIf2lt 58 19 := (congrFun teX12_take 16).trans rfl
theorem tX12_take_19 : tX12_take 19 = oAl 0 20 := (congrFun teX12_take 19).trans rfl
theorem tX12_take_20 : tX12_take 20 = oGet 12 2 23 := (congrFun teX12_take 20).trans rfl
theorem tX12_take_23 : tX12_take 23 = oIl 2 24 := (congrFun teX12_take 23).trans rfl
theorem tX12_take_24 : tX12_take 24 = oIf2ne 29 27 := (congrFun teX12_take 24).trans rfl
theorem tX12_take_27 : tX12_take 27 = oK (.int (nI 0)) 28 := (congrFun teX12_take 27).trans rfl
theorem tX12_take_28 : tX12_take 28 = oZret := (congrFun teX12_take 28).trans rfl
theorem tX12_take_29 : tX12_take 29 = oAl 0 30 := (congrFun teX12_take 29).trans rfl
theorem tX12_take_30 : tX12_take 30 = oGet 12 1 33 := (congrFun teX12_take 30).trans rfl
theorem tX12_take_33 : tX12_take 33 = oAl 0 34 := (congrFun teX12_take 33).trans rfl
theorem tX12_take_34 : tX12_take 34 = oGet 12 2 37 := (congrFun teX12_take 34).trans rfl
theorem tX12_take_37 : tX12_take 37 = oIl 3 38 := (congrFun teX12_take 37).trans rfl
theorem tX12_take_38 : tX12_take 38 = oK (.int (nI 3)) 39 := (congrFun teX12_take 38).trans rfl
theorem tX12_take_39 : tX12_take 39 = oRem 40 := (congrFun teX12_take 39).trans rfl
theorem tX12_take_40 : tX12_take 40 = oIast 41 := (congrFun teX12_take 40).trans rfl
theorem tX12_take_41 : tX12_take 41 = oAl 0 42 := (congrFun teX12_take 41).trans rfl
theorem tX12_take_42 : tX12_take 42 = oDup 43 := (congrFun teX12_take 42).trans rfl
theorem tX12_take_43 : tX12_take 43 = oGet 12 2 46 := (congrFun teX12_take 43).trans rfl
theorem tX12_take_46 : tX12_take 46 = oK (.int (nI 1)) 47 := (congrFun teX12_take 46).trans rfl
theorem tX12_take_47 : tX12_take 47 = oAdd 48 := (congrFun teX12_take 47).trans rfl
theorem tX12_take_48 : tX12_take 48 = oPutI 12 2 51 := (congrFun teX12_take 48).trans rfl
theorem tX12_take_51 : tX12_take 51 = oIl 3 52 := (congrFun teX12_take 51).trans rfl
theorem tX12_take_52 : tX12_take 52 = oK (.int (nI 3)) 53 := (congrFun teX12_take 52).trans rfl
theorem tX12_take_53 : tX12_take 53 = oDiv 54 := (congrFun teX12_take 53).trans rfl
theorem tX12_take_54 : tX12_take 54 = oIs 3 55 := (congrFun teX12_take 54).trans rfl
theorem tX12_take_55 : tX12_take 55 = oGo 14 := (congrFun teX12_take 55).trans rfl
theorem tX12_take_58 : tX12_take 58 = oK (.int (nI 0)) 59 := (congrFun teX12_take 58).trans rfl
theorem tX12_take_59 : tX12_take 59 = oIs 4 61 := (congrFun teX12_take 59).trans rfl
theorem tX12_take_61 : tX12_take 61 = oIl 4 63 := (congrFun teX12_take 61).trans rfl
theorem tX12_take_63 : tX12_take 63 = oAl 0 64 := (congrFun teX12_take 63).trans rfl
theorem tX12_take_64 : tX12_take 64 = oGet 12 2 67 := (congrFun teX12_take 64).trans rfl
theorem tX12_take_67 : tX12_take 67 = oK (.int (nI 2)) 68 := (congrFun teX12_take 67).trans rfl
theorem tX12_take_68 : tX12_take 68 = oDiv 69 := (congrFun teX12_take 68).trans rfl
theorem tX12_take_69 : tX12_take 69 = oIf2ge 124 72 := (congrFun teX12_take 69).trans rfl
theorem tX12_take_72 : tX12_take 72 = oAl 0 73 := (congrFun teX12_take 72).trans rfl
theorem tX12_take_73 : tX12_take 73 = oGet 12 1 76 := (congrFun teX12_take 73).trans rfl
theorem tX12_take_76 : tX12_take 76 = oIl 4 78 := (congrFun teX12_take 76).trans rfl
theorem tX12_take_78 : tX12_take 78 = oIald 79 := (congrFun teX12_take 78).trans rfl
theorem tX12_take_79 : tX12_take 79 = oIs 5 81 := (congrFun teX12_take 79).trans rfl
theorem tX12_take_81 : tX12_take 81 = oAl 0 82 := (congrFun teX12_take 81).trans rfl
theorem tX12_take_82 : tX12_take 82 = oGet 12 1 85 := (congrFun teX12_take 82).trans rfl
theorem tX12_take_85 : tX12_take 85 = oIl 4 87 := (congrFun teX12_take 85).trans rfl
theorem tX12_take_87 : tX12_take 87 = oAl 0 88 := (congrFun teX12_take 87).trans rfl
theorem tX12_take_88 : tX12_take 88 = oGet 12 1 91 := (congrFun teX12_take 88).trans rfl
theorem tX12_take_91 : tX12_take 91 = oAl 0 92 := (congrFun teX12_take 91).trans rfl
theorem tX12_take_92 : tX12_take 92 = oGet 12 2 95 := (congrFun teX12_take 92).trans rfl
theorem tX12_take_95 : tX12_take 95 = oK (.int (nI 1)) 96 := (congrFun teX12_take 95).trans rfl
theorem tX12_take_96 : tX12_take 96 = oSub 97 := (congrFun teX12_take 96).trans rfl
theorem tX12_take_97 : tX12_take 97 = oIl 4 99 := (congrFun teX12_take 97).trans rfl
theorem tX12_take_99 : tX12_take 99 = oSub 100 := (congrFun teX12_take 99).trans rfl
theorem tX12_take_100 : tX12_take 100 = oIald 101 := (congrFun teX12_take 100).trans rfl
theorem tX12_take_101 : tX12_take 101 = oIast 102 := (congrFun teX12_take 101).trans rfl
theorem tX12_take_102 : tX12_take 102 = oAl 0 103 := (congrFun teX12_take 102).trans rfl
theorem tX12_take_103 : tX12_take 103 = oGet 12 1 106 := (congrFun teX12_take 103).trans rfl
theorem tX12_take_106 : tX12_take 106 = oAl 0 107 := (congrFun teX12_take 106).trans rfl
theorem tX12_take_107 : tX12_take 107 = oGet 12 2 110 := (congrFun teX12_take 107).trans rfl
theorem tX12_take_110 : tX12_take 110 = oK (.int (nI 1)) 111 := (congrFun teX12_take 110).trans rfl
theorem tX12_take_111 : tX12_take 111 = oSub 112 := (congrFun teX12_take 111).trans rfl
theorem tX12_take_112 : tX12_take 112 = oIl 4 114 := (congrFun teX12_take 112).trans rfl
theorem tX12_take_114 : tX12_take 114 = oSub 115 := (congrFun teX12_take 114).trans rfl
theorem tX12_take_115 : tX12_take 115 = oIl 5 117 := (congrFun teX12_take 115).trans rfl
theorem tX12_take_117 : tX12_take 117 = oIast 118 := (congrFun teX12_take 117).trans rfl
theorem tX12_take_118 : tX12_take 118 = oInc 4 (nI 1) 121 := (congrFun teX12_take 118).trans rfl
theorem tX12_take_121 : tX12_take 121 = oGo 61 := (congrFun teX12_take 121).trans rfl
theorem tX12_take_124 : tX12_take 124 = oIl 3 125 := (congrFun teX12_take 124).trans rfl
theorem tX12_take_125 : tX12_take 125 = oK (.int (nI 1)) 126 := (congrFun teX12_take 125).trans rfl
theorem tX12_take_126 : tX12_take 126 = oIf2ne 133 129 := (congrFun teX12_take 126).trans rfl
theorem tX12_take_129 : tX12_take 129 = oK (.int (nI 1)) 130 := (congrFun teX12_take 129).trans rfl
theorem tX12_take_130 : tX12_take 130 = oGo 134 := (congrFun teX12_take 130).trans rfl
theorem tX12_take_133 : tX12_take 133 = oK (.int (nI 0)) 134 := (congrFun teX12_take 133).trans rfl
theorem tX12_take_134 : tX12_take 134 = oZret := (congrFun teX12_take 134).trans rfl
def lX12_price : List (Nat × qP) := [(0, oIl 0 1), (1, oK (.int (nI 1)) 2), (2, oIf2ne 9 5), (5, oK (.int (nI 3)) 6), (6, oGo 19), (9, oIl 0 10), (10, oK (.int (nI 2)) 11), (11, oIf2ne 18 14), (14, oK (.int (nI 1)) 15), (15, oGo 19), (18, oK (.int (nI 2)) 19), (19, oIret)]
def uX12_price : Nat → qP := q_tb lX12_price
set_option maxRecDepth 20000 in
theorem suX12_price : q_Snd mX12_price uX12_price := by
  refine q_tb_ok ?_
  unfold lX12_price
  refine q_fa (ok_iload_n (by decide +kernel : decode cX12_price 0 = .ok (.iload_n 0, 1)) rfl rfl) ?_
  refine q_fa (ok_iconst (by decide +kernel : decode cX12_price 1 = .ok (.iconst 1, 1)) rfl (by decide +kernel)) ?_
  refine q_fa (ok_if2ne (by decide +kernel : decode cX12_price 2 = .ok (.if_icmp .ne 7, 3)) (by decide) rfl) ?_
  refine q_fa (ok_iconst (by decide +kernel : decode cX12_price 5 = .ok (.iconst 3, 1)) rfl (by decide +kernel)) ?_
  refine q_fa (ok_goto (by decide +kernel : decode cX12_price 6 = .ok (.goto 13, 3)) (by decide)) ?_
  refine q_fa (ok_iload_n (by decide +kernel : decode cX12_price 9 = .ok (.iload_n 0, 1)) rfl rfl) ?_
  refine q_fa (ok_iconst (by decide +kernel : decode cX12_price 10 = .ok (.iconst 2, 1)) rfl (by decide +kernel)) ?_
  refine q_fa (ok_if2ne (by decide +kernel : decode cX12_price 11 = .ok (.if_icmp .ne 7, 3)) (by decide) rfl) ?_
  refine q_fa (ok_iconst (by decide +kernel : decode cX12_price 14 = .ok (.iconst 1, 1)) rfl (by decide +kernel)) ?_
  refine q_fa (ok_goto (by decide +kernel : decode cX12_price 15 = .ok (.goto 4, 3)) (by decide)) ?_
  refine q_fa (ok_iconst (by decide +kernel : decode cX12_price 18 = .ok (.iconst 2, 1)) rfl (by decide +kernel)) ?_
  refine q_fa (ok_iret (by decide +kernel : decode cX12_price 19 = .ok (.ireturn, 1)) rfl) ?_
  exact q_fa0
theorem exX12_price : ∃ t : Nat → qP, t = uX12_price := ⟨_, rfl⟩
noncomputable def tX12_price : Nat → qP := Classical.choose exX12_price
theorem teX12_price : tX12_price = uX12_price := Classical.choose_spec exX12_price
theorem sX12_price : q_Snd mX12_price tX12_price := by rw [teX12_price]; exact suX12_price
theorem tX12_price_0 : tX12_price 0 = oIl 0 1 := (congrFun teX12_price 0).trans rfl
theorem tX12_price_1 : tX12_price 1 = oK (.int (nI 1)) 2 := (congrFun teX12_price 1).trans rfl
theorem tX12_price_2 : tX12_price 2 = oIf2ne 9 5 := (congrFun teX12_price 2).trans rfl
theorem tX12_price_5 : tX12_price 5 = oK (.int (nI 3)) 6 := (congrFun teX12_price 5).trans rfl
theorem tX12_price_6 : tX12_price 6 = oGo 19 := (congrFun teX12_price 6).trans rfl
theorem tX12_price_9 : tX12_price 9 = oIl 0 10 := (congrFun teX12_price 9).trans rfl
theorem tX12_price_10 : tX12_price 10 = oK (.int (nI 2)) 11 := (congrFun teX12_price 10).trans rfl
theorem tX12_price_11 : tX12_price 11 = oIf2ne 18 14 := (congrFun teX12_price 11).trans rfl
theorem tX12_price_14 : tX12_price 14 = oK (.int (nI 1)) 15 := (congrFun teX12_price 14).trans rfl
theorem tX12_price_15 : tX12_price 15 = oGo 19 := (congrFun teX12_price 15).trans rfl
theorem tX12_price_18 : tX12_price 18 = oK (.int (nI 2)) 19 := (congrFun teX12_price 18).trans rfl
theorem tX12_price_19 : tX12_price 19 = oIret := (congrFun teX12_price 19).trans rfl
def lX12_lays : List (Nat × qP) := [(0, oAl 0 1), (1, oGet 12 3 4), (4, oIl 1 5), (5, oIl 2 6), (6, oIast 7), (7, oAl 0 8), (8, oGet 12 4 11), (11, oIl 1 12), (12, oIl 3 13), (13, oIast 14), (14, oAl 0 15), (15, oGet 12 5 18), (18, oIl 1 19), (19, oIl 4 21), (21, oIast 22), (22, oAl 0 23), (23, oGet 12 6 26), (26, oIl 1 27), (27, oIl 5 29), (29, oIast 30), (30, oAl 0 31), (31, oGet 12 7 34), (34, oIl 1 35), (35, oIl 2 36), (36, oCallS mX12_price 1 39), (39, oIl 4 41), (41, oIf1ge 48 44), (44, oK (.int (nI 0)) 45), (45, oGo 55), (48, oAl 0 49), (49, oGet 12 7 52), (52, oIl 4 54), (54, oIald 55), (55, oAdd 56), (56, oIl 5 58), (58, oIf1ge 65 61), (61, oK (.int (nI 0)) 62), (62, oGo 72), (65, oAl 0 66), (66, oGet 12 7 69), (69, oIl 5 71), (71, oIald 72), (72, oAdd 73), (73, oIast 74), (74, oAl 0 75), (75, oGet 12 8 78), (78, oIl 1 79), (79, oK (.int (nI 1)) 80), (80, oIl 4 82), (82, oIf1ge 89 85), (85, oK (.int (nI 0)) 86), (86, oGo 96), (89, oAl 0 90), (90, oGet 12 8 93), (93, oIl 4 95), (95, oIald 96), (96, oAdd 97), (97, oIl 5 99), (99, oIf1ge 106 102), (102, oK (.int (nI 0)) 103), (103, oGo 113), (106, oAl 0 107), (107, oGet 12 8 110), (110, oIl 5 112), (112, oIald 113), (113, oAdd 114), (114, oIast 115), (115, oAl 0 116), (116, oGet 12 9 119), (119, oIl 1 120), (120, oK (.int (nI 1)) 121), (121, oIl 2 122), (122, oShl 123), (123, oIl 4 125), (125, oIf1ge 132 128), (128, oK (.int (nI 0)) 129), (129, oGo 139), (132, oAl 0 133), (133, oGet 12 9 136), (136, oIl 4 138), (138, oIald 139), (139, oOr 140), (140, oIl 5 142), (142, oIf1ge 149 145), (145, oK (.int (nI 0)) 146), (146, oGo 156), (149, oAl 0 150), (150, oGet 12 9 153), (153, oIl 5 155), (155, oIald 156), (156, oOr 157), (157, oIast 158), (158, oVret)]
def uX12_lays : Nat → qP := q_tb lX12_lays
set_option maxRecDepth 20000 in
theorem suX12_lays : q_Snd mX12_lays uX12_lays := by
  refine q_tb_ok ?_
  unfold lX12_lays
  refine q_fa (ok_aload_n (by decide +kernel : decode cX12_lays 0 = .ok (.aload_n 0, 1)) rfl rfl) ?_
  refine q_fa (ok_get (by decide +kernel : decode cX12_lays 1 = .ok (.getfield 13, 3)) rfl (rfl : vwCl[12]? = some (RX12, TX12, 58)) inX12 (by decide) g1007) ?_
  refine q_fa (ok_iload_n (by decide +kernel : decode cX12_lays 4 = .ok (.iload_n 1, 1)) rfl rfl) ?_
  refine q_fa (ok_iload_n (by decide +kernel : decode cX12_lays 5 = .ok (.iload_n 2, 1)) rfl rfl) ?_
  refine q_fa (ok_iastore (by decide +kernel : decode cX12_lays 6 = .ok (.iastore, 1)) rfl) ?_
  refine q_fa (ok_aload_n (by decide +kernel : decode cX12_lays 7 = .ok (.aload_n 0, 1)) rfl rfl) ?_
  refine q_fa (ok_get (by decide +kernel : decode cX12_lays 8 = .ok (.getfield 16, 3)) rfl (rfl : vwCl[12]? = some (RX12, TX12, 58)) inX12 (by decide) g1008) ?_
  refine q_fa (ok_iload_n (by decide +kernel : decode cX12_lays 11 = .ok (.iload_n 1, 1)) rfl rfl) ?_
  refine q_fa (ok_iload_n (by decide +kernel : decode cX12_lays 12 = .ok (.iload_n 3, 1)) rfl rfl) ?_
  refine q_fa (ok_iastore (by decide +kernel : decode cX12_lays 13 = .ok (.iastore, 1)) rfl) ?_
  refine q_fa (ok_aload_n (by decide +kernel : decode cX12_lays 14 = .ok (.aload_n 0, 1)) rfl rfl) ?_
  refine q_fa (ok_get (by decide +kernel : decode cX12_lays 15 = .ok (.getfield 19, 3)) rfl (rfl : vwCl[12]? = some (RX12, TX12, 58)) inX12 (by decide) g1009) ?_
  refine q_fa (ok_iload_n (by decide +kernel : decode cX12_lays 18 = .ok (.iload_n 1, 1)) rfl rfl) ?_
  refine q_fa (ok_iload (by decide +kernel : decode cX12_lays 19 = .ok (.iload 4, 2)) rfl) ?_
  refine q_fa (ok_iastore (by decide +kernel : decode cX12_lays 21 = .ok (.iastore, 1)) rfl) ?_
  refine q_fa (ok_aload_n (by decide +kernel : decode cX12_lays 22 = .ok (.aload_n 0, 1)) rfl rfl) ?_
  refine q_fa (ok_get (by decide +kernel : decode cX12_lays 23 = .ok (.getfield 22, 3)) rfl (rfl : vwCl[12]? = some (RX12, TX12, 58)) inX12 (by decide) g1010) ?_
  refine q_fa (ok_iload_n (by decide +kernel : decode cX12_lays 26 = .ok (.iload_n 1, 1)) rfl rfl) ?_
  refine q_fa (ok_iload (by decide +kernel : decode cX12_lays 27 = .ok (.iload 5, 2)) rfl) ?_
  refine q_fa (ok_iastore (by decide +kernel : decode cX12_lays 29 = .ok (.iastore, 1)) rfl) ?_
  refine q_fa (ok_aload_n (by decide +kernel : decode cX12_lays 30 = .ok (.aload_n 0, 1)) rfl rfl) ?_
  refine q_fa (ok_get (by decide +kernel : decode cX12_lays 31 = .ok (.getfield 25, 3)) rfl (rfl : vwCl[12]? = some (RX12, TX12, 58)) inX12 (by decide) g1011) ?_
  refine q_fa (ok_iload_n (by decide +kernel : decode cX12_lays 34 = .ok (.iload_n 1, 1)) rfl rfl) ?_
  refine q_fa (ok_iload_n (by decide +kernel : decode cX12_lays 35 = .ok (.iload_n 2, 1)) rfl rfl) ?_
  refine q_fa (ok_callS (by decide +kernel : decode cX12_lays 36 = .ok (.invokestatic 138, 3)) rfl kX12_price.1 kX12_price.2.1 kX12_price.2.2.1 kX12_price.2.2.2.1 kX12_price.2.2.2.2 g1223 g1222) ?_
  refine q_fa (ok_iload (by decide +kernel : decode cX12_lays 39 = .ok (.iload 4, 2)) rfl) ?_
  refine q_fa (ok_if1ge (by decide +kernel : decode cX12_lays 41 = .ok (.ifCond .ge 7, 3)) (by decide) rfl) ?_
  refine q_fa (ok_iconst (by decide +kernel : decode cX12_lays 44 = .ok (.iconst 0, 1)) rfl (by decide +kernel)) ?_
  refine q_fa (ok_goto (by decide +kernel : decode cX12_lays 45 = .ok (.goto 10, 3)) (by decide)) ?_
  refine q_fa (ok_aload_n (by decide +kernel : decode cX12_lays 48 = .ok (.aload_n 0, 1)) rfl rfl) ?_
  refine q_fa (ok_get (by decide +kernel : decode cX12_lays 49 = .ok (.getfield 25, 3)) rfl (rfl : vwCl[12]? = some (RX12, TX12, 58)) inX12 (by decide) g1011) ?_
  refine q_fa (ok_iload (by decide +kernel : decode cX12_lays 52 = .ok (.iload 4, 2)) rfl) ?_
  refine q_fa (ok_iaload (by decide +kernel : decode cX12_lays 54 = .ok (.iaload, 1)) rfl) ?_
  refine q_fa (ok_iadd (by decide +kernel : decode cX12_lays 55 = .ok (.iadd, 1)) rfl) ?_
  refine q_fa (ok_iload (by decide +kernel : decode cX12_lays 56 = .ok (.iload 5, 2)) rfl) ?_
  refine q_fa (ok_if1ge (by decide +kernel : decode cX12_lays 58 = .ok (.ifCond .ge 7, 3)) (by decide) rfl) ?_
  refine q_fa (ok_iconst (by decide +kernel : decode cX12_lays 61 = .ok (.iconst 0, 1)) rfl (by decide +kernel)) ?_
  refine q_fa (ok_goto (by decide +kernel : decode cX12_lays 62 = .ok (.goto 10, 3)) (by decide)) ?_
  refine q_fa (ok_aload_n (by decide +kernel : decode cX12_lays 65 = .ok (.aload_n 0, 1)) rfl rfl) ?_
  refine q_fa (ok_get (by decide +kernel : decode cX12_lays 66 = .ok (.getfield 25, 3)) rfl (rfl : vwCl[12]? = some (RX12, TX12, 58)) inX12 (by decide) g1011) ?_
  refine q_fa (ok_iload (by decide +kernel : decode cX12_lays 69 = .ok (.iload 5, 2)) rfl) ?_
  refine q_fa (ok_iaload (by decide +kernel : decode cX12_lays 71 = .ok (.iaload, 1)) rfl) ?_
  refine q_fa (ok_iadd (by decide +kernel : decode cX12_lays 72 = .ok (.iadd, 1)) rfl) ?_
  refine q_fa (ok_iastore (by decide +kernel : decode cX12_lays 73 = .ok (.iastore, 1)) rfl) ?_
  refine q_fa (ok_aload_n (by decide +kernel : decode cX12_lays 74 = .ok (.aload_n 0, 1)) rfl rfl) ?_
  refine q_fa (ok_get (by decide +kernel : decode cX12_lays 75 = .ok (.getfield 28, 3)) rfl (rfl : vwCl[12]? = some (RX12, TX12, 58)) inX12 (by decide) g1012) ?_
  refine q_fa (ok_iload_n (by decide +kernel : decode cX12_lays 78 = .ok (.iload_n 1, 1)) rfl rfl) ?_
  refine q_fa (ok_iconst (by decide +kernel : decode cX12_lays 79 = .ok (.iconst 1, 1)) rfl (by decide +kernel)) ?_
  refine q_fa (ok_iload (by decide +kernel : decode cX12_lays 80 = .ok (.iload 4, 2)) rfl) ?_
  refine q_fa (ok_if1ge (by decide +kernel : decode cX12_lays 82 = .ok (.ifCond .ge 7, 3)) (by decide) rfl) ?_
  refine q_fa (ok_iconst (by decide +kernel : decode cX12_lays 85 = .ok (.iconst 0, 1)) rfl (by decide +kernel)) ?_
  refine q_fa (ok_goto (by decide +kernel : decode cX12_lays 86 = .ok (.goto 10, 3)) (by decide)) ?_
  refine q_fa (ok_aload_n (by decide +kernel : decode cX12_lays 89 = .ok (.aload_n 0, 1)) rfl rfl) ?_
  refine q_fa (ok_get (by decide +kernel : decode cX12_lays 90 = .ok (.getfield 28, 3)) rfl (rfl : vwCl[12]? = some (RX12, TX12, 58)) inX12 (by decide) g1012) ?_
  refine q_fa (ok_iload (by decide +kernel : decode cX12_lays 93 = .ok (.iload 4, 2)) rfl) ?_
  refine q_fa (ok_iaload (by decide +kernel : decode cX12_lays 95 = .ok (.iaload, 1)) rfl) ?_
  refine q_fa (ok_iadd (by decide +kernel : decode cX12_lays 96 = .ok (.iadd, 1)) rfl) ?_
  refine q_fa (ok_iload (by decide +kernel : decode cX12_lays 97 = .ok (.iload 5, 2)) rfl) ?_
  refine q_fa (ok_if1ge (by decide +kernel : decode cX12_lays 99 = .ok (.ifCond .ge 7, 3)) (by decide) rfl) ?_
  refine q_fa (ok_iconst (by decide +kernel : decode cX12_lays 102 = .ok (.iconst 0, 1)) rfl (by decide +kernel)) ?_
  refine q_fa (ok_goto (by decide +kernel : decode cX12_lays 103 = .ok (.goto 10, 3)) (by decide)) ?_
  refine q_fa (ok_aload_n (by decide +kernel : decode cX12_lays 106 = .ok (.aload_n 0, 1)) rfl rfl) ?_
  refine q_fa (ok_get (by decide +kernel : decode cX12_lays 107 = .ok (.getfield 28, 3)) rfl (rfl : vwCl[12]? = some (RX12, TX12, 58)) inX12 (by decide) g1012) ?_
  refine q_fa (ok_iload (by decide +kernel : decode cX12_lays 110 = .ok (.iload 5, 2)) rfl) ?_
  refine q_fa (ok_iaload (by decide +kernel : decode cX12_lays 112 = .ok (.iaload, 1)) rfl) ?_
  refine q_fa (ok_iadd (by decide +kernel : decode cX12_lays 113 = .ok (.iadd, 1)) rfl) ?_
  refine q_fa (ok_iastore (by decide +kernel : decode cX12_lays 114 = .ok (.iastore, 1)) rfl) ?_
  refine q_fa (ok_aload_n (by decide +kernel : decode cX12_lays 115 = .ok (.aload_n 0, 1)) rfl rfl) ?_
  refine q_fa (ok_get (by decide +kernel : decode cX12_lays 116 = .ok (.getfield 31, 3)) rfl (rfl : vwCl[12]? = some (RX12, TX12, 58)) inX12 (by decide) g1013) ?_
  refine q_fa (ok_iload_n (by decide +kernel : decode cX12_lays 119 = .ok (.iload_n 1, 1)) rfl rfl) ?_
  refine q_fa (ok_iconst (by decide +kernel : decode cX12_lays 120 = .ok (.iconst 1, 1)) rfl (by decide +kernel)) ?_
  refine q_fa (ok_iload_n (by decide +kernel : decode cX12_lays 121 = .ok (.iload_n 2, 1)) rfl rfl) ?_
  refine q_fa (ok_ishl (by decide +kernel : decode cX12_lays 122 = .ok (.ishl, 1)) rfl) ?_
  refine q_fa (ok_iload (by decide +kernel : decode cX12_lays 123 = .ok (.iload 4, 2)) rfl) ?_
  refine q_fa (ok_if1ge (by decide +kernel : decode cX12_lays 125 = .ok (.ifCond .ge 7, 3)) (by decide) rfl) ?_
  refine q_fa (ok_iconst (by decide +kernel : decode cX12_lays 128 = .ok (.iconst 0, 1)) rfl (by decide +kernel)) ?_
  refine q_fa (ok_goto (by decide +kernel : decode cX12_lays 129 = .ok (.goto 10, 3)) (by decide)) ?_
  refine q_fa (ok_aload_n (by decide +kernel : decode cX12_lays 132 = .ok (.aload_n 0, 1)) rfl rfl) ?_
  refine q_fa (ok_get (by decide +kernel : decode cX12_lays 133 = .ok (.getfield 31, 3)) rfl (rfl : vwCl[12]? = some (RX12, TX12, 58)) inX12 (by decide) g1013) ?_
  refine q_fa (ok_iload (by decide +kernel : decode cX12_lays 136 = .ok (.iload 4, 2)) rfl) ?_
  refine q_fa (ok_iaload (by decide +kernel : decode cX12_lays 138 = .ok (.iaload, 1)) rfl) ?_
  refine q_fa (ok_ior (by decide +kernel : decode cX12_lays 139 = .ok (.ior, 1)) rfl) ?_
  refine q_fa (ok_iload (by decide +kernel : decode cX12_lays 140 = .ok (.iload 5, 2)) rfl) ?_
  refine q_fa (ok_if1ge (by decide +kernel : decode cX12_lays 142 = .ok (.ifCond .ge 7, 3)) (by decide) rfl) ?_
  refine q_fa (ok_iconst (by decide +kernel : decode cX12_lays 145 = .ok (.iconst 0, 1)) rfl (by decide +kernel)) ?_
  refine q_fa (ok_goto (by decide +kernel : decode cX12_lays 146 = .ok (.goto 10, 3)) (by decide)) ?_
  refine q_fa (ok_aload_n (by decide +kernel : decode cX12_lays 149 = .ok (.aload_n 0, 1)) rfl rfl) ?_
  refine q_fa (ok_get (by decide +kernel : decode cX12_lays 150 = .ok (.getfield 31, 3)) rfl (rfl : vwCl[12]? = some (RX12, TX12, 58)) inX12 (by decide) g1013) ?_
  refine q_fa (ok_iload (by decide +kernel : decode cX12_lays 153 = .ok (.iload 5, 2)) rfl) ?_
  refine q_fa (ok_iaload (by decide +kernel : decode cX12_lays 155 = .ok (.iaload, 1)) rfl) ?_
  refine q_fa (ok_ior (by decide +kernel : decode cX12_lays 156 = .ok (.ior, 1)) rfl) ?_
  refine q_fa (ok_iastore (by decide +kernel : decode cX12_lays 157 = .ok (.iastore, 1)) rfl) ?_
  refine q_fa (ok_vret (by decide +kernel : decode cX12_lays 158 = .ok (.return_, 1)) rfl) ?_
  exact q_fa0
theorem exX12_lays : ∃ t : Nat → qP, t = uX12_lays := ⟨_, rfl⟩
noncomputable def tX12_lays : Nat → qP := Classical.choose exX12_lays
theorem teX12_lays : tX12_lays = uX12_lays := Classical.choose_spec exX12_lays
theorem sX12_lays : q_Snd mX12_lays tX12_lays := by rw [teX12_lays]; exact suX12_lays
theorem tX12_lays_0 : tX12_lays 0 = oAl 0 1 := (congrFun teX12_lays 0).trans rfl
theorem tX12_lays_1 : tX12_lays 1 = oGet 12 3 4 := (congrFun teX12_lays 1).trans rfl
theorem tX12_lays_4 : tX12_lays 4 = oIl 1 5 := (congrFun teX12_lays 4).trans rfl
theorem tX12_lays_5 : tX12_lays 5 = oIl 2 6 := (congrFun teX12_lays 5).trans rfl
theorem tX12_lays_6 : tX12_lays 6 = oIast 7 := (congrFun teX12_lays 6).trans rfl
theorem tX12_lays_7 : tX12_lays 7 = oAl 0 8 := (congrFun teX12_lays 7).trans rfl
theorem tX12_lays_8 : tX12_lays 8 = oGet 12 4 11 := (congrFun teX12_lays 8).trans rfl
theorem tX12_lays_11 : tX12_lays 11 = oIl 1 12 := (congrFun teX12_lays 11).trans rfl
theorem tX12_lays_12 : tX12_lays 12 = oIl 3 13 := (congrFun teX12_lays 12).trans rfl
theorem tX12_lays_13 : tX12_lays 13 = oIast 14 := (congrFun teX12_lays 13).trans rfl
theorem tX12_lays_14 : tX12_lays 14 = oAl 0 15 := (congrFun teX12_lays 14).trans rfl
theorem tX12_lays_15 : tX12_lays 15 = oGet 12 5 18 := (congrFun teX12_lays 15).trans rfl
theorem tX12_lays_18 : tX12_lays 18 = oIl 1 19 := (congrFun teX12_lays 18).trans rfl
theorem tX12_lays_19 : tX12_lays 19 = oIl 4 21 := (congrFun teX12_lays 19).trans rfl
theorem tX12_lays_21 : tX12_lays 21 = oIast 22 := (congrFun teX12_lays 21).trans rfl
theorem tX12_lays_22 : tX12_lays 22 = oAl 0 23 := (congrFun teX12_lays 22).trans rfl
theorem tX12_lays_23 : tX12_lays 23 = oGet 12 6 26 := (congrFun teX12_lays 23).trans rfl
theorem tX12_lays_26 : tX12_lays 26 = oIl 1 27 := (congrFun teX12_lays 26).trans rfl
theorem tX12_lays_27 : tX12_lays 27 = oIl 5 29 := (congrFun teX12_lays 27).trans rfl
theorem tX12_lays_29 : tX12_lays 29 = oIast 30 := (congrFun teX12_lays 29).trans rfl
theorem tX12_lays_30 : tX12_lays 30 = oAl 0 31 := (congrFun teX12_lays 30).trans rfl
theorem tX12_lays_31 : tX12_lays 31 = oGet 12 7 34 := (congrFun teX12_lays 31).trans rfl
theorem tX12_lays_34 : tX12_lays 34 = oIl 1 35 := (congrFun teX12_lays 34).trans rfl
theorem tX12_lays_35 : tX12_lays 35 = oIl 2 36 := (congrFun teX12_lays 35).trans rfl
theorem tX12_lays_36 : tX12_lays 36 = oCallS mX12_price 1 39 := (congrFun teX12_lays 36).trans rfl
theorem tX12_lays_39 : tX12_lays 39 = oIl 4 41 := (congrFun teX12_lays 39).trans rfl
theorem tX12_lays_41 : tX12_lays 41 = oIf1ge 48 44 := (congrFun teX12_lays 41).trans rfl
theorem tX12_lays_44 : tX12_lays 44 = oK (.int (nI 0)) 45 := (congrFun teX12_lays 44).trans rfl
theorem tX12_lays_45 : tX12_lays 45 = oGo 55 := (congrFun teX12_lays 45).trans rfl
theorem tX12_lays_48 : tX12_lays 48 = oAl 0 49 := (congrFun teX12_lays 48).trans rfl
theorem tX12_lays_49 : tX12_lays 49 = oGet 12 7 52 := (congrFun teX12_lays 49).trans rfl
theorem tX12_lays_52 : tX12_lays 52 = oIl 4 54 := (congrFun teX12_lays 52).trans rfl
theorem tX12_lays_54 : tX12_lays 54 = oIald 55 := (congrFun teX12_lays 54).trans rfl
theorem tX12_lays_55 : tX12_lays 55 = oAdd 56 := (congrFun teX12_lays 55).trans rfl
theorem tX12_lays_56 : tX12_lays 56 = oIl 5 58 := (congrFun teX12_lays 56).trans rfl
theorem tX12_lays_58 : tX12_lays 58 = oIf1ge 65 61 := (congrFun teX12_lays 58).trans rfl
theorem tX12_lays_61 : tX12_lays 61 = oK (.int (nI 0)) 62 := (congrFun teX12_lays 61).trans rfl
theorem tX12_lays_62 : tX12_lays 62 = oGo 72 := (congrFun teX12_lays 62).trans rfl
theorem tX12_lays_65 : tX12_lays 65 = oAl 0 66 := (congrFun teX12_lays 65).trans rfl
theorem tX12_lays_66 : tX12_lays 66 = oGet 12 7 69 := (congrFun teX12_lays 66).trans rfl
theorem tX12_lays_69 : tX12_lays 69 = oIl 5 71 := (congrFun teX12_lays 69).trans rfl
theorem tX12_lays_71 : tX12_lays 71 = oIald 72 := (congrFun teX12_lays 71).trans rfl
theorem tX12_lays_72 : tX12_lays 72 = oAdd 73 := (congrFun teX12_lays 72).trans rfl
theorem tX12_lays_73 : tX12_lays 73 = oIast 74 := (congrFun teX12_lays 73).trans rfl
theorem tX12_lays_74 : tX12_lays 74 = oAl 0 75 := (congrFun teX12_lays 74).trans rfl
theorem tX12_lays_75 : tX12_lays 75 = oGet 12 8 78 := (congrFun teX12_lays 75).trans rfl
theorem tX12_lays_78 : tX12_lays 78 = oIl 1 79 := (congrFun teX12_lays 78).trans rfl
theorem tX12_lays_79 : tX12_lays 79 = oK (.int (nI 1)) 80 := (congrFun teX12_lays 79).trans rfl
theorem tX12_lays_80 : tX12_lays 80 = oIl 4 82 := (congrFun teX12_lays 80).trans rfl
theorem tX12_lays_82 : tX12_lays 82 = oIf1ge 89 85 := (congrFun teX12_lays 82).trans rfl
theorem tX12_lays_85 : tX12_lays 85 = oK (.int (nI 0)) 86 := (congrFun teX12_lays 85).trans rfl
theorem tX12_lays_86 : tX12_lays 86 = oGo 96 := (congrFun teX12_lays 86).trans rfl
theorem tX12_lays_89 : tX12_lays 89 = oAl 0 90 := (congrFun teX12_lays 89).trans rfl
theorem tX12_lays_90 : tX12_lays 90 = oGet 12 8 93 := (congrFun teX12_lays 90).trans rfl
theorem tX12_lays_93 : tX12_lays 93 = oIl 4 95 := (congrFun teX12_lays 93).trans rfl
theorem tX12_lays_95 : tX12_lays 95 = oIald 96 := (congrFun teX12_lays 95).trans rfl
theorem tX12_lays_96 : tX12_lays 96 = oAdd 97 := (congrFun teX12_lays 96).trans rfl
theorem tX12_lays_97 : tX12_lays 97 = oIl 5 99 := (congrFun teX12_lays 97).trans rfl
theorem tX12_lays_99 : tX12_lays 99 = oIf1ge 106 102 := (congrFun teX12_lays 99).trans rfl
theorem tX12_lays_102 : tX12_lays 102 = oK (.int (nI 0)) 103 := (congrFun teX12_lays 102).trans rfl
theorem tX12_lays_103 : tX12_lays 103 = oGo 113 := (congrFun teX12_lays 103).trans rfl
theorem tX12_lays_106 : tX12_lays 106 = oAl 0 107 := (congrFun teX12_lays 106).trans rfl
theorem tX12_lays_107 : tX12_lays 107 = oGet 12 8 110 := (congrFun teX12_lays 107).trans rfl
theorem tX12_lays_110 : tX12_lays 110 = oIl 5 112 := (congrFun teX12_lays 110).trans rfl
theorem tX12_lays_112 : tX12_lays 112 = oIald 113 := (congrFun teX12_lays 112).trans rfl
theorem tX12_lays_113 : tX12_lays 113 = oAdd 114 := (congrFun teX12_lays 113).trans rfl
theorem tX12_lays_114 : tX12_lays 114 = oIast 115 := (congrFun teX12_lays 114).trans rfl
theorem tX12_lays_115 : tX12_lays 115 = oAl 0 116 := (congrFun teX12_lays 115).trans rfl
theorem tX12_lays_116 : tX12_lays 116 = oGet 12 9 119 := (congrFun teX12_lays 116).trans rfl
theorem tX12_lays_119 : tX12_lays 119 = oIl 1 120 := (congrFun teX12_lays 119).trans rfl
theorem tX12_lays_120 : tX12_lays 120 = oK (.int (nI 1)) 121 := (congrFun teX12_lays 120).trans rfl
theorem tX12_lays_121 : tX12_lays 121 = oIl 2 122 := (congrFun teX12_lays 121).trans rfl
theorem tX12_lays_122 : tX12_lays 122 = oShl 123 := (congrFun teX12_lays 122).trans rfl
theorem tX12_lays_123 : tX12_lays 123 = oIl 4 125 := (congrFun teX12_lays 123).trans rfl
theorem tX12_lays_125 : tX12_lays 125 = oIf1ge 132 128 := (congrFun teX12_lays 125).trans rfl
theorem tX12_lays_128 : tX12_lays 128 = oK (.int (nI 0)) 129 := (congrFun teX12_lays 128).trans rfl
theorem tX12_lays_129 : tX12_lays 129 = oGo 139 := (congrFun teX12_lays 129).trans rfl
theorem tX12_lays_132 : tX12_lays 132 = oAl 0 133 := (congrFun teX12_lays 132).trans rfl
theorem tX12_lays_133 : tX12_lays 133 = oGet 12 9 136 := (congrFun teX12_lays 133).trans rfl
theorem tX12_lays_136 : tX12_lays 136 = oIl 4 138 := (congrFun teX12_lays 136).trans rfl
theorem tX12_lays_138 : tX12_lays 138 = oIald 139 := (congrFun teX12_lays 138).trans rfl
theorem tX12_lays_139 : tX12_lays 139 = oOr 140 := (congrFun teX12_lays 139).trans rfl
theorem tX12_lays_140 : tX12_lays 140 = oIl 5 142 := (congrFun teX12_lays 140).trans rfl
theorem tX12_lays_142 : tX12_lays 142 = oIf1ge 149 145 := (congrFun teX12_lays 142).trans rfl
theorem tX12_lays_145 : tX12_lays 145 = oK (.int (nI 0)) 146 := (congrFun teX12_lays 145).trans rfl
theorem tX12_lays_146 : tX12_lays 146 = oGo 156 := (congrFun teX12_lays 146).trans rfl
theorem tX12_lays_149 : tX12_lays 149 = oAl 0 150 := (congrFun teX12_lays 149).trans rfl
theorem tX12_lays_150 : tX12_lays 150 = oGet 12 9 153 := (congrFun teX12_lays 150).trans rfl
theorem tX12_lays_153 : tX12_lays 153 = oIl 5 155 := (congrFun teX12_lays 153).trans rfl
theorem tX12_lays_155 : tX12_lays 155 = oIald 156 := (congrFun teX12_lays 155).trans rfl
theorem tX12_lays_156 : tX12_lays 156 = oOr 157 := (congrFun teX12_lays 156).trans rfl
theorem tX12_lays_157 : tX12_lays 157 = oIast 158 := (congrFun teX12_lays 157).trans rfl
theorem tX12_lays_158 : tX12_lays 158 = oVret := (congrFun teX12_lays 158).trans rfl
def lX12_make : List (Nat × qP) := [(0, oAl 0 1), (1, oAl 0 2), (2, oGet 12 10 5), (5, oIl 1 6), (6, oIl 2 7), (7, oIl 3 8), (8, oIl 4 10), (10, oCallV 12 mX12_lays 5 13), (13, oAl 0 14), (14, oDup 15), (15, oGet 12 10 18), (18, oK (.int (nI 1)) 19), (19, oAdd 20), (20, oPutI 12 10 23), (23, oAl 0 24), (24, oGet 12 10 27), (27, oK (.int (nI 1)) 28), (28, oSub 29), (29, oIret)]
def uX12_make : Nat → qP := q_tb lX12_make
set_option maxRecDepth 20000 in
theorem suX12_make : q_Snd mX12_make uX12_make := by
  refine q_tb_ok ?_
  unfold lX12_make
  refine q_fa (ok_aload_n (by decide +kernel : decode cX12_make 0 = .ok (.aload_n 0, 1)) rfl rfl) ?_
  refine q_fa (ok_aload_n (by decide +kernel : decode cX12_make 1 = .ok (.aload_n 0, 1)) rfl rfl) ?_
  refine q_fa (ok_get (by decide +kernel : decode cX12_make 2 = .ok (.getfield 34, 3)) rfl (rfl : vwCl[12]? = some (RX12, TX12, 58)) inX12 (by decide) g1014) ?_
  refine q_fa (ok_iload_n (by decide +kernel : decode cX12_make 5 = .ok (.iload_n 1, 1)) rfl rfl) ?_
  refine q_fa (ok_iload_n (by decide +kernel : decode cX12_make 6 = .ok (.iload_n 2, 1)) rfl rfl) ?_
  refine q_fa (ok_iload_n (by decide +kernel : decode cX12_make 7 = .ok (.iload_n 3, 1)) rfl rfl) ?_
  refine q_fa (ok_iload (by decide +kernel : decode cX12_make 8 = .ok (.iload 4, 2)) rfl) ?_
  refine q_fa (ok_callV (by decide +kernel : decode cX12_make 10 = .ok (.invokevirtual 142, 3)) rfl kX12_lays.1 kX12_lays.2.1 kX12_lays.2.2.1 kX12_lays.2.2.2.1 kX12_lays.2.2.2.2 (rfl : vwCl[12]? = some (RX12, TX12, 58)) g1220 gs53 g1218) ?_
  refine q_fa (ok_aload_n (by decide +kernel : decode cX12_make 13 = .ok (.aload_n 0, 1)) rfl rfl) ?_
  refine q_fa (ok_dup (by decide +kernel : decode cX12_make 14 = .ok (.dup, 1)) rfl) ?_
  refine q_fa (ok_get (by decide +kernel : decode cX12_make 15 = .ok (.getfield 34, 3)) rfl (rfl : vwCl[12]? = some (RX12, TX12, 58)) inX12 (by decide) g1014) ?_
  refine q_fa (ok_iconst (by decide +kernel : decode cX12_make 18 = .ok (.iconst 1, 1)) rfl (by decide +kernel)) ?_
  refine q_fa (ok_iadd (by decide +kernel : decode cX12_make 19 = .ok (.iadd, 1)) rfl) ?_
  refine q_fa (ok_putI tyX12 (by decide +kernel : decode cX12_make 20 = .ok (.putfield 34, 3)) rfl (rfl : vwCl[12]? = some (RX12, TX12, 58)) inX12 tyX12_ok nmX12 (by decide) g1014 (Or.inl rfl) (by decide +kernel)) ?_
  refine q_fa (ok_aload_n (by decide +kernel : decode cX12_make 23 = .ok (.aload_n 0, 1)) rfl rfl) ?_
  refine q_fa (ok_get (by decide +kernel : decode cX12_make 24 = .ok (.getfield 34, 3)) rfl (rfl : vwCl[12]? = some (RX12, TX12, 58)) inX12 (by decide) g1014) ?_
  refine q_fa (ok_iconst (by decide +kernel : decode cX12_make 27 = .ok (.iconst 1, 1)) rfl (by decide +kernel)) ?_
  refine q_fa (ok_isub (by decide +kernel : decode cX12_make 28 = .ok (.isub, 1)) rfl) ?_
  refine q_fa (ok_iret (by decide +kernel : decode cX12_make 29 = .ok (.ireturn, 1)) rfl) ?_
  exact q_fa0
theorem exX12_make : ∃ t : Nat → qP, t = uX12_make := ⟨_, rfl⟩
noncomputable def tX12_make : Nat → qP := Classical.choose exX12_make
theorem teX12_make : tX12_make = uX12_make := Classical.choose_spec exX12_make
theorem sX12_make : q_Snd mX12_make tX12_make := by rw [teX12_make]; exact suX12_make
theorem tX12_make_0 : tX12_make 0 = oAl 0 1 := (congrFun teX12_make 0).trans rfl
theorem tX12_make_1 : tX12_make 1 = oAl 0 2 := (congrFun teX12_make 1).trans rfl
theorem tX12_make_2 : tX12_make 2 = oGet 12 10 5 := (congrFun teX12_make 2).trans rfl
theorem tX12_make_5 : tX12_make 5 = oIl 1 6 := (congrFun teX12_make 5).trans rfl
theorem tX12_make_6 : tX12_make 6 = oIl 2 7 := (congrFun teX12_make 6).trans rfl
theorem tX12_make_7 : tX12_make 7 = oIl 3 8 := (congrFun teX12_make 7).trans rfl
theorem tX12_make_8 : tX12_make 8 = oIl 4 10 := (congrFun teX12_make 8).trans rfl
theorem tX12_make_10 : tX12_make 10 = oCallV 12 mX12_lays 5 13 := (congrFun teX12_make 10).trans rfl
theorem tX12_make_13 : tX12_make 13 = oAl 0 14 := (congrFun teX12_make 13).trans rfl
theorem tX12_make_14 : tX12_make 14 = oDup 15 := (congrFun teX12_make 14).trans rfl
theorem tX12_make_15 : tX12_make 15 = oGet 12 10 18 := (congrFun teX12_make 15).trans rfl
theorem tX12_make_18 : tX12_make 18 = oK (.int (nI 1)) 19 := (congrFun teX12_make 18).trans rfl
theorem tX12_make_19 : tX12_make 19 = oAdd 20 := (congrFun teX12_make 19).trans rfl
theorem tX12_make_20 : tX12_make 20 = oPutI 12 10 23 := (congrFun teX12_make 20).trans rfl
theorem tX12_make_23 : tX12_make 23 = oAl 0 24 := (congrFun teX12_make 23).trans rfl
theorem tX12_make_24 : tX12_make 24 = oGet 12 10 27 := (congrFun teX12_make 24).trans rfl
theorem tX12_make_27 : tX12_make 27 = oK (.int (nI 1)) 28 := (congrFun teX12_make 27).trans rfl
theorem tX12_make_28 : tX12_make 28 = oSub 29 := (congrFun teX12_make 28).trans rfl
theorem tX12_make_29 : tX12_make 29 = oIret := (congrFun teX12_make 29).trans rfl
def lX12_add : List (Nat × qP) := [(0, oAl 0 1), (1, oAl 0 2), (2, oGet 12 11 5), (5, oIl 1 6), (6, oIl 2 7), (7, oIl 3 8), (8, oIl 4 10), (10, oCallV 12 mX12_lays 5 13), (13, oAl 0 14), (14, oDup 15), (15, oGet 12 11 18), (18, oK (.int (nI 1)) 19), (19, oAdd 20), (20, oPutI 12 11 23), (23, oVret)]
def uX12_add : Nat → qP := q_tb lX12_add
set_option maxRecDepth 20000 in
theorem suX12_add : q_Snd mX12_add uX12_add := by
  refine q_tb_ok ?_
  unfold lX12_add
  refine q_fa (ok_aload_n (by decide +kernel : decode cX12_add 0 = .ok (.aload_n 0, 1)) rfl rfl) ?_
  refine q_fa (ok_aload_n (by decide +kernel : decode cX12_add 1 = .ok (.aload_n 0, 1)) rfl rfl) ?_
  refine q_fa (ok_get (by decide +kernel : decode cX12_add 2 = .ok (.getfield 146, 3)) rfl (rfl : vwCl[12]? = some (RX12, TX12, 58)) inX12 (by decide) g1015) ?_
  refine q_fa (ok_iload_n (by decide +kernel : decode cX12_add 5 = .ok (.iload_n 1, 1)) rfl rfl) ?_
  refine q_fa (ok_iload_n (by decide +kernel : decode cX12_add 6 = .ok (.iload_n 2, 1)) rfl rfl) ?_
  refine q_fa (ok_iload_n (by decide +kernel : decode cX12_add 7 = .ok (.iload_n 3, 1)) rfl rfl) ?_
  refine q_fa (ok_iload (by decide +kernel : decode cX12_add 8 = .ok (.iload 4, 2)) rfl) ?_
  refine q_fa (ok_callV (by decide +kernel : decode cX12_add 10 = .ok (.invokevirtual 142, 3)) rfl kX12_lays.1 kX12_lays.2.1 kX12_lays.2.2.1 kX12_lays.2.2.2.1 kX12_lays.2.2.2.2 (rfl : vwCl[12]? = some (RX12, TX12, 58)) g1220 gs53 g1218) ?_
  refine q_fa (ok_aload_n (by decide +kernel : decode cX12_add 13 = .ok (.aload_n 0, 1)) rfl rfl) ?_
  refine q_fa (ok_dup (by decide +kernel : decode cX12_add 14 = .ok (.dup, 1)) rfl) ?_
  refine q_fa (ok_get (by decide +kernel : decode cX12_add 15 = .ok (.getfield 146, 3)) rfl (rfl : vwCl[12]? = some (RX12, TX12, 58)) inX12 (by decide) g1015) ?_
  refine q_fa (ok_iconst (by decide +kernel : decode cX12_add 18 = .ok (.iconst 1, 1)) rfl (by decide +kernel)) ?_
  refine q_fa (ok_iadd (by decide +kernel : decode cX12_add 19 = .ok (.iadd, 1)) rfl) ?_
  refine q_fa (ok_putI tyX12 (by decide +kernel : decode cX12_add 20 = .ok (.putfield 146, 3)) rfl (rfl : vwCl[12]? = some (RX12, TX12, 58)) inX12 tyX12_ok nmX12 (by decide) g1015 (Or.inl rfl) (by decide +kernel)) ?_
  refine q_fa (ok_vret (by decide +kernel : decode cX12_add 23 = .ok (.return_, 1)) rfl) ?_
  exact q_fa0
theorem exX12_add : ∃ t : Nat → qP, t = uX12_add := ⟨_, rfl⟩
noncomputable def tX12_add : Nat → qP := Classical.choose exX12_add
theorem teX12_add : tX12_add = uX12_add := Classical.choose_spec exX12_add
theorem sX12_add : q_Snd mX12_add tX12_add := by rw [teX12_add]; exact suX12_add
theorem tX12_add_0 : tX12_add 0 = oAl 0 1 := (congrFun teX12_add 0).trans rfl
theorem tX12_add_1 : tX12_add 1 = oAl 0 2 := (congrFun teX12_add 1).trans rfl
theorem tX12_add_2 : tX12_add 2 = oGet 12 11 5 := (congrFun teX12_add 2).trans rfl
theorem tX12_add_5 : tX12_add 5 = oIl 1 6 := (congrFun teX12_add 5).trans rfl
theorem tX12_add_6 : tX12_add 6 = oIl 2 7 := (congrFun teX12_add 6).trans rfl
theorem tX12_add_7 : tX12_add 7 = oIl 3 8 := (congrFun teX12_add 7).trans rfl
theorem tX12_add_8 : tX12_add 8 = oIl 4 10 := (congrFun teX12_add 8).trans rfl
theorem tX12_add_10 : tX12_add 10 = oCallV 12 mX12_lays 5 13 := (congrFun teX12_add 10).trans rfl
theorem tX12_add_13 : tX12_add 13 = oAl 0 14 := (congrFun teX12_add 13).trans rfl
theorem tX12_add_14 : tX12_add 14 = oDup 15 := (congrFun teX12_add 14).trans rfl
theorem tX12_add_15 : tX12_add 15 = oGet 12 11 18 := (congrFun teX12_add 15).trans rfl
theorem tX12_add_18 : tX12_add 18 = oK (.int (nI 1)) 19 := (congrFun teX12_add 18).trans rfl
theorem tX12_add_19 : tX12_add 19 = oAdd 20 := (congrFun teX12_add 19).trans rfl
theorem tX12_add_20 : tX12_add 20 = oPutI 12 11 23 := (congrFun teX12_add 20).trans rfl
theorem tX12_add_23 : tX12_add 23 = oVret := (congrFun teX12_add 23).trans rfl
def lX12_lay : List (Nat × qP) := [(0, oAl 0 1), (1, oGet 12 11 4), (4, oIf1le 8 7), (7, oVret), (8, oK (.int (nI 2)) 9), (9, oIs 1 10), (10, oIl 1 11), (11, oK (.int (nI 10)) 13), (13, oIf2gt 314 16), (16, oAl 0 17), (17, oGet 12 12 20), (20, oIl 1 21), (21, oAl 0 22), (22, oGet 12 11 25), (25, oIast 26), (26, oK (.int (nI 0)) 27), (27, oIs 2 28), (28, oIl 2 29), (29, oK (.int (nI 3)) 30), (30, oIf2ge 52 33), (33, oIl 1 34), (34, oK (.int (nI 2)) 35), (35, oIf2ne 52 38), (38, oAl 0 39), (39, oK (.int (nI 0)) 40), (40, oIl 2 41), (41, oK (.int (-1)) 42), (42, oK (.int (-1)) 43), (43, oCallV 12 mX12_add 4 46), (46, oInc 2 (nI 1) 49), (49, oGo 28), (52, oK (.int (nI 1)) 53), (53, oIs 2 54), (54, oIl 2 55), (55, oK (.int (nI 8)) 57), (57, oIf2ge 79 60), (60, oIl 1 61), (61, oK (.int (nI 3)) 62), (62, oIf2ne 79 65), (65, oAl 0 66), (66, oK (.int (nI 1)) 67), (67, oIl 2 68), (68, oK (.int (-1)) 69), (69, oK (.int (-1)) 70), (70, oCallV 12 mX12_add 4 73), (73, oInc 2 (nI 1) 76), (76, oGo 54), (79, oAl 0 80), (80, oGet 12 11 83), (83, oIs 2 84), (84, oK (.int (nI 0)) 85), (85, oIs 3 86), (86, oIl 3 87), (87, oIl 2 88), (88, oIf2ge 180 91), (91, oIl 1 92), (92, oK (.int (nI 1)) 93), (93, oSub 94), (94, oAl 0 95), (95, oGet 12 7 98), (98, oIl 3 99), (99, oIald 100), (100, oSub 101), (101, oIs 4 103), (103, oAl 0 104), (104, oGet 12 3 107), (107, oIl 3 108), (108, oIald 109), (109, oK (.int (nI 2)) 110), (110, oIf2eq 174 113), (113, oIl 4 115), (115, oK (.int (nI 2)) 116), (116, oIf2lt 174 119), (119, oIl 4 121), (121, oIl 1 122), (122, oIf2lt 128 125), (125, oGo 174), (128, oAl 0 129), (129, oGet 12 12 132), (132, oIl 4 134), (134, oIald 135), (135, oIs 5 137), (137, oIl 5 139), (139, oAl 0 140), (140, oGet 12 12 143), (143, oIl 4 145), (145, oK (.int (nI 1)) 146), (146, oAdd 147), (147, oIald 148), (148, oIf2ge 174 151), (151, oIl 4 153), (153, oK (.int (nI 1)) 154), (154, oAdd 155), (155, oIl 1 156), (156, oIf2gt 174 159), (159, oAl 0 160), (160, oK (.int (nI 2)) 161), (161, oK (.int (nI 0)) 162), (162, oIl 3 163), (163, oIl 5 165), (165, oCallV 12 mX12_add 4 168), (168, oInc 5 (nI 1) 171), (171, oGo 137), (174, oInc 3 (nI 1) 177), (177, oGo 86), (180, oK (.int (nI 0)) 181), (181, oIs 3 182), (182, oIl 3 183), (183, oIl 2 184), (184, oIf2ge 252 187), (187, oIl 1 188), (188, oK (.int (nI 2)) 189), (189, oSub 190), (190, oAl 0 191), (191, oGet 12 7 194), (194, oIl 3 195), (195, oIald 196), (196, oSub 197), (197, oIs 4 199), (199, oIl 4 201), (201, oK (.int (nI 2)) 202), (202, oIf2ge 208 205), (205, oGo 246), (208, oAl 0 209), (209, oGet 12 12 212), (212, oIl 4 214), (214, oIald 215), (215, oIs 5 217), (217, oIl 5 219), (219, oAl 0 220), (220, oGet 12 12 223), (223, oIl 4 225), (225, oK (.int (nI 1)) 226), (226, oAdd 227), (227, oIald 228), (228, oIf2ge 246 231), (231, oAl 0 232), (232, oK (.int (nI 3)) 233), (233, oK (.int (nI 0)) 234), (234, oIl 3 235), (235, oIl 5 237), (237, oCallV 12 mX12_add 4 240), (240, oInc 5 (nI 1) 243), (243, oGo 217), (246, oInc 3 (nI 1) 249), (249, oGo 182), (252, oK (.int (nI 4)) 253), (253, oIs 3 254), (254, oIl 3 255), (255, oK (.int (nI 5)) 256), (256, oIf2gt 308 259), (259, oIl 1 260), (260, oK (.int (nI 3)) 261), (261, oIf2le 302 264), (264, oAl 0 265), (265, oGet 12 12 268), (268, oIl 1 269), (269, oK (.int (nI 2)) 270), (270, oSub 271), (271, oIald 272), (272, oIs 4 274), (274, oIl 4 276), (276, oAl 0 277), (277, oGet 12 12 280), (280, oIl 1 281), (281, oK (.int (nI 1)) 282), (282, oSub 283), (283, oIald 284), (284, oIf2ge 302 287), (287, oAl 0 288), (288, oIl 3 289), (289, oK (.int (nI 0)) 290), (290, oIl 4 292), (292, oK (.int (-1)) 293), (293, oCallV 12 mX12_add 4 296), (296, oInc 4 (nI 1) 299), (299, oGo 274), (302, oInc 3 (nI 1) 305), (305, oGo 254), (308, oInc 1 (nI 1) 311), (311, oGo 10), (314, oAl 0 315), (315, oGet 12 12 318), (318, oK (.int (nI 11)) 320), (320, oAl 0 321), (321, oGet 12 11 324), (324, oIast 325), (325, oVret)]
def uX12_lay : Nat → qP := q_tb lX12_lay
set_option maxRecDepth 20000 in
theorem suX12_lay : q_Snd mX12_lay uX12_lay := by
  refine q_tb_ok ?_
  unfold lX12_lay
  refine q_fa (ok_aload_n (by decide +kernel : decode cX12_lay 0 = .ok (.aload_n 0, 1)) rfl rfl) ?_
  refine q_fa (ok_get (by decide +kernel : decode cX12_lay 1 = .ok (.getfield 146, 3)) rfl (rfl : vwCl[12]? = some (RX12, TX12, 58)) inX12 (by decide) g1015) ?_
  refine q_fa (ok_if1le (by decide +kernel : decode cX12_lay 4 = .ok (.ifCond .le 4, 3)) (by decide) rfl) ?_
  refine q_fa (ok_vret (by decide +kernel : decode cX12_lay 7 = .ok (.return_, 1)) rfl) ?_
  refine q_fa (ok_iconst (by decide +kernel : decode cX12_lay 8 = .ok (.iconst 2, 1)) rfl (by decide +kernel)) ?_
  refine q_fa (ok_istore_n (by decide +kernel : decode cX12_lay 9 = .ok (.istore_n 1, 1)) rfl rfl (by decide)) ?_
  refine q_fa (ok_iload_n (by decide +kernel : decode cX12_lay 10 = .ok (.iload_n 1, 1)) rfl rfl) ?_
  refine q_fa (ok_bipush (by decide +kernel : decode cX12_lay 11 = .ok (.bipush 10, 2)) rfl (by decide +kernel)) ?_
  refine q_fa (ok_if2gt (by decide +kernel : decode cX12_lay 13 = .ok (.if_icmp .gt 301, 3)) (by decide) rfl) ?_
  refine q_fa (ok_aload_n (by decide +kernel : decode cX12_lay 16 = .ok (.aload_n 0, 1)) rfl rfl) ?_
  refine q_fa (ok_get (by decide +kernel : decode cX12_lay 17 = .ok (.getfield 38, 3)) rfl (rfl : vwCl[12]? = some (RX12, TX12, 58)) inX12 (by decide) g1016) ?_
  refine q_fa (ok_iload_n (by decide +kernel : decode cX12_lay 20 = .ok (.iload_n 1, 1)) rfl rfl) ?_
  refine q_fa (ok_aload_n (by decide +kernel : decode cX12_lay 21 = .ok (.aload_n 0, 1)) rfl rfl) ?_
  refine q_fa (ok_get (by decide +kernel : decode cX12_lay 22 = .ok (.getfield 146, 3)) rfl (rfl : vwCl[12]? = some (RX12, TX12, 58)) inX12 (by decide) g1015) ?_
  refine q_fa (ok_iastore (by decide +kernel : decode cX12_lay 25 = .ok (.iastore, 1)) rfl) ?_
  refine q_fa (ok_iconst (by decide +kernel : decode cX12_lay 26 = .ok (.iconst 0, 1)) rfl (by decide +kernel)) ?_
  refine q_fa (ok_istore_n (by decide +kernel : decode cX12_lay 27 = .ok (.istore_n 2, 1)) rfl rfl (by decide)) ?_
  refine q_fa (ok_iload_n (by decide +kernel : decode cX12_lay 28 = .ok (.iload_n 2, 1)) rfl rfl) ?_
  refine q_fa (ok_iconst (by decide +kernel : decode cX12_lay 29 = .ok (.iconst 3, 1)) rfl (by decide +kernel)) ?_
  refine q_fa (ok_if2ge (by decide +kernel : decode cX12_lay 30 = .ok (.if_icmp .ge 22, 3)) (by decide) rfl) ?_
  refine q_fa (ok_iload_n (by decide +kernel : decode cX12_lay 33 = .ok (.iload_n 1, 1)) rfl rfl) ?_
  refine q_fa (ok_iconst (by decide +kernel : decode cX12_lay 34 = .ok (.iconst 2, 1)) rfl (by decide +kernel)) ?_
  refine q_fa (ok_if2ne (by decide +kernel : decode cX12_lay 35 = .ok (.if_icmp .ne 17, 3)) (by decide) rfl) ?_
  refine q_fa (ok_aload_n (by decide +kernel : decode cX12_lay 38 = .ok (.aload_n 0, 1)) rfl rfl) ?_
  refine q_fa (ok_iconst (by decide +kernel : decode cX12_lay 39 = .ok (.iconst 0, 1)) rfl (by decide +kernel)) ?_
  refine q_fa (ok_iload_n (by decide +kernel : decode cX12_lay 40 = .ok (.iload_n 2, 1)) rfl rfl) ?_
  refine q_fa (ok_iconst (by decide +kernel : decode cX12_lay 41 = .ok (.iconst (-1), 1)) rfl (by decide +kernel)) ?_
  refine q_fa (ok_iconst (by decide +kernel : decode cX12_lay 42 = .ok (.iconst (-1), 1)) rfl (by decide +kernel)) ?_
  refine q_fa (ok_callV (by decide +kernel : decode cX12_lay 43 = .ok (.invokevirtual 149, 3)) rfl kX12_add.1 kX12_add.2.1 kX12_add.2.2.1 kX12_add.2.2.2.1 kX12_add.2.2.2.2 (rfl : vwCl[12]? = some (RX12, TX12, 58)) g1291 gs67 g1289) ?_
  refine q_fa (ok_iinc (by decide +kernel : decode cX12_lay 46 = .ok (.iinc 2 1, 3)) rfl (by decide +kernel) (by decide)) ?_
  refine q_fa (ok_goto (by decide +kernel : decode cX12_lay 49 = .ok (.goto (-21), 3)) (by decide)) ?_
  refine q_fa (ok_iconst (by decide +kernel : decode cX12_lay 52 = .ok (.iconst 1, 1)) rfl (by decide +kernel)) ?_
  refine q_fa (ok_istore_n (by decide +kernel : decode cX12_lay 53 = .ok (.istore_n 2, 1)) rfl rfl (by decide)) ?_
  refine q_fa (ok_iload_n (by decide +kernel : decode cX12_lay 54 = .ok (.iload_n 2, 1)) rfl rfl) ?_
  refine q_fa (ok_bipush (by decide +kernel : decode cX12_lay 55 = .ok (.bipush 8, 2)) rfl (by decide +kernel)) ?_
  refine q_fa (ok_if2ge (by decide +kernel : decode cX12_lay 57 = .ok (.if_icmp .ge 22, 3)) (by decide) rfl) ?_
  refine q_fa (ok_iload_n (by decide +kernel : decode cX12_lay 60 = .ok (.iload_n 1, 1)) rfl rfl) ?_
  refine q_fa (ok_iconst (by decide +kernel : decode cX12_lay 61 = .ok (.iconst 3, 1)) rfl (by decide +kernel)) ?_
  refine q_fa (ok_if2ne (by decide +kernel : decode cX12_lay 62 = .ok (.if_icmp .ne 17, 3)) (by decide) rfl) ?_
  refine q_fa (ok_aload_n (by decide +kernel : decode cX12_lay 65 = .ok (.aload_n 0, 1)) rfl rfl) ?_
  refine q_fa (ok_iconst (by decide +kernel : decode cX12_lay 66 = .ok (.iconst 1, 1)) rfl (by decide +kernel)) ?_
  refine q_fa (ok_iload_n (by decide +kernel : decode cX12_lay 67 = .ok (.iload_n 2, 1)) rfl rfl) ?_
  refine q_fa (ok_iconst (by decide +kernel : decode cX12_lay 68 = .ok (.iconst (-1), 1)) rfl (by decide +kernel)) ?_
  refine q_fa (ok_iconst (by decide +kernel : decode cX12_lay 69 = .ok (.iconst (-1), 1)) rfl (by decide +kernel)) ?_
  refine q_fa (ok_callV (by decide +kernel : decode cX12_lay 70 = .ok (.invokevirtual 149, 3)) rfl kX12_add.1 kX12_add.2.1 kX12_add.2.2.1 kX12_add.2.2.2.1 kX12_add.2.2.2.2 (rfl : vwCl[12]? = some (RX12, TX12, 58)) g1291 gs67 g1289) ?_
  refine q_fa (ok_iinc (by decide +kernel : decode cX12_lay 73 = .ok (.iinc 2 1, 3)) rfl (by decide +kernel) (by decide)) ?_
  refine q_fa (ok_goto (by decide +kernel : decode cX12_lay 76 = .ok (.goto (-22), 3)) (by decide)) ?_
  refine q_fa (ok_aload_n (by decide +kernel : decode cX12_lay 79 = .ok (.aload_n 0, 1)) rfl rfl) ?_
  refine q_fa (ok_get (by decide +kernel : decode cX12_lay 80 = .ok (.getfield 146, 3)) rfl (rfl : vwCl[12]? = some (RX12, TX12, 58)) inX12 (by decide) g1015) ?_
  refine q_fa (ok_istore_n (by decide +kernel : decode cX12_lay 83 = .ok (.istore_n 2, 1)) rfl rfl (by decide)) ?_
  refine q_fa (ok_iconst (by decide +kernel : decode cX12_lay 84 = .ok (.iconst 0, 1)) rfl (by decide +kernel)) ?_
  refine q_fa (ok_istore_n (by decide +kernel : decode cX12_lay 85 = .ok (.istore_n 3, 1)) rfl rfl (by decide)) ?_
  refine q_fa (ok_iload_n (by decide +kernel : decode cX12_lay 86 = .ok (.iload_n 3, 1)) rfl rfl) ?_
  refine q_fa (ok_iload_n (by decide +kernel : decode cX12_lay 87 = .ok (.iload_n 2, 1)) rfl rfl) ?_
  refine q_fa (ok_if2ge (by decide +kernel : decode cX12_lay 88 = .ok (.if_icmp .ge 92, 3)) (by decide) rfl) ?_
  refine q_fa (ok_iload_n (by decide +kernel : decode cX12_lay 91 = .ok (.iload_n 1, 1)) rfl rfl) ?_
  refine q_fa (ok_iconst (by decide +kernel : decode cX12_lay 92 = .ok (.iconst 1, 1)) rfl (by decide +kernel)) ?_
  refine q_fa (ok_isub (by decide +kernel : decode cX12_lay 93 = .ok (.isub, 1)) rfl) ?_
  refine q_fa (ok_aload_n (by decide +kernel : decode cX12_lay 94 = .ok (.aload_n 0, 1)) rfl rfl) ?_
  refine q_fa (ok_get (by decide +kernel : decode cX12_lay 95 = .ok (.getfield 25, 3)) rfl (rfl : vwCl[12]? = some (RX12, TX12, 58)) inX12 (by decide) g1011) ?_
  refine q_fa (ok_iload_n (by decide +kernel : decode cX12_lay 98 = .ok (.iload_n 3, 1)) rfl rfl) ?_
  refine q_fa (ok_iaload (by decide +kernel : decode cX12_lay 99 = .ok (.iaload, 1)) rfl) ?_
  refine q_fa (ok_isub (by decide +kernel : decode cX12_lay 100 = .ok (.isub, 1)) rfl) ?_
  refine q_fa (ok_istore (by decide +kernel : decode cX12_lay 101 = .ok (.istore 4, 2)) rfl (by decide)) ?_
  refine q_fa (ok_aload_n (by decide +kernel : decode cX12_lay 103 = .ok (.aload_n 0, 1)) rfl rfl) ?_
  refine q_fa (ok_get (by decide +kernel : decode cX12_lay 104 = .ok (.getfield 13, 3)) rfl (rfl : vwCl[12]? = some (RX12, TX12, 58)) inX12 (by decide) g1007) ?_
  refine q_fa (ok_iload_n (by decide +kernel : decode cX12_lay 107 = .ok (.iload_n 3, 1)) rfl rfl) ?_
  refine q_fa (ok_iaload (by decide +kernel : decode cX12_lay 108 = .ok (.iaload, 1)) rfl) ?_
  refine q_fa (ok_iconst (by decide +kernel : decode cX12_lay 109 = .ok (.iconst 2, 1)) rfl (by decide +kernel)) ?_
  refine q_fa (ok_if2eq (by decide +kernel : decode cX12_lay 110 = .ok (.if_icmp .eq 64, 3)) (by decide) rfl) ?_
  refine q_fa (ok_iload (by decide +kernel : decode cX12_lay 113 = .ok (.iload 4, 2)) rfl) ?_
  refine q_fa (ok_iconst (by decide +kernel : decode cX12_lay 115 = .ok (.iconst 2, 1)) rfl (by decide +kernel)) ?_
  refine q_fa (ok_if2lt (by decide +kernel : decode cX12_lay 116 = .ok (.if_icmp .lt 58, 3)) (by decide) rfl) ?_
  refine q_fa (ok_iload (by decide +kernel : decode cX12_lay 119 = .ok (.iload 4, 2)) rfl) ?_
  refine q_fa (ok_iload_n (by decide +kernel : decode cX12_lay 121 = .ok (.iload_n 1, 1)) rfl rfl) ?_
  refine q_fa (ok_if2lt (by decide +kernel : decode cX12_lay 122 = .ok (.if_icmp .lt 6, 3)) (by decide) rfl) ?_
  refine q_fa (ok_goto (by decide +kernel : decode cX12_lay 125 = .ok (.goto 49, 3)) (by decide)) ?_
  refine q_fa (ok_aload_n (by decide +kernel : decode cX12_lay 128 = .ok (.aload_n 0, 1)) rfl rfl) ?_
  refine q_fa (ok_get (by decide +kernel : decode cX12_lay 129 = .ok (.getfield 38, 3)) rfl (rfl : vwCl[12]? = some (RX12, TX12, 58)) inX12 (by decide) g1016) ?_
  refine q_fa (ok_iload (by decide +kernel : decode cX12_lay 132 = .ok (.iload 4, 2)) rfl) ?_
  refine q_fa (ok_iaload (by decide +kernel : decode cX12_lay 134 = .ok (.iaload, 1)) rfl) ?_
  refine q_fa (ok_istore (by decide +kernel : decode cX12_lay 135 = .ok (.istore 5, 2)) rfl (by decide)) ?_
  refine q_fa (ok_iload (by decide +kernel : decode cX12_lay 137 = .ok (.iload 5, 2)) rfl) ?_
  refine q_fa (ok_aload_n (by decide +kernel : decode cX12_lay 139 = .ok (.aload_n 0, 1)) rfl rfl) ?_
  refine q_fa (ok_get (by decide +kernel : decode cX12_lay 140 = .ok (.getfield 38, 3)) rfl (rfl : vwCl[12]? = some (RX12, TX12, 58)) inX12 (by decide) g1016) ?_
  refine q_fa (ok_iload (by decide +kernel : decode cX12_lay 143 = .ok (.iload 4, 2)) rfl) ?_
  refine q_fa (ok_iconst (by decide +kernel : decode cX12_lay 145 = .ok (.iconst 1, 1)) rfl (by decide +kernel)) ?_
  refine q_fa (ok_iadd (by decide +kernel : decode cX12_lay 146 = .ok (.iadd, 1)) rfl) ?_
  refine q_fa (ok_iaload (by decide +kernel : decode cX12_lay 147 = .ok (.iaload, 1)) rfl) ?_
  refine q_fa (ok_if2ge (by decide +kernel : decode cX12_lay 148 = .ok (.if_icmp .ge 26, 3)) (by decide) rfl) ?_
  refine q_fa (ok_iload (by decide +kernel : decode cX12_lay 151 = .ok (.iload 4, 2)) rfl) ?_
  refine q_fa (ok_iconst (by decide +kernel : decode cX12_lay 153 = .ok (.iconst 1, 1)) rfl (by decide +kernel)) ?_
  refine q_fa (ok_iadd (by decide +kernel : decode cX12_lay 154 = .ok (.iadd, 1)) rfl) ?_
  refine q_fa (ok_iload_n (by decide +kernel : decode cX12_lay 155 = .ok (.iload_n 1, 1)) rfl rfl) ?_
  refine q_fa (ok_if2gt (by decide +kernel : decode cX12_lay 156 = .ok (.if_icmp .gt 18, 3)) (by decide) rfl) ?_
  refine q_fa (ok_aload_n (by decide +kernel : decode cX12_lay 159 = .ok (.aload_n 0, 1)) rfl rfl) ?_
  refine q_fa (ok_iconst (by decide +kernel : decode cX12_lay 160 = .ok (.iconst 2, 1)) rfl (by decide +kernel)) ?_
  refine q_fa (ok_iconst (by decide +kernel : decode cX12_lay 161 = .ok (.iconst 0, 1)) rfl (by decide +kernel)) ?_
  refine q_fa (ok_iload_n (by decide +kernel : decode cX12_lay 162 = .ok (.iload_n 3, 1)) rfl rfl) ?_
  refine q_fa (ok_iload (by decide +kernel : decode cX12_lay 163 = .ok (.iload 5, 2)) rfl) ?_
  refine q_fa (ok_callV (by decide +kernel : decode cX12_lay 165 = .ok (.invokevirtual 149, 3)) rfl kX12_add.1 kX12_add.2.1 kX12_add.2.2.1 kX12_add.2.2.2.1 kX12_add.2.2.2.2 (rfl : vwCl[12]? = some (RX12, TX12, 58)) g1291 gs67 g1289) ?_
  refine q_fa (ok_iinc (by decide +kernel : decode cX12_lay 168 = .ok (.iinc 5 1, 3)) rfl (by decide +kernel) (by decide)) ?_
  refine q_fa (ok_goto (by decide +kernel : decode cX12_lay 171 = .ok (.goto (-34), 3)) (by decide)) ?_
  refine q_fa (ok_iinc (by decide +kernel : decode cX12_lay 174 = .ok (.iinc 3 1, 3)) rfl (by decide +kernel) (by decide)) ?_
  refine q_fa (ok_goto (by decide +kernel : decode cX12_lay 177 = .ok (.goto (-91), 3)) (by decide)) ?_
  refine q_fa (ok_iconst (by decide +kernel : decode cX12_lay 180 = .ok (.iconst 0, 1)) rfl (by decide +kernel)) ?_
  refine q_fa (ok_istore_n (by decide +kernel : decode cX12_lay 181 = .ok (.istore_n 3, 1)) rfl rfl (by decide)) ?_
  refine q_fa (ok_iload_n (by decide +kernel : decode cX12_lay 182 = .ok (.iload_n 3, 1)) rfl rfl) ?_
  refine q_fa (ok_iload_n (by decide +kernel : decode cX12_lay 183 = .ok (.iload_n 2, 1)) rfl rfl) ?_
  refine q_fa (ok_if2ge (by decide +kernel : decode cX12_lay 184 = .ok (.if_icmp .ge 68, 3)) (by decide) rfl) ?_
  refine q_fa (ok_iload_n (by decide +kernel : decode cX12_lay 187 = .ok (.iload_n 1, 1)) rfl rfl) ?_
  refine q_fa (ok_iconst (by decide +kernel : decode cX12_lay 188 = .ok (.iconst 2, 1)) rfl (by decide +kernel)) ?_
  refine q_fa (ok_isub (by decide +kernel : decode cX12_lay 189 = .ok (.isub, 1)) rfl) ?_
  refine q_fa (ok_aload_n (by decide +kernel : decode cX12_lay 190 = .ok (.aload_n 0, 1)) rfl rfl) ?_
  refine q_fa (ok_get (by decide +kernel : decode cX12_lay 191 = .ok (.getfield 25, 3)) rfl (rfl : vwCl[12]? = some (RX12, TX12, 58)) inX12 (by decide) g1011) ?_
  refine q_fa (ok_iload_n (by decide +kernel : decode cX12_lay 194 = .ok (.iload_n 3, 1)) rfl rfl) ?_
  refine q_fa (ok_iaload (by decide +kernel : decode cX12_lay 195 = .ok (.iaload, 1)) rfl) ?_
  refine q_fa (ok_isub (by decide +kernel : decode cX12_lay 196 = .ok (.isub, 1)) rfl) ?_
  refine q_fa (ok_istore (by decide +kernel : decode cX12_lay 197 = .ok (.istore 4, 2)) rfl (by decide)) ?_
  refine q_fa (ok_iload (by decide +kernel : decode cX12_lay 199 = .ok (.iload 4, 2)) rfl) ?_
  refine q_fa (ok_iconst (by decide +kernel : decode cX12_lay 201 = .ok (.iconst 2, 1)) rfl (by decide +kernel)) ?_
  refine q_fa (ok_if2ge (by decide +kernel : decode cX12_lay 202 = .ok (.if_icmp .ge 6, 3)) (by decide) rfl) ?_
  refine q_fa (ok_goto (by decide +kernel : decode cX12_lay 205 = .ok (.goto 41, 3)) (by decide)) ?_
  refine q_fa (ok_aload_n (by decide +kernel : decode cX12_lay 208 = .ok (.aload_n 0, 1)) rfl rfl) ?_
  refine q_fa (ok_get (by decide +kernel : decode cX12_lay 209 = .ok (.getfield 38, 3)) rfl (rfl : vwCl[12]? = some (RX12, TX12, 58)) inX12 (by decide) g1016) ?_
  refine q_fa (ok_iload (by decide +kernel : decode cX12_lay 212 = .ok (.iload 4, 2)) rfl) ?_
  refine q_fa (ok_iaload (by decide +kernel : decode cX12_lay 214 = .ok (.iaload, 1)) rfl) ?_
  refine q_fa (ok_istore (by decide +kernel : decode cX12_lay 215 = .ok (.istore 5, 2)) rfl (by decide)) ?_
  refine q_fa (ok_iload (by decide +kernel : decode cX12_lay 217 = .ok (.iload 5, 2)) rfl) ?_
  refine q_fa (ok_aload_n (by decide +kernel : decode cX12_lay 219 = .ok (.aload_n 0, 1)) rfl rfl) ?_
  refine q_fa (ok_get (by decide +kernel : decode cX12_lay 220 = .ok (.getfield 38, 3)) rfl (rfl : vwCl[12]? = some (RX12, TX12, 58)) inX12 (by decide) g1016) ?_
  refine q_fa (ok_iload (by decide +kernel : decode cX12_lay 223 = .ok (.iload 4, 2)) rfl) ?_
  refine q_fa (ok_iconst (by decide +kernel : decode cX12_lay 225 = .ok (.iconst 1, 1)) rfl (by decide +kernel)) ?_
  refine q_fa (ok_iadd (by decide +kernel : decode cX12_lay 226 = .ok (.iadd, 1)) rfl) ?_
  refine q_fa (ok_iaload (by decide +kernel : decode cX12_lay 227 = .ok (.iaload, 1)) rfl) ?_
  refine q_fa (ok_if2ge (by decide +kernel : decode cX12_lay 228 = .ok (.if_icmp .ge 18, 3)) (by decide) rfl) ?_
  refine q_fa (ok_aload_n (by decide +kernel : decode cX12_lay 231 = .ok (.aload_n 0, 1)) rfl rfl) ?_
  refine q_fa (ok_iconst (by decide +kernel : decode cX12_lay 232 = .ok (.iconst 3, 1)) rfl (by decide +kernel)) ?_
  refine q_fa (ok_iconst (by decide +kernel : decode cX12_lay 233 = .ok (.iconst 0, 1)) rfl (by decide +kernel)) ?_
  refine q_fa (ok_iload_n (by decide +kernel : decode cX12_lay 234 = .ok (.iload_n 3, 1)) rfl rfl) ?_
  refine q_fa (ok_iload (by decide +kernel : decode cX12_lay 235 = .ok (.iload 5, 2)) rfl) ?_
  refine q_fa (ok_callV (by decide +kernel : decode cX12_lay 237 = .ok (.invokevirtual 149, 3)) rfl kX12_add.1 kX12_add.2.1 kX12_add.2.2.1 kX12_add.2.2.2.1 kX12_add.2.2.2.2 (rfl : vwCl[12]? = some (RX12, TX12, 58)) g1291 gs67 g1289) ?_
  refine q_fa (ok_iinc (by decide +kernel : decode cX12_lay 240 = .ok (.iinc 5 1, 3)) rfl (by decide +kernel) (by decide)) ?_
  refine q_fa (ok_goto (by decide +kernel : decode cX12_lay 243 = .ok (.goto (-26), 3)) (by decide)) ?_
  refine q_fa (ok_iinc (by decide +kernel : decode cX12_lay 246 = .ok (.iinc 3 1, 3)) rfl (by decide +kernel) (by decide)) ?_
  refine q_fa (ok_goto (by decide +kernel : decode cX12_lay 249 = .ok (.goto (-67), 3)) (by decide)) ?_
  refine q_fa (ok_iconst (by decide +kernel : decode cX12_lay 252 = .ok (.iconst 4, 1)) rfl (by decide +kernel)) ?_
  refine q_fa (ok_istore_n (by decide +kernel : decode cX12_lay 253 = .ok (.istore_n 3, 1)) rfl rfl (by decide)) ?_
  refine q_fa (ok_iload_n (by decide +kernel : decode cX12_lay 254 = .ok (.iload_n 3, 1)) rfl rfl) ?_
  refine q_fa (ok_iconst (by decide +kernel : decode cX12_lay 255 = .ok (.iconst 5, 1)) rfl (by decide +kernel)) ?_
  refine q_fa (ok_if2gt (by decide +kernel : decode cX12_lay 256 = .ok (.if_icmp .gt 52, 3)) (by decide) rfl) ?_
  refine q_fa (ok_iload_n (by decide +kernel : decode cX12_lay 259 = .ok (.iload_n 1, 1)) rfl rfl) ?_
  refine q_fa (ok_iconst (by decide +kernel : decode cX12_lay 260 = .ok (.iconst 3, 1)) rfl (by decide +kernel)) ?_
  refine q_fa (ok_if2le (by decide +kernel : decode cX12_lay 261 = .ok (.if_icmp .le 41, 3)) (by decide) rfl) ?_
  refine q_fa (ok_aload_n (by decide +kernel : decode cX12_lay 264 = .ok (.aload_n 0, 1)) rfl rfl) ?_
  refine q_fa (ok_get (by decide +kernel : decode cX12_lay 265 = .ok (.getfield 38, 3)) rfl (rfl : vwCl[12]? = some (RX12, TX12, 58)) inX12 (by decide) g1016) ?_
  refine q_fa (ok_iload_n (by decide +kernel : decode cX12_lay 268 = .ok (.iload_n 1, 1)) rfl rfl) ?_
  refine q_fa (ok_iconst (by decide +kernel : decode cX12_lay 269 = .ok (.iconst 2, 1)) rfl (by decide +kernel)) ?_
  refine q_fa (ok_isub (by decide +kernel : decode cX12_lay 270 = .ok (.isub, 1)) rfl) ?_
  refine q_fa (ok_iaload (by decide +kernel : decode cX12_lay 271 = .ok (.iaload, 1)) rfl) ?_
  refine q_fa (ok_istore (by decide +kernel : decode cX12_lay 272 = .ok (.istore 4, 2)) rfl (by decide)) ?_
  refine q_fa (ok_iload (by decide +kernel : decode cX12_lay 274 = .ok (.iload 4, 2)) rfl) ?_
  refine q_fa (ok_aload_n (by decide +kernel : decode cX12_lay 276 = .ok (.aload_n 0, 1)) rfl rfl) ?_
  refine q_fa (ok_get (by decide +kernel : decode cX12_lay 277 = .ok (.getfield 38, 3)) rfl (rfl : vwCl[12]? = some (RX12, TX12, 58)) inX12 (by decide) g1016) ?_
  refine q_fa (ok_iload_n (by decide +kernel : decode cX12_lay 280 = .ok (.iload_n 1, 1)) rfl rfl) ?_
  refine q_fa (ok_iconst (by decide +kernel : decode cX12_lay 281 = .ok (.iconst 1, 1)) rfl (by decide +kernel)) ?_
  refine q_fa (ok_isub (by decide +kernel : decode cX12_lay 282 = .ok (.isub, 1)) rfl) ?_
  refine q_fa (ok_iaload (by decide +kernel : decode cX12_lay 283 = .ok (.iaload, 1)) rfl) ?_
  refine q_fa (ok_if2ge (by decide +kernel : decode cX12_lay 284 = .ok (.if_icmp .ge 18, 3)) (by decide) rfl) ?_
  refine q_fa (ok_aload_n (by decide +kernel : decode cX12_lay 287 = .ok (.aload_n 0, 1)) rfl rfl) ?_
  refine q_fa (ok_iload_n (by decide +kernel : decode cX12_lay 288 = .ok (.iload_n 3, 1)) rfl rfl) ?_
  refine q_fa (ok_iconst (by decide +kernel : decode cX12_lay 289 = .ok (.iconst 0, 1)) rfl (by decide +kernel)) ?_
  refine q_fa (ok_iload (by decide +kernel : decode cX12_lay 290 = .ok (.iload 4, 2)) rfl) ?_
  refine q_fa (ok_iconst (by decide +kernel : decode cX12_lay 292 = .ok (.iconst (-1), 1)) rfl (by decide +kernel)) ?_
  refine q_fa (ok_callV (by decide +kernel : decode cX12_lay 293 = .ok (.invokevirtual 149, 3)) rfl kX12_add.1 kX12_add.2.1 kX12_add.2.2.1 kX12_add.2.2.2.1 kX12_add.2.2.2.2 (rfl : vwCl[12]? = some (RX12, TX12, 58)) g1291 gs67 g1289) ?_
  refine q_fa (ok_iinc (by decide +kernel : decode cX12_lay 296 = .ok (.iinc 4 1, 3)) rfl (by decide +kernel) (by decide)) ?_
  refine q_fa (ok_goto (by decide +kernel : decode cX12_lay 299 = .ok (.goto (-25), 3)) (by decide)) ?_
  refine q_fa (ok_iinc (by decide +kernel : decode cX12_lay 302 = .ok (.iinc 3 1, 3)) rfl (by decide +kernel) (by decide)) ?_
  refine q_fa (ok_goto (by decide +kernel : decode cX12_lay 305 = .ok (.goto (-51), 3)) (by decide)) ?_
  refine q_fa (ok_iinc (by decide +kernel : decode cX12_lay 308 = .ok (.iinc 1 1, 3)) rfl (by decide +kernel) (by decide)) ?_
  refine q_fa (ok_goto (by decide +kernel : decode cX12_lay 311 = .ok (.goto (-301), 3)) (by decide)) ?_
  refine q_fa (ok_aload_n (by decide +kernel : decode cX12_lay 314 = .ok (.aload_n 0, 1)) rfl rfl) ?_
  refine q_fa (ok_get (by decide +kernel : decode cX12_lay 315 = .ok (.getfield 38, 3)) rfl (rfl : vwCl[12]? = some (RX12, TX12, 58)) inX12 (by decide) g1016) ?_
  refine q_fa (ok_bipush (by decide +kernel : decode cX12_lay 318 = .ok (.bipush 11, 2)) rfl (by decide +kernel)) ?_
  refine q_fa (ok_aload_n (by decide +kernel : decode cX12_lay 320 = .ok (.aload_n 0, 1)) rfl rfl) ?_
  refine q_fa (ok_get (by decide +kernel : decode cX12_lay 321 = .ok (.getfield 146, 3)) rfl (rfl : vwCl[12]? = some (RX12, TX12, 58)) inX12 (by decide) g1015) ?_
  refine q_fa (ok_iastore (by decide +kernel : decode cX12_lay 324 = .ok (.iastore, 1)) rfl) ?_
  refine q_fa (ok_vret (by decide +kernel : decode cX12_lay 325 = .ok (.return_, 1)) rfl) ?_
  exact q_fa0
theorem exX12_lay : ∃ t : Nat → qP, t = uX12_lay := ⟨_, rfl⟩
noncomputable def tX12_lay : Nat → qP := Classical.choose exX12_lay
theorem teX12_lay : tX12_lay = uX12_lay := Classical.choose_spec exX12_lay
theorem sX12_lay : q_Snd mX12_lay tX12_lay := by rw [teX12_lay]; exact suX12_lay
theorem tX12_lay_0 : tX12_lay 0 = oAl 0 1 := (congrFun teX12_lay 0).trans rfl
theorem tX12_lay_1 : tX12_lay 1 = oGet 12 11 4 := (congrFun teX12_lay 1).trans rfl
theorem tX12_lay_4 : tX12_lay 4 = oIf1le 8 7 := (congrFun teX12_lay 4).trans rfl
theorem tX12_lay_7 : tX12_lay 7 = oVret := (congrFun teX12_lay 7).trans rfl
theorem tX12_lay_8 : tX12_lay 8 = oK (.int (nI 2)) 9 := (congrFun teX12_lay 8).trans rfl
theorem tX12_lay_9 : tX12_lay 9 = oIs 1 10 := (congrFun teX12_lay 9).trans rfl
theorem tX12_lay_10 : tX12_lay 10 = oIl 1 11 := (congrFun teX12_lay 10).trans rfl
theorem tX12_lay_11 : tX12_lay 11 = oK (.int (nI 10)) 13 := (congrFun teX12_lay 11).trans rfl
theorem tX12_lay_13 : tX12_lay 13 = oIf2gt 314 16 := (congrFun teX12_lay 13).trans rfl
theorem tX12_lay_16 : tX12_lay 16 = oAl 0 17 := (congrFun teX12_lay 16).trans rfl
theorem tX12_lay_17 : tX12_lay 17 = oGet 12 12 20 := (congrFun teX12_lay 17).trans rfl
theorem tX12_lay_20 : tX12_lay 20 = oIl 1 21 := (congrFun teX12_lay 20).trans rfl
theorem tX12_lay_21 : tX12_lay 21 = oAl 0 22 := (congrFun teX12_lay 21).trans rfl
theorem tX12_lay_22 : tX12_lay 22 = oGet 12 11 25 := (congrFun teX12_lay 22).trans rfl
theorem tX12_lay_25 : tX12_lay 25 = oIast 26 := (congrFun teX12_lay 25).trans rfl
theorem tX12_lay_26 : tX12_lay 26 = oK (.int (nI 0)) 27 := (congrFun teX12_lay 26).trans rfl
theorem tX12_lay_27 : tX12_lay 27 = oIs 2 28 := (congrFun teX12_lay 27).trans rfl
theorem tX12_lay_28 : tX12_lay 28 = oIl 2 29 := (congrFun teX12_lay 28).trans rfl
theorem tX12_lay_29 : tX12_lay 29 = oK (.int (nI 3)) 30 := (congrFun teX12_lay 29).trans rfl
theorem tX12_lay_30 : tX12_lay 30 = oIf2ge 52 33 := (congrFun teX12_lay 30).trans rfl
theorem tX12_lay_33 : tX12_lay 33 = oIl 1 34 := (congrFun teX12_lay 33).trans rfl
theorem tX12_lay_34 : tX12_lay 34 = oK (.int (nI 2)) 35 := (congrFun teX12_lay 34).trans rfl
theorem tX12_lay_35 : tX12_lay 35 = oIf2ne 52 38 := (congrFun teX12_lay 35).trans rfl
theorem tX12_lay_38 : tX12_lay 38 = oAl 0 39 := (congrFun teX12_lay 38).trans rfl
theorem tX12_lay_39 : tX12_lay 39 = oK (.int (nI 0)) 40 := (congrFun teX12_lay 39).trans rfl
theorem tX12_lay_40 : tX12_lay 40 = oIl 2 41 := (congrFun teX12_lay 40).trans rfl
theorem tX12_lay_41 : tX12_lay 41 = oK (.int (-1)) 42 := (congrFun teX12_lay 41).trans rfl
theorem tX12_lay_42 : tX12_lay 42 = oK (.int (-1)) 43 := (congrFun teX12_lay 42).trans rfl
theorem tX12_lay_43 : tX12_lay 43 = oCallV 12 mX12_add 4 46 := (congrFun teX12_lay 43).trans rfl
theorem tX12_lay_46 : tX12_lay 46 = oInc 2 (nI 1) 49 := (congrFun teX12_lay 46).trans rfl
theorem tX12_lay_49 : tX12_lay 49 = oGo 28 := (congrFun teX12_lay 49).trans rfl
theorem tX12_lay_52 : tX12_lay 52 = oK (.int (nI 1)) 53 := (congrFun teX12_lay 52).trans rfl
theorem tX12_lay_53 : tX12_lay 53 = oIs 2 54 := (congrFun teX12_lay 53).trans rfl
theorem tX12_lay_54 : tX12_lay 54 = oIl 2 55 := (congrFun teX12_lay 54).trans rfl
theorem tX12_lay_55 : tX12_lay 55 = oK (.int (nI 8)) 57 := (congrFun teX12_lay 55).trans rfl
theorem tX12_lay_57 : tX12_lay 57 = oIf2ge 79 60 := (congrFun teX12_lay 57).trans rfl
theorem tX12_lay_60 : tX12_lay 60 = oIl 1 61 := (congrFun teX12_lay 60).trans rfl
theorem tX12_lay_61 : tX12_lay 61 = oK (.int (nI 3)) 62 := (congrFun teX12_lay 61).trans rfl
theorem tX12_lay_62 : tX12_lay 62 = oIf2ne 79 65 := (congrFun teX12_lay 62).trans rfl
theorem tX12_lay_65 : tX12_lay 65 = oAl 0 66 := (congrFun teX12_lay 65).trans rfl
theorem tX12_lay_66 : tX12_lay 66 = oK (.int (nI 1)) 67 := (congrFun teX12_lay 66).trans rfl
theorem tX12_lay_67 : tX12_lay 67 = oIl 2 68 := (congrFun teX12_lay 67).trans rfl
theorem tX12_lay_68 : tX12_lay 68 = oK (.int (-1)) 69 := (congrFun teX12_lay 68).trans rfl
theorem tX12_lay_69 : tX12_lay 69 = oK (.int (-1)) 70 := (congrFun teX12_lay 69).trans rfl
theorem tX12_lay_70 : tX12_lay 70 = oCallV 12 mX12_add 4 73 := (congrFun teX12_lay 70).trans rfl
theorem tX12_lay_73 : tX12_lay 73 = oInc 2 (nI 1) 76 := (congrFun teX12_lay 73).trans rfl
theorem tX12_lay_76 : tX12_lay 76 = oGo 54 := (congrFun teX12_lay 76).trans rfl
theorem tX12_lay_79 : tX12_lay 79 = oAl 0 80 := (congrFun teX12_lay 79).trans rfl
theorem tX12_lay_80 : tX12_lay 80 = oGet 12 11 83 := (congrFun teX12_lay 80).trans rfl
theorem tX12_lay_83 : tX12_lay 83 = oIs 2 84 := (congrFun teX12_lay 83).trans rfl
theorem tX12_lay_84 : tX12_lay 84 = oK (.int (nI 0)) 85 := (congrFun teX12_lay 84).trans rfl
theorem tX12_lay_85 : tX12_lay 85 = oIs 3 86 := (congrFun teX12_lay 85).trans rfl
theorem tX12_lay_86 : tX12_lay 86 = oIl 3 87 := (congrFun teX12_lay 86).trans rfl
theorem tX12_lay_87 : tX12_lay 87 = oIl 2 88 := (congrFun teX12_lay 87).trans rfl
theorem tX12_lay_88 : tX12_lay 88 = oIf2ge 180 91 := (congrFun teX12_lay 88).trans rfl
theorem tX12_lay_91 : tX12_lay 91 = oIl 1 92 := (congrFun teX12_lay 91).trans rfl
theorem tX12_lay_92 : tX12_lay 92 = oK (.int (nI 1)) 93 := (congrFun teX12_lay 92).trans rfl
theorem tX12_lay_93 : tX12_lay 93 = oSub 94 := (congrFun teX12_lay 93).trans rfl
theorem tX12_lay_94 : tX12_lay 94 = oAl 0 95 := (congrFun teX12_lay 94).trans rfl
theorem tX12_lay_95 : tX12_lay 95 = oGet 12 7 98 := (congrFun teX12_lay 95).trans rfl
theorem tX12_lay_98 : tX12_lay 98 = oIl 3 99 := (congrFun teX12_lay 98).trans rfl
theorem tX12_lay_99 : tX12_lay 99 = oIald 100 := (congrFun teX12_lay 99).trans rfl
theorem tX12_lay_100 : tX12_lay 100 = oSub 101 := (congrFun teX12_lay 100).trans rfl
theorem tX12_lay_101 : tX12_lay 101 = oIs 4 103 := (congrFun teX12_lay 101).trans rfl
theorem tX12_lay_103 : tX12_lay 103 = oAl 0 104 := (congrFun teX12_lay 103).trans rfl
theorem tX12_lay_104 : tX12_lay 104 = oGet 12 3 107 := (congrFun teX12_lay 104).trans rfl
theorem tX12_lay_107 : tX12_lay 107 = oIl 3 108 := (congrFun teX12_lay 107).trans rfl
theorem tX12_lay_108 : tX12_lay 108 = oIald 109 := (congrFun teX12_lay 108).trans rfl
theorem tX12_lay_109 : tX12_lay 109 = oK (.int (nI 2)) 110 := (congrFun teX12_lay 109).trans rfl
theorem tX12_lay_110 : tX12_lay 110 = oIf2eq 174 113 := (congrFun teX12_lay 110).trans rfl
theorem tX12_lay_113 : tX12_lay 113 = oIl 4 115 := (congrFun teX12_lay 113).trans rfl
theorem tX12_lay_115 : tX12_lay 115 = oK (.int (nI 2)) 116 := (congrFun teX12_lay 115).trans rfl
theorem tX12_lay_116 : tX12_lay 116 = oIf2lt 174 119 := (congrFun teX12_lay 116).trans rfl
theorem tX12_lay_119 : tX12_lay 119 = oIl 4 121 := (congrFun teX12_lay 119).trans rfl
theorem tX12_lay_121 : tX12_lay 121 = oIl 1 122 := (congrFun teX12_lay 121).trans rfl
theorem tX12_lay_122 : tX12_lay 122 = oIf2lt 128 125 := (congrFun teX12_lay 122).trans rfl
theorem tX12_lay_125 : tX12_lay 125 = oGo 174 := (congrFun teX12_lay 125).trans rfl
theorem tX12_lay_128 : tX12_lay 128 = oAl 0 129 := (congrFun teX12_lay 128).trans rfl
theorem tX12_lay_129 : tX12_lay 129 = oGet 12 12 132 := (congrFun teX12_lay 129).trans rfl
theorem tX12_lay_132 : tX12_lay 132 = oIl 4 134 := (congrFun teX12_lay 132).trans rfl
theorem tX12_lay_134 : tX12_lay 134 = oIald 135 := (congrFun teX12_lay 134).trans rfl
theorem tX12_lay_135 : tX12_lay 135 = oIs 5 137 := (congrFun teX12_lay 135).trans rfl
theorem tX12_lay_137 : tX12_lay 137 = oIl 5 139 := (congrFun teX12_lay 137).trans rfl
theorem tX12_lay_139 : tX12_lay 139 = oAl 0 140 := (congrFun teX12_lay 139).trans rfl
theorem tX12_lay_140 : tX12_lay 140 = oGet 12 12 143 := (congrFun teX12_lay 140).trans rfl
theorem tX12_lay_143 : tX12_lay 143 = oIl 4 145 := (congrFun teX12_lay 143).trans rfl
theorem tX12_lay_145 : tX12_lay 145 = oK (.int (nI 1)) 146 := (congrFun teX12_lay 145).trans rfl
theorem tX12_lay_146 : tX12_lay 146 = oAdd 147 := (congrFun teX12_lay 146).trans rfl
theorem tX12_lay_147 : tX12_lay 147 = oIald 148 := (congrFun teX12_lay 147).trans rfl
theorem tX12_lay_148 : tX12_lay 148 = oIf2ge 174 151 := (congrFun teX12_lay 148).trans rfl
theorem tX12_lay_151 : tX12_lay 151 = oIl 4 153 := (congrFun teX12_lay 151).trans rfl
theorem tX12_lay_153 : tX12_lay 153 = oK (.int (nI 1)) 154 := (congrFun teX12_lay 153).trans rfl
theorem tX12_lay_154 : tX12_lay 154 = oAdd 155 := (congrFun teX12_lay 154).trans rfl
theorem tX12_lay_155 : tX12_lay 155 = oIl 1 156 := (congrFun teX12_lay 155).trans rfl
theorem tX12_lay_156 : tX12_lay 156 = oIf2gt 174 159 := (congrFun teX12_lay 156).trans rfl
theorem tX12_lay_159 : tX12_lay 159 = oAl 0 160 := (congrFun teX12_lay 159).trans rfl
theorem tX12_lay_160 : tX12_lay 160 = oK (.int (nI 2)) 161 := (congrFun teX12_lay 160).trans rfl
theorem tX12_lay_161 : tX12_lay 161 = oK (.int (nI 0)) 162 := (congrFun teX12_lay 161).trans rfl
theorem tX12_lay_162 : tX12_lay 162 = oIl 3 163 := (congrFun teX12_lay 162).trans rfl
theorem tX12_lay_163 : tX12_lay 163 = oIl 5 165 := (congrFun teX12_lay 163).trans rfl
theorem tX12_lay_165 : tX12_lay 165 = oCallV 12 mX12_add 4 168 := (congrFun teX12_lay 165).trans rfl
theorem tX12_lay_168 : tX12_lay 168 = oInc 5 (nI 1) 171 := (congrFun teX12_lay 168).trans rfl
theorem tX12_lay_171 : tX12_lay 171 = oGo 137 := (congrFun teX12_lay 171).trans rfl
theorem tX12_lay_174 : tX12_lay 174 = oInc 3 (nI 1) 177 := (congrFun teX12_lay 174).trans rfl
theorem tX12_lay_177 : tX12_lay 177 = oGo 86 := (congrFun teX12_lay 177).trans rfl
theorem tX12_lay_180 : tX12_lay 180 = oK (.int (nI 0)) 181 := (congrFun teX12_lay 180).trans rfl
theorem tX12_lay_181 : tX12_lay 181 = oIs 3 182 := (congrFun teX12_lay 181).trans rfl
theorem tX12_lay_182 : tX12_lay 182 = oIl 3 183 := (congrFun teX12_lay 182).trans rfl
theorem tX12_lay_183 : tX12_lay 183 = oIl 2 184 := (congrFun teX12_lay 183).trans rfl
theorem tX12_lay_184 : tX12_lay 184 = oIf2ge 252 187 := (congrFun teX12_lay 184).trans rfl
theorem tX12_lay_187 : tX12_lay 187 = oIl 1 188 := (congrFun teX12_lay 187).trans rfl
theorem tX12_lay_188 : tX12_lay 188 = oK (.int (nI 2)) 189 := (congrFun teX12_lay 188).trans rfl
theorem tX12_lay_189 : tX12_lay 189 = oSub 190 := (congrFun teX12_lay 189).trans rfl
theorem tX12_lay_190 : tX12_lay 190 = oAl 0 191 := (congrFun teX12_lay 190).trans rfl
theorem tX12_lay_191 : tX12_lay 191 = oGet 12 7 194 := (congrFun teX12_lay 191).trans rfl
theorem tX12_lay_194 : tX12_lay 194 = oIl 3 195 := (congrFun teX12_lay 194).trans rfl
theorem tX12_lay_195 : tX12_lay 195 = oIald 196 := (congrFun teX12_lay 195).trans rfl
theorem tX12_lay_196 : tX12_lay 196 = oSub 197 := (congrFun teX12_lay 196).trans rfl
theorem tX12_lay_197 : tX12_lay 197 = oIs 4 199 := (congrFun teX12_lay 197).trans rfl
theorem tX12_lay_199 : tX12_lay 199 = oIl 4 201 := (congrFun teX12_lay 199).trans rfl
theorem tX12_lay_201 : tX12_lay 201 = oK (.int (nI 2)) 202 := (congrFun teX12_lay 201).trans rfl
theorem tX12_lay_202 : tX12_lay 202 = oIf2ge 208 205 := (congrFun teX12_lay 202).trans rfl
theorem tX12_lay_205 : tX12_lay 205 = oGo 246 := (congrFun teX12_lay 205).trans rfl
theorem tX12_lay_208 : tX12_lay 208 = oAl 0 209 := (congrFun teX12_lay 208).trans rfl
theorem tX12_lay_209 : tX12_lay 209 = oGet 12 12 212 := (congrFun teX12_lay 209).trans rfl
theorem tX12_lay_212 : tX12_lay 212 = oIl 4 214 := (congrFun teX12_lay 212).trans rfl
theorem tX12_lay_214 : tX12_lay 214 = oIald 215 := (congrFun teX12_lay 214).trans rfl
theorem tX12_lay_215 : tX12_lay 215 = oIs 5 217 := (congrFun teX12_lay 215).trans rfl
theorem tX12_lay_217 : tX12_lay 217 = oIl 5 219 := (congrFun teX12_lay 217).trans rfl
theorem tX12_lay_219 : tX12_lay 219 = oAl 0 220 := (congrFun teX12_lay 219).trans rfl
theorem tX12_lay_220 : tX12_lay 220 = oGet 12 12 223 := (congrFun teX12_lay 220).trans rfl
theorem tX12_lay_223 : tX12_lay 223 = oIl 4 225 := (congrFun teX12_lay 223).trans rfl
theorem tX12_lay_225 : tX12_lay 225 = oK (.int (nI 1)) 226 := (congrFun teX12_lay 225).trans rfl
theorem tX12_lay_226 : tX12_lay 226 = oAdd 227 := (congrFun teX12_lay 226).trans rfl
theorem tX12_lay_227 : tX12_lay 227 = oIald 228 := (congrFun teX12_lay 227).trans rfl
theorem tX12_lay_228 : tX12_lay 228 = oIf2ge 246 231 := (congrFun teX12_lay 228).trans rfl
theorem tX12_lay_231 : tX12_lay 231 = oAl 0 232 := (congrFun teX12_lay 231).trans rfl
theorem tX12_lay_232 : tX12_lay 232 = oK (.int (nI 3)) 233 := (congrFun teX12_lay 232).trans rfl
theorem tX12_lay_233 : tX12_lay 233 = oK (.int (nI 0)) 234 := (congrFun teX12_lay 233).trans rfl
theorem tX12_lay_234 : tX12_lay 234 = oIl 3 235 := (congrFun teX12_lay 234).trans rfl
theorem tX12_lay_235 : tX12_lay 235 = oIl 5 237 := (congrFun teX12_lay 235).trans rfl
theorem tX12_lay_237 : tX12_lay 237 = oCallV 12 mX12_add 4 240 := (congrFun teX12_lay 237).trans rfl
theorem tX12_lay_240 : tX12_lay 240 = oInc 5 (nI 1) 243 := (congrFun teX12_lay 240).trans rfl
theorem tX12_lay_243 : tX12_lay 243 = oGo 217 := (congrFun teX12_lay 243).trans rfl
theorem tX12_lay_246 : tX12_lay 246 = oInc 3 (nI 1) 249 := (congrFun teX12_lay 246).trans rfl
theorem tX12_lay_249 : tX12_lay 249 = oGo 182 := (congrFun teX12_lay 249).trans rfl
theorem tX12_lay_252 : tX12_lay 252 = oK (.int (nI 4)) 253 := (congrFun teX12_lay 252).trans rfl
theorem tX12_lay_253 : tX12_lay 253 = oIs 3 254 := (congrFun teX12_lay 253).trans rfl
theorem tX12_lay_254 : tX12_lay 254 = oIl 3 255 := (congrFun teX12_lay 254).trans rfl
theorem tX12_lay_255 : tX12_lay 255 = oK (.int (nI 5)) 256 := (congrFun teX12_lay 255).trans rfl
theorem tX12_lay_256 : tX12_lay 256 = oIf2gt 308 259 := (congrFun teX12_lay 256).trans rfl
theorem tX12_lay_259 : tX12_lay 259 = oIl 1 260 := (congrFun teX12_lay 259).trans rfl
theorem tX12_lay_260 : tX12_lay 260 = oK (.int (nI 3)) 261 := (congrFun teX12_lay 260).trans rfl
theorem tX12_lay_261 : tX12_lay 261 = oIf2le 302 264 := (congrFun teX12_lay 261).trans rfl
theorem tX12_lay_264 : tX12_lay 264 = oAl 0 265 := (congrFun teX12_lay 264).trans rfl
theorem tX12_lay_265 : tX12_lay 265 = oGet 12 12 268 := (congrFun teX12_lay 265).trans rfl
theorem tX12_lay_268 : tX12_lay 268 = oIl 1 269 := (congrFun teX12_lay 268).trans rfl
theorem tX12_lay_269 : tX12_lay 269 = oK (.int (nI 2)) 270 := (congrFun teX12_lay 269).trans rfl
theorem tX12_lay_270 : tX12_lay 270 = oSub 271 := (congrFun teX12_lay 270).trans rfl
theorem tX12_lay_271 : tX12_lay 271 = oIald 272 := (congrFun teX12_lay 271).trans rfl
theorem tX12_lay_272 : tX12_lay 272 = oIs 4 274 := (congrFun teX12_lay 272).trans rfl
theorem tX12_lay_274 : tX12_lay 274 = oIl 4 276 := (congrFun teX12_lay 274).trans rfl
theorem tX12_lay_276 : tX12_lay 276 = oAl 0 277 := (congrFun teX12_lay 276).trans rfl
theorem tX12_lay_277 : tX12_lay 277 = oGet 12 12 280 := (congrFun teX12_lay 277).trans rfl
theorem tX12_lay_280 : tX12_lay 280 = oIl 1 281 := (congrFun teX12_lay 280).trans rfl
theorem tX12_lay_281 : tX12_lay 281 = oK (.int (nI 1)) 282 := (congrFun teX12_lay 281).trans rfl
theorem tX12_lay_282 : tX12_lay 282 = oSub 283 := (congrFun teX12_lay 282).trans rfl
theorem tX12_lay_283 : tX12_lay 283 = oIald 284 := (congrFun teX12_lay 283).trans rfl
theorem tX12_lay_284 : tX12_lay 284 = oIf2ge 302 287 := (congrFun teX12_lay 284).trans rfl
theorem tX12_lay_287 : tX12_lay 287 = oAl 0 288 := (congrFun teX12_lay 287).trans rfl
theorem tX12_lay_288 : tX12_lay 288 = oIl 3 289 := (congrFun teX12_lay 288).trans rfl
theorem tX12_lay_289 : tX12_lay 289 = oK (.int (nI 0)) 290 := (congrFun teX12_lay 289).trans rfl
theorem tX12_lay_290 : tX12_lay 290 = oIl 4 292 := (congrFun teX12_lay 290).trans rfl
theorem tX12_lay_292 : tX12_lay 292 = oK (.int (-1)) 293 := (congrFun teX12_lay 292).trans rfl
theorem tX12_lay_293 : tX12_lay 293 = oCallV 12 mX12_add 4 296 := (congrFun teX12_lay 293).trans rfl
theorem tX12_lay_296 : tX12_lay 296 = oInc 4 (nI 1) 299 := (congrFun teX12_lay 296).trans rfl
theorem tX12_lay_299 : tX12_lay 299 = oGo 274 := (congrFun teX12_lay 299).trans rfl
theorem tX12_lay_302 : tX12_lay 302 = oInc 3 (nI 1) 305 := (congrFun teX12_lay 302).trans rfl
theorem tX12_lay_305 : tX12_lay 305 = oGo 254 := (congrFun teX12_lay 305).trans rfl
theorem tX12_lay_308 : tX12_lay 308 = oInc 1 (nI 1) 311 := (congrFun teX12_lay 308).trans rfl
theorem tX12_lay_311 : tX12_lay 311 = oGo 10 := (congrFun teX12_lay 311).trans rfl
theorem tX12_lay_314 : tX12_lay 314 = oAl 0 315 := (congrFun teX12_lay 314).trans rfl
theorem tX12_lay_315 : tX12_lay 315 = oGet 12 12 318 := (congrFun teX12_lay 315).trans rfl
theorem tX12_lay_318 : tX12_lay 318 = oK (.int (nI 11)) 320 := (congrFun teX12_lay 318).trans rfl
theorem tX12_lay_320 : tX12_lay 320 = oAl 0 321 := (congrFun teX12_lay 320).trans rfl
theorem tX12_lay_321 : tX12_lay 321 = oGet 12 11 324 := (congrFun teX12_lay 321).trans rfl
theorem tX12_lay_324 : tX12_lay 324 = oIast 325 := (congrFun teX12_lay 324).trans rfl
theorem tX12_lay_325 : tX12_lay 325 = oVret := (congrFun teX12_lay 325).trans rfl
def lX12_ends : List (Nat × qP) := [(0, oAl 0 1), (1, oGet 12 3 4), (4, oIl 1 5), (5, oIald 6), (6, oTab 0 [44, 77, 114, 136, 176, 160] 176), (44, oIl 2 45), (45, oAl 0 46), (46, oGet 12 2 49), (49, oIf2ge 75 52), (52, oAl 0 53), (53, oGet 12 1 56), (56, oIl 2 57), (57, oIald 58), (58, oAl 0 59), (59, oGet 12 4 62), (62, oIl 1 63), (63, oIald 64), (64, oIf2ne 75 67), (67, oK (.int (nI 1)) 68), (68, oIl 2 69), (69, oK (.int (nI 1)) 70), (70, oAdd 71), (71, oShl 72), (72, oGo 76), (75, oK (.int (nI 0)) 76), (76, oIret), (77, oIl 2 78), (78, oAl 0 79), (79, oGet 12 2 82), (82, oIf2ge 112 85), (85, oAl 0 86), (86, oGet 12 4 89), (89, oIl 1 90), (90, oIald 91), (91, oAl 0 92), (92, oGet 12 1 95), (95, oIl 2 96), (96, oIald 97), (97, oShr 98), (98, oK (.int (nI 1)) 99), (99, oAnd 100), (100, oK (.int (nI 1)) 101), (101, oIf2ne 112 104), (104, oK (.int (nI 1)) 105), (105, oIl 2 106), (106, oK (.int (nI 1)) 107), (107, oAdd 108), (108, oShl 109), (109, oGo 113), (112, oK (.int (nI 0)) 113), (113, oIret), (114, oAl 0 115), (115, oAl 0 116), (116, oGet 12 6 119), (119, oIl 1 120), (120, oIald 121), (121, oAl 0 122), (122, oAl 0 123), (123, oGet 12 5 126), (126, oIl 1 127), (127, oIald 128), (128, oIl 2 129), (129, oCallV 12 mX12_ends 2 132), (132, oCallV 12 mX12_behind 2 135), (135, oIret), (136, oAl 0 137), (137, oAl 0 138), (138, oGet 12 5 141), (141, oIl 1 142), (142, oIald 143), (143, oIl 2 144), (144, oCallV 12 mX12_ends 2 147), (147, oAl 0 148), (148, oAl 0 149), (149, oGet 12 6 152), (152, oIl 1 153), (153, oIald 154), (154, oIl 2 155), (155, oCallV 12 mX12_ends 2 158), (158, oOr 159), (159, oIret), (160, oAl 0 161), (161, oAl 0 162), (162, oGet 12 5 165), (165, oIl 1 166), (166, oIald 167), (167, oIl 2 168), (168, oCallV 12 mX12_ends 2 171), (171, oK (.int (nI 1)) 172), (172, oIl 2 173), (173, oShl 174), (174, oOr 175), (175, oIret), (176, oAl 0 177), (177, oAl 0 178), (178, oGet 12 5 181), (181, oIl 1 182), (182, oIald 183), (183, oIl 2 184), (184, oCallV 12 mX12_again 2 187), (187, oIret)]
def uX12_ends : Nat → qP := q_tb lX12_ends
set_option maxRecDepth 20000 in
theorem suX12_ends : q_Snd mX12_ends uX12_ends := by
  refine q_tb_ok ?_
  unfold lX12_ends
  refine q_fa (ok_aload_n (by decide +kernel : decode cX12_ends 0 = .ok (.aload_n 0, 1)) rfl rfl) ?_
  refine q_fa (ok_get (by decide +kernel : decode cX12_ends 1 = .ok (.getfield 13, 3)) rfl (rfl : vwCl[12]? = some (RX12, TX12, 58)) inX12 (by decide) g1007) ?_
  refine q_fa (ok_iload_n (by decide +kernel : decode cX12_ends 4 = .ok (.iload_n 1, 1)) rfl rfl) ?_
  refine q_fa (ok_iaload (by decide +kernel : decode cX12_ends 5 = .ok (.iaload, 1)) rfl) ?_
  refine q_fa (ok_table (by decide +kernel : decode cX12_ends 6 = .ok (.tableswitch 170 0 5 #[38, 71, 108, 130, 170, 154], 38)) (by decide) (by decide) (by decide) (by decide) (by decide)) ?_
  refine q_fa (ok_iload_n (by decide +kernel : decode cX12_ends 44 = .ok (.iload_n 2, 1)) rfl rfl) ?_
  refine q_fa (ok_aload_n (by decide +kernel : decode cX12_ends 45 = .ok (.aload_n 0, 1)) rfl rfl) ?_
  refine q_fa (ok_get (by decide +kernel : decode cX12_ends 46 = .ok (.getfield 135, 3)) rfl (rfl : vwCl[12]? = some (RX12, TX12, 58)) inX12 (by decide) g1006) ?_
  refine q_fa (ok_if2ge (by decide +kernel : decode cX12_ends 49 = .ok (.if_icmp .ge 26, 3)) (by decide) rfl) ?_
  refine q_fa (ok_aload_n (by decide +kernel : decode cX12_ends 52 = .ok (.aload_n 0, 1)) rfl rfl) ?_
  refine q_fa (ok_get (by decide +kernel : decode cX12_ends 53 = .ok (.getfield 7, 3)) rfl (rfl : vwCl[12]? = some (RX12, TX12, 58)) inX12 (by decide) g1005) ?_
  refine q_fa (ok_iload_n (by decide +kernel : decode cX12_ends 56 = .ok (.iload_n 2, 1)) rfl rfl) ?_
  refine q_fa (ok_iaload (by decide +kernel : decode cX12_ends 57 = .ok (.iaload, 1)) rfl) ?_
  refine q_fa (ok_aload_n (by decide +kernel : decode cX12_ends 58 = .ok (.aload_n 0, 1)) rfl rfl) ?_
  refine q_fa (ok_get (by decide +kernel : decode cX12_ends 59 = .ok (.getfield 16, 3)) rfl (rfl : vwCl[12]? = some (RX12, TX12, 58)) inX12 (by decide) g1008) ?_
  refine q_fa (ok_iload_n (by decide +kernel : decode cX12_ends 62 = .ok (.iload_n 1, 1)) rfl rfl) ?_
  refine q_fa (ok_iaload (by decide +kernel : decode cX12_ends 63 = .ok (.iaload, 1)) rfl) ?_
  refine q_fa (ok_if2ne (by decide +kernel : decode cX12_ends 64 = .ok (.if_icmp .ne 11, 3)) (by decide) rfl) ?_
  refine q_fa (ok_iconst (by decide +kernel : decode cX12_ends 67 = .ok (.iconst 1, 1)) rfl (by decide +kernel)) ?_
  refine q_fa (ok_iload_n (by decide +kernel : decode cX12_ends 68 = .ok (.iload_n 2, 1)) rfl rfl) ?_
  refine q_fa (ok_iconst (by decide +kernel : decode cX12_ends 69 = .ok (.iconst 1, 1)) rfl (by decide +kernel)) ?_
  refine q_fa (ok_iadd (by decide +kernel : decode cX12_ends 70 = .ok (.iadd, 1)) rfl) ?_
  refine q_fa (ok_ishl (by decide +kernel : decode cX12_ends 71 = .ok (.ishl, 1)) rfl) ?_
  refine q_fa (ok_goto (by decide +kernel : decode cX12_ends 72 = .ok (.goto 4, 3)) (by decide)) ?_
  refine q_fa (ok_iconst (by decide +kernel : decode cX12_ends 75 = .ok (.iconst 0, 1)) rfl (by decide +kernel)) ?_
  refine q_fa (ok_iret (by decide +kernel : decode cX12_ends 76 = .ok (.ireturn, 1)) rfl) ?_
  refine q_fa (ok_iload_n (by decide +kernel : decode cX12_ends 77 = .ok (.iload_n 2, 1)) rfl rfl) ?_
  refine q_fa (ok_aload_n (by decide +kernel : decode cX12_ends 78 = .ok (.aload_n 0, 1)) rfl rfl) ?_
  refine q_fa (ok_get (by decide +kernel : decode cX12_ends 79 = .ok (.getfield 135, 3)) rfl (rfl : vwCl[12]? = some (RX12, TX12, 58)) inX12 (by decide) g1006) ?_
  refine q_fa (ok_if2ge (by decide +kernel : decode cX12_ends 82 = .ok (.if_icmp .ge 30, 3)) (by decide) rfl) ?_
  refine q_fa (ok_aload_n (by decide +kernel : decode cX12_ends 85 = .ok (.aload_n 0, 1)) rfl rfl) ?_
  refine q_fa (ok_get (by decide +kernel : decode cX12_ends 86 = .ok (.getfield 16, 3)) rfl (rfl : vwCl[12]? = some (RX12, TX12, 58)) inX12 (by decide) g1008) ?_
  refine q_fa (ok_iload_n (by decide +kernel : decode cX12_ends 89 = .ok (.iload_n 1, 1)) rfl rfl) ?_
  refine q_fa (ok_iaload (by decide +kernel : decode cX12_ends 90 = .ok (.iaload, 1)) rfl) ?_
  refine q_fa (ok_aload_n (by decide +kernel : decode cX12_ends 91 = .ok (.aload_n 0, 1)) rfl rfl) ?_
  refine q_fa (ok_get (by decide +kernel : decode cX12_ends 92 = .ok (.getfield 7, 3)) rfl (rfl : vwCl[12]? = some (RX12, TX12, 58)) inX12 (by decide) g1005) ?_
  refine q_fa (ok_iload_n (by decide +kernel : decode cX12_ends 95 = .ok (.iload_n 2, 1)) rfl rfl) ?_
  refine q_fa (ok_iaload (by decide +kernel : decode cX12_ends 96 = .ok (.iaload, 1)) rfl) ?_
  refine q_fa (ok_ishr (by decide +kernel : decode cX12_ends 97 = .ok (.ishr, 1)) rfl) ?_
  refine q_fa (ok_iconst (by decide +kernel : decode cX12_ends 98 = .ok (.iconst 1, 1)) rfl (by decide +kernel)) ?_
  refine q_fa (ok_iand (by decide +kernel : decode cX12_ends 99 = .ok (.iand, 1)) rfl) ?_
  refine q_fa (ok_iconst (by decide +kernel : decode cX12_ends 100 = .ok (.iconst 1, 1)) rfl (by decide +kernel)) ?_
  refine q_fa (ok_if2ne (by decide +kernel : decode cX12_ends 101 = .ok (.if_icmp .ne 11, 3)) (by decide) rfl) ?_
  refine q_fa (ok_iconst (by decide +kernel : decode cX12_ends 104 = .ok (.iconst 1, 1)) rfl (by decide +kernel)) ?_
  refine q_fa (ok_iload_n (by decide +kernel : decode cX12_ends 105 = .ok (.iload_n 2, 1)) rfl rfl) ?_
  refine q_fa (ok_iconst (by decide +kernel : decode cX12_ends 106 = .ok (.iconst 1, 1)) rfl (by decide +kernel)) ?_
  refine q_fa (ok_iadd (by decide +kernel : decode cX12_ends 107 = .ok (.iadd, 1)) rfl) ?_
  refine q_fa (ok_ishl (by decide +kernel : decode cX12_ends 108 = .ok (.ishl, 1)) rfl) ?_
  refine q_fa (ok_goto (by decide +kernel : decode cX12_ends 109 = .ok (.goto 4, 3)) (by decide)) ?_
  refine q_fa (ok_iconst (by decide +kernel : decode cX12_ends 112 = .ok (.iconst 0, 1)) rfl (by decide +kernel)) ?_
  refine q_fa (ok_iret (by decide +kernel : decode cX12_ends 113 = .ok (.ireturn, 1)) rfl) ?_
  refine q_fa (ok_aload_n (by decide +kernel : decode cX12_ends 114 = .ok (.aload_n 0, 1)) rfl rfl) ?_
  refine q_fa (ok_aload_n (by decide +kernel : decode cX12_ends 115 = .ok (.aload_n 0, 1)) rfl rfl) ?_
  refine q_fa (ok_get (by decide +kernel : decode cX12_ends 116 = .ok (.getfield 22, 3)) rfl (rfl : vwCl[12]? = some (RX12, TX12, 58)) inX12 (by decide) g1010) ?_
  refine q_fa (ok_iload_n (by decide +kernel : decode cX12_ends 119 = .ok (.iload_n 1, 1)) rfl rfl) ?_
  refine q_fa (ok_iaload (by decide +kernel : decode cX12_ends 120 = .ok (.iaload, 1)) rfl) ?_
  refine q_fa (ok_aload_n (by decide +kernel : decode cX12_ends 121 = .ok (.aload_n 0, 1)) rfl rfl) ?_
  refine q_fa (ok_aload_n (by decide +kernel : decode cX12_ends 122 = .ok (.aload_n 0, 1)) rfl rfl) ?_
  refine q_fa (ok_get (by decide +kernel : decode cX12_ends 123 = .ok (.getfield 19, 3)) rfl (rfl : vwCl[12]? = some (RX12, TX12, 58)) inX12 (by decide) g1009) ?_
  refine q_fa (ok_iload_n (by decide +kernel : decode cX12_ends 126 = .ok (.iload_n 1, 1)) rfl rfl) ?_
  refine q_fa (ok_iaload (by decide +kernel : decode cX12_ends 127 = .ok (.iaload, 1)) rfl) ?_
  refine q_fa (ok_iload_n (by decide +kernel : decode cX12_ends 128 = .ok (.iload_n 2, 1)) rfl rfl) ?_
  refine q_fa (ok_callV (by decide +kernel : decode cX12_ends 129 = .ok (.invokevirtual 153, 3)) rfl kX12_ends.1 kX12_ends.2.1 kX12_ends.2.2.1 kX12_ends.2.2.2.1 kX12_ends.2.2.2.2 (rfl : vwCl[12]? = some (RX12, TX12, 58)) g1315 gs71 g1313) ?_
  refine q_fa (ok_callV (by decide +kernel : decode cX12_ends 132 = .ok (.invokevirtual 157, 3)) rfl kX12_behind.1 kX12_behind.2.1 kX12_behind.2.2.1 kX12_behind.2.2.2.1 kX12_behind.2.2.2.2 (rfl : vwCl[12]? = some (RX12, TX12, 58)) g1319 gs72 g1317) ?_
  refine q_fa (ok_iret (by decide +kernel : decode cX12_ends 135 = .ok (.ireturn, 1)) rfl) ?_
  refine q_fa (ok_aload_n (by decide +kernel : decode cX12_ends 136 = .ok (.aload_n 0, 1)) rfl rfl) ?_
  refine q_fa (ok_aload_n (by decide +kernel : decode cX12_ends 137 = .ok (.aload_n 0, 1)) rfl rfl) ?_
  refine q_fa (ok_get (by decide +kernel : decode cX12_ends 138 = .ok (.getfield 19, 3)) rfl (rfl : vwCl[12]? = some (RX12, TX12, 58)) inX12 (by decide) g1009) ?_
  refine q_fa (ok_iload_n (by decide +kernel : decode cX12_ends 141 = .ok (.iload_n 1, 1)) rfl rfl) ?_
  refine q_fa (ok_iaload (by decide +kernel : decode cX12_ends 142 = .ok (.iaload, 1)) rfl) ?_
  refine q_fa (ok_iload_n (by decide +kernel : decode cX12_ends 143 = .ok (.iload_n 2, 1)) rfl rfl) ?_
  refine q_fa (ok_callV (by decide +kernel : decode cX12_ends 144 = .ok (.invokevirtual 153, 3)) rfl kX12_ends.1 kX12_ends.2.1 kX12_ends.2.2.1 kX12_ends.2.2.2.1 kX12_ends.2.2.2.2 (rfl : vwCl[12]? = some (RX12, TX12, 58)) g1315 gs71 g1313) ?_
  refine q_fa (ok_aload_n (by decide +kernel : decode cX12_ends 147 = .ok (.aload_n 0, 1)) rfl rfl) ?_
  refine q_fa (ok_aload_n (by decide +kernel : decode cX12_ends 148 = .ok (.aload_n 0, 1)) rfl rfl) ?_
  refine q_fa (ok_get (by decide +kernel : decode cX12_ends 149 = .ok (.getfield 22, 3)) rfl (rfl : vwCl[12]? = some (RX12, TX12, 58)) inX12 (by decide) g1010) ?_
  refine q_fa (ok_iload_n (by decide +kernel : decode cX12_ends 152 = .ok (.iload_n 1, 1)) rfl rfl) ?_
  refine q_fa (ok_iaload (by decide +kernel : decode cX12_ends 153 = .ok (.iaload, 1)) rfl) ?_
  refine q_fa (ok_iload_n (by decide +kernel : decode cX12_ends 154 = .ok (.iload_n 2, 1)) rfl rfl) ?_
  refine q_fa (ok_callV (by decide +kernel : decode cX12_ends 155 = .ok (.invokevirtual 153, 3)) rfl kX12_ends.1 kX12_ends.2.1 kX12_ends.2.2.1 kX12_ends.2.2.2.1 kX12_ends.2.2.2.2 (rfl : vwCl[12]? = some (RX12, TX12, 58)) g1315 gs71 g1313) ?_
  refine q_fa (ok_ior (by decide +kernel : decode cX12_ends 158 = .ok (.ior, 1)) rfl) ?_
  refine q_fa (ok_iret (by decide +kernel : decode cX12_ends 159 = .ok (.ireturn, 1)) rfl) ?_
  refine q_fa (ok_aload_n (by decide +kernel : decode cX12_ends 160 = .ok (.aload_n 0, 1)) rfl rfl) ?_
  refine q_fa (ok_aload_n (by decide +kernel : decode cX12_ends 161 = .ok (.aload_n 0, 1)) rfl rfl) ?_
  refine q_fa (ok_get (by decide +kernel : decode cX12_ends 162 = .ok (.getfield 19, 3)) rfl (rfl : vwCl[12]? = some (RX12, TX12, 58)) inX12 (by decide) g1009) ?_
  refine q_fa (ok_iload_n (by decide +kernel : decode cX12_ends 165 = .ok (.iload_n 1, 1)) rfl rfl) ?_
  refine q_fa (ok_iaload (by decide +kernel : decode cX12_ends 166 = .ok (.iaload, 1)) rfl) ?_
  refine q_fa (ok_iload_n (by decide +kernel : decode cX12_ends 167 = .ok (.iload_n 2, 1)) rfl rfl) ?_
  refine q_fa (ok_callV (by decide +kernel : decode cX12_ends 168 = .ok (.invokevirtual 153, 3)) rfl kX12_ends.1 kX12_ends.2.1 kX12_ends.2.2.1 kX12_ends.2.2.2.1 kX12_ends.2.2.2.2 (rfl : vwCl[12]? = some (RX12, TX12, 58)) g1315 gs71 g1313) ?_
  refine q_fa (ok_iconst (by decide +kernel : decode cX12_ends 171 = .ok (.iconst 1, 1)) rfl (by decide +kernel)) ?_
  refine q_fa (ok_iload_n (by decide +kernel : decode cX12_ends 172 = .ok (.iload_n 2, 1)) rfl rfl) ?_
  refine q_fa (ok_ishl (by decide +kernel : decode cX12_ends 173 = .ok (.ishl, 1)) rfl) ?_
  refine q_fa (ok_ior (by decide +kernel : decode cX12_ends 174 = .ok (.ior, 1)) rfl) ?_
  refine q_fa (ok_iret (by decide +kernel : decode cX12_ends 175 = .ok (.ireturn, 1)) rfl) ?_
  refine q_fa (ok_aload_n (by decide +kernel : decode cX12_ends 176 = .ok (.aload_n 0, 1)) rfl rfl) ?_
  refine q_fa (ok_aload_n (by decide +kernel : decode cX12_ends 177 = .ok (.aload_n 0, 1)) rfl rfl) ?_
  refine q_fa (ok_get (by decide +kernel : decode cX12_ends 178 = .ok (.getfield 19, 3)) rfl (rfl : vwCl[12]? = some (RX12, TX12, 58)) inX12 (by decide) g1009) ?_
  refine q_fa (ok_iload_n (by decide +kernel : decode cX12_ends 181 = .ok (.iload_n 1, 1)) rfl rfl) ?_
  refine q_fa (ok_iaload (by decide +kernel : decode cX12_ends 182 = .ok (.iaload, 1)) rfl) ?_
  refine q_fa (ok_iload_n (by decide +kernel : decode cX12_ends 183 = .ok (.iload_n 2, 1)) rfl rfl) ?_
  refine q_fa (ok_callV (by decide +kernel : decode cX12_ends 184 = .ok (.invokevirtual 160, 3)) rfl kX12_again.1 kX12_again.2.1 kX12_again.2.2.1 kX12_again.2.2.2.1 kX12_again.2.2.2.2 (rfl : vwCl[12]? = some (RX12, TX12, 58)) g1323 gs73 g1321) ?_
  refine q_fa (ok_iret (by decide +kernel : decode cX12_ends 187 = .ok (.ireturn, 1)) rfl) ?_
  exact q_fa0
theorem exX12_ends : ∃ t : Nat → qP, t = uX12_ends := ⟨_, rfl⟩
noncomputable def tX12_ends : Nat → qP := Classical.choose exX12_ends
theorem teX12_ends : tX12_ends = uX12_ends := Classical.choose_spec exX12_ends
theorem sX12_ends : q_Snd mX12_ends tX12_ends := by rw [teX12_ends]; exact suX12_ends
theorem tX12_ends_0 : tX12_ends 0 = oAl 0 1 := (congrFun teX12_ends 0).trans rfl
theorem tX12_ends_1 : tX12_ends 1 = oGet 12 3 4 := (congrFun teX12_ends 1).trans rfl
theorem tX12_ends_4 : tX12_ends 4 = oIl 1 5 := (congrFun teX12_ends 4).trans rfl
theorem tX12_ends_5 : tX12_ends 5 = oIald 6 := (congrFun teX12_ends 5).trans rfl
theorem tX12_ends_6 : tX12_ends 6 = oTab 0 [44, 77, 114, 136, 176, 160] 176 := (congrFun teX12_ends 6).trans rfl
theorem tX12_ends_44 : tX12_ends 44 = oIl 2 45 := (congrFun teX12_ends 44).trans rfl
theorem tX12_ends_45 : tX12_ends 45 = oAl 0 46 := (congrFun teX12_ends 45).trans rfl
theorem tX12_ends_46 : tX12_ends 46 = oGet 12 2 49 := (congrFun teX12_ends 46).trans rfl
theorem tX12_ends_49 : tX12_ends 49 = oIf2ge 75 52 := (congrFun teX12_ends 49).trans rfl
theorem tX12_ends_52 : tX12_ends 52 = oAl 0 53 := (congrFun teX12_ends 52).trans rfl
theorem tX12_ends_53 : tX12_ends 53 = oGet 12 1 56 := (congrFun teX12_ends 53).trans rfl
theorem tX12_ends_56 : tX12_ends 56 = oIl 2 57 := (congrFun teX12_ends 56).trans rfl
theorem tX12_ends_57 : tX12_ends 57 = oIald 58 := (congrFun teX12_ends 57).trans rfl
theorem tX12_ends_58 : tX12_ends 58 = oAl 0 59 := (congrFun teX12_ends 58).trans rfl
theorem tX12_ends_59 : tX12_ends 59 = oGet 12 4 62 := (congrFun teX12_ends 59).trans rfl
theorem tX12_ends_62 : tX12_ends 62 = oIl 1 63 := (congrFun teX12_ends 62).trans rfl
theorem tX12_ends_63 : tX12_ends 63 = oIald 64 := (congrFun teX12_ends 63).trans rfl
theorem tX12_ends_64 : tX12_ends 64 = oIf2ne 75 67 := (congrFun teX12_ends 64).trans rfl
theorem tX12_ends_67 : tX12_ends 67 = oK (.int (nI 1)) 68 := (congrFun teX12_ends 67).trans rfl
theorem tX12_ends_68 : tX12_ends 68 = oIl 2 69 := (congrFun teX12_ends 68).trans rfl
theorem tX12_ends_69 : tX12_ends 69 = oK (.int (nI 1)) 70 := (congrFun teX12_ends 69).trans rfl
theorem tX12_ends_70 : tX12_ends 70 = oAdd 71 := (congrFun teX12_ends 70).trans rfl
theorem tX12_ends_71 : tX12_ends 71 = oShl 72 := (congrFun teX12_ends 71).trans rfl
theorem tX12_ends_72 : tX12_ends 72 = oGo 76 := (congrFun teX12_ends 72).trans rfl
theorem tX12_ends_75 : tX12_ends 75 = oK (.int (nI 0)) 76 := (congrFun teX12_ends 75).trans rfl
theorem tX12_ends_76 : tX12_ends 76 = oIret := (congrFun teX12_ends 76).trans rfl
theorem tX12_ends_77 : tX12_ends 77 = oIl 2 78 := (congrFun teX12_ends 77).trans rfl
theorem tX12_ends_78 : tX12_ends 78 = oAl 0 79 := (congrFun teX12_ends 78).trans rfl
theorem tX12_ends_79 : tX12_ends 79 = oGet 12 2 82 := (congrFun teX12_ends 79).trans rfl
theorem tX12_ends_82 : tX12_ends 82 = oIf2ge 112 85 := (congrFun teX12_ends 82).trans rfl
theorem tX12_ends_85 : tX12_ends 85 = oAl 0 86 := (congrFun teX12_ends 85).trans rfl
theorem tX12_ends_86 : tX12_ends 86 = oGet 12 4 89 := (congrFun teX12_ends 86).trans rfl
theorem tX12_ends_89 : tX12_ends 89 = oIl 1 90 := (congrFun teX12_ends 89).trans rfl
theorem tX12_ends_90 : tX12_ends 90 = oIald 91 := (congrFun teX12_ends 90).trans rfl
theorem tX12_ends_91 : tX12_ends 91 = oAl 0 92 := (congrFun teX12_ends 91).trans rfl
theorem tX12_ends_92 : tX12_ends 92 = oGet 12 1 95 := (congrFun teX12_ends 92).trans rfl
theorem tX12_ends_95 : tX12_ends 95 = oIl 2 96 := (congrFun teX12_ends 95).trans rfl
theorem tX12_ends_96 : tX12_ends 96 = oIald 97 := (congrFun teX12_ends 96).trans rfl
theorem tX12_ends_97 : tX12_ends 97 = oShr 98 := (congrFun teX12_ends 97).trans rfl
theorem tX12_ends_98 : tX12_ends 98 = oK (.int (nI 1)) 99 := (congrFun teX12_ends 98).trans rfl
theorem tX12_ends_99 : tX12_ends 99 = oAnd 100 := (congrFun teX12_ends 99).trans rfl
theorem tX12_ends_100 : tX12_ends 100 = oK (.int (nI 1)) 101 := (congrFun teX12_ends 100).trans rfl
theorem tX12_ends_101 : tX12_ends 101 = oIf2ne 112 104 := (congrFun teX12_ends 101).trans rfl
theorem tX12_ends_104 : tX12_ends 104 = oK (.int (nI 1)) 105 := (congrFun teX12_ends 104).trans rfl
theorem tX12_ends_105 : tX12_ends 105 = oIl 2 106 := (congrFun teX12_ends 105).trans rfl
theorem tX12_ends_106 : tX12_ends 106 = oK (.int (nI 1)) 107 := (congrFun teX12_ends 106).trans rfl
theorem tX12_ends_107 : tX12_ends 107 = oAdd 108 := (congrFun teX12_ends 107).trans rfl
theorem tX12_ends_108 : tX12_ends 108 = oShl 109 := (congrFun teX12_ends 108).trans rfl
theorem tX12_ends_109 : tX12_ends 109 = oGo 113 := (congrFun teX12_ends 109).trans rfl
theorem tX12_ends_112 : tX12_ends 112 = oK (.int (nI 0)) 113 := (congrFun teX12_ends 112).trans rfl
theorem tX12_ends_113 : tX12_ends 113 = oIret := (congrFun teX12_ends 113).trans rfl
theorem tX12_ends_114 : tX12_ends 114 = oAl 0 115 := (congrFun teX12_ends 114).trans rfl
theorem tX12_ends_115 : tX12_ends 115 = oAl 0 116 := (congrFun teX12_ends 115).trans rfl
theorem tX12_ends_116 : tX12_ends 116 = oGet 12 6 119 := (congrFun teX12_ends 116).trans rfl
theorem tX12_ends_119 : tX12_ends 119 = oIl 1 120 := (congrFun teX12_ends 119).trans rfl
theorem tX12_ends_120 : tX12_ends 120 = oIald 121 := (congrFun teX12_ends 120).trans rfl
theorem tX12_ends_121 : tX12_ends 121 = oAl 0 122 := (congrFun teX12_ends 121).trans rfl
theorem tX12_ends_122 : tX12_ends 122 = oAl 0 123 := (congrFun teX12_ends 122).trans rfl
theorem tX12_ends_123 : tX12_ends 123 = oGet 12 5 126 := (congrFun teX12_ends 123).trans rfl
theorem tX12_ends_126 : tX12_ends 126 = oIl 1 127 := (congrFun teX12_ends 126).trans rfl
theorem tX12_ends_127 : tX12_ends 127 = oIald 128 := (congrFun teX12_ends 127).trans rfl
theorem tX12_ends_128 : tX12_ends 128 = oIl 2 129 := (congrFun teX12_ends 128).trans rfl
theorem tX12_ends_129 : tX12_ends 129 = oCallV 12 mX12_ends 2 132 := (congrFun teX12_ends 129).trans rfl
theorem tX12_ends_132 : tX12_ends 132 = oCallV 12 mX12_behind 2 135 := (congrFun teX12_ends 132).trans rfl
theorem tX12_ends_135 : tX12_ends 135 = oIret := (congrFun teX12_ends 135).trans rfl
theorem tX12_ends_136 : tX12_ends 136 = oAl 0 137 := (congrFun teX12_ends 136).trans rfl
theorem tX12_ends_137 : tX12_ends 137 = oAl 0 138 := (congrFun teX12_ends 137).trans rfl
theorem tX12_ends_138 : tX12_ends 138 = oGet 12 5 141 := (congrFun teX12_ends 138).trans rfl
theorem tX12_ends_141 : tX12_ends 141 = oIl 1 142 := (congrFun teX12_ends 141).trans rfl
theorem tX12_ends_142 : tX12_ends 142 = oIald 143 := (congrFun teX12_ends 142).trans rfl
theorem tX12_ends_143 : tX12_ends 143 = oIl 2 144 := (congrFun teX12_ends 143).trans rfl
theorem tX12_ends_144 : tX12_ends 144 = oCallV 12 mX12_ends 2 147 := (congrFun teX12_ends 144).trans rfl
theorem tX12_ends_147 : tX12_ends 147 = oAl 0 148 := (congrFun teX12_ends 147).trans rfl
theorem tX12_ends_148 : tX12_ends 148 = oAl 0 149 := (congrFun teX12_ends 148).trans rfl
theorem tX12_ends_149 : tX12_ends 149 = oGet 12 6 152 := (congrFun teX12_ends 149).trans rfl
theorem tX12_ends_152 : tX12_ends 152 = oIl 1 153 := (congrFun teX12_ends 152).trans rfl
theorem tX12_ends_153 : tX12_ends 153 = oIald 154 := (congrFun teX12_ends 153).trans rfl
theorem tX12_ends_154 : tX12_ends 154 = oIl 2 155 := (congrFun teX12_ends 154).trans rfl
theorem tX12_ends_155 : tX12_ends 155 = oCallV 12 mX12_ends 2 158 := (congrFun teX12_ends 155).trans rfl
theorem tX12_ends_158 : tX12_ends 158 = oOr 159 := (congrFun teX12_ends 158).trans rfl
theorem tX12_ends_159 : tX12_ends 159 = oIret := (congrFun teX12_ends 159).trans rfl
theorem tX12_ends_160 : tX12_ends 160 = oAl 0 161 := (congrFun teX12_ends 160).trans rfl
theorem tX12_ends_161 : tX12_ends 161 = oAl 0 162 := (congrFun teX12_ends 161).trans rfl
theorem tX12_ends_162 : tX12_ends 162 = oGet 12 5 165 := (congrFun teX12_ends 162).trans rfl
theorem tX12_ends_165 : tX12_ends 165 = oIl 1 166 := (congrFun teX12_ends 165).trans rfl
theorem tX12_ends_166 : tX12_ends 166 = oIald 167 := (congrFun teX12_ends 166).trans rfl
theorem tX12_ends_167 : tX12_ends 167 = oIl 2 168 := (congrFun teX12_ends 167).trans rfl
theorem tX12_ends_168 : tX12_ends 168 = oCallV 12 mX12_ends 2 171 := (congrFun teX12_ends 168).trans rfl
theorem tX12_ends_171 : tX12_ends 171 = oK (.int (nI 1)) 172 := (congrFun teX12_ends 171).trans rfl
theorem tX12_ends_172 : tX12_ends 172 = oIl 2 173 := (congrFun teX12_ends 172).trans rfl
theorem tX12_ends_173 : tX12_ends 173 = oShl 174 := (congrFun teX12_ends 173).trans rfl
theorem tX12_ends_174 : tX12_ends 174 = oOr 175 := (congrFun teX12_ends 174).trans rfl
theorem tX12_ends_175 : tX12_ends 175 = oIret := (congrFun teX12_ends 175).trans rfl
theorem tX12_ends_176 : tX12_ends 176 = oAl 0 177 := (congrFun teX12_ends 176).trans rfl
theorem tX12_ends_177 : tX12_ends 177 = oAl 0 178 := (congrFun teX12_ends 177).trans rfl
theorem tX12_ends_178 : tX12_ends 178 = oGet 12 5 181 := (congrFun teX12_ends 178).trans rfl
theorem tX12_ends_181 : tX12_ends 181 = oIl 1 182 := (congrFun teX12_ends 181).trans rfl
theorem tX12_ends_182 : tX12_ends 182 = oIald 183 := (congrFun teX12_ends 182).trans rfl
theorem tX12_ends_183 : tX12_ends 183 = oIl 2 184 := (congrFun teX12_ends 183).trans rfl
theorem tX12_ends_184 : tX12_ends 184 = oCallV 12 mX12_again 2 187 := (congrFun teX12_ends 184).trans rfl
theorem tX12_ends_187 : tX12_ends 187 = oIret := (congrFun teX12_ends 187).trans rfl
def lX12_behind : List (Nat × qP) := [(0, oK (.int (nI 0)) 1), (1, oIs 3 2), (2, oK (.int (nI 0)) 3), (3, oIs 4 5), (5, oIl 4 7), (7, oAl 0 8), (8, oGet 12 2 11), (11, oIf2gt 40 14), (14, oIl 2 15), (15, oIl 4 17), (17, oShr 18), (18, oK (.int (nI 1)) 19), (19, oAnd 20), (20, oK (.int (nI 1)) 21), (21, oIf2ne 34 24), (24, oIl 3 25), (25, oAl 0 26), (26, oIl 1 27), (27, oIl 4 29), (29, oCallV 12 mX12_ends 2 32), (32, oOr 33), (33, oIs 3 34), (34, oInc 4 (nI 1) 37), (37, oGo 5), (40, oIl 3 41), (41, oIret)]
def uX12_behind : Nat → qP := q_tb lX12_behind
set_option maxRecDepth 20000 in
theorem suX12_behind : q_Snd mX12_behind uX12_behind := by
  refine q_tb_ok ?_
  unfold lX12_behind
  refine q_fa (ok_iconst (by decide +kernel : decode cX12_behind 0 = .ok (.iconst 0, 1)) rfl (by decide +kernel)) ?_
  refine q_fa (ok_istore_n (by decide +kernel : decode cX12_behind 1 = .ok (.istore_n 3, 1)) rfl rfl (by decide)) ?_
  refine q_fa (ok_iconst (by decide +kernel : decode cX12_behind 2 = .ok (.iconst 0, 1)) rfl (by decide +kernel)) ?_
  refine q_fa (ok_istore (by decide +kernel : decode cX12_behind 3 = .ok (.istore 4, 2)) rfl (by decide)) ?_
  refine q_fa (ok_iload (by decide +kernel : decode cX12_behind 5 = .ok (.iload 4, 2)) rfl) ?_
  refine q_fa (ok_aload_n (by decide +kernel : decode cX12_behind 7 = .ok (.aload_n 0, 1)) rfl rfl) ?_
  refine q_fa (ok_get (by decide +kernel : decode cX12_behind 8 = .ok (.getfield 135, 3)) rfl (rfl : vwCl[12]? = some (RX12, TX12, 58)) inX12 (by decide) g1006) ?_
  refine q_fa (ok_if2gt (by decide +kernel : decode cX12_behind 11 = .ok (.if_icmp .gt 29, 3)) (by decide) rfl) ?_
  refine q_fa (ok_iload_n (by decide +kernel : decode cX12_behind 14 = .ok (.iload_n 2, 1)) rfl rfl) ?_
  refine q_fa (ok_iload (by decide +kernel : decode cX12_behind 15 = .ok (.iload 4, 2)) rfl) ?_
  refine q_fa (ok_ishr (by decide +kernel : decode cX12_behind 17 = .ok (.ishr, 1)) rfl) ?_
  refine q_fa (ok_iconst (by decide +kernel : decode cX12_behind 18 = .ok (.iconst 1, 1)) rfl (by decide +kernel)) ?_
  refine q_fa (ok_iand (by decide +kernel : decode cX12_behind 19 = .ok (.iand, 1)) rfl) ?_
  refine q_fa (ok_iconst (by decide +kernel : decode cX12_behind 20 = .ok (.iconst 1, 1)) rfl (by decide +kernel)) ?_
  refine q_fa (ok_if2ne (by decide +kernel : decode cX12_behind 21 = .ok (.if_icmp .ne 13, 3)) (by decide) rfl) ?_
  refine q_fa (ok_iload_n (by decide +kernel : decode cX12_behind 24 = .ok (.iload_n 3, 1)) rfl rfl) ?_
  refine q_fa (ok_aload_n (by decide +kernel : decode cX12_behind 25 = .ok (.aload_n 0, 1)) rfl rfl) ?_
  refine q_fa (ok_iload_n (by decide +kernel : decode cX12_behind 26 = .ok (.iload_n 1, 1)) rfl rfl) ?_
  refine q_fa (ok_iload (by decide +kernel : decode cX12_behind 27 = .ok (.iload 4, 2)) rfl) ?_
  refine q_fa (ok_callV (by decide +kernel : decode cX12_behind 29 = .ok (.invokevirtual 153, 3)) rfl kX12_ends.1 kX12_ends.2.1 kX12_ends.2.2.1 kX12_ends.2.2.2.1 kX12_ends.2.2.2.2 (rfl : vwCl[12]? = some (RX12, TX12, 58)) g1315 gs71 g1313) ?_
  refine q_fa (ok_ior (by decide +kernel : decode cX12_behind 32 = .ok (.ior, 1)) rfl) ?_
  refine q_fa (ok_istore_n (by decide +kernel : decode cX12_behind 33 = .ok (.istore_n 3, 1)) rfl rfl (by decide)) ?_
  refine q_fa (ok_iinc (by decide +kernel : decode cX12_behind 34 = .ok (.iinc 4 1, 3)) rfl (by decide +kernel) (by decide)) ?_
  refine q_fa (ok_goto (by decide +kernel : decode cX12_behind 37 = .ok (.goto (-32), 3)) (by decide)) ?_
  refine q_fa (ok_iload_n (by decide +kernel : decode cX12_behind 40 = .ok (.iload_n 3, 1)) rfl rfl) ?_
  refine q_fa (ok_iret (by decide +kernel : decode cX12_behind 41 = .ok (.ireturn, 1)) rfl) ?_
  exact q_fa0
theorem exX12_behind : ∃ t : Nat → qP, t = uX12_behind := ⟨_, rfl⟩
noncomputable def tX12_behind : Nat → qP := Classical.choose exX12_behind
theorem teX12_behind : tX12_behind = uX12_behind := Classical.choose_spec exX12_behind
theorem sX12_behind : q_Snd mX12_behind tX12_behind := by rw [teX12_behind]; exact suX12_behind
theorem tX12_behind_0 : tX12_behind 0 = oK (.int (nI 0)) 1 := (congrFun teX12_behind 0).trans rfl
theorem tX12_behind_1 : tX12_behind 1 = oIs 3 2 := (congrFun teX12_behind 1).trans rfl
theorem tX12_behind_2 : tX12_behind 2 = oK (.int (nI 0)) 3 := (congrFun teX12_behind 2).trans rfl
theorem tX12_behind_3 : tX12_behind 3 = oIs 4 5 := (congrFun teX12_behind 3).trans rfl
theorem tX12_behind_5 : tX12_behind 5 = oIl 4 7 := (congrFun teX12_behind 5).trans rfl
theorem tX12_behind_7 : tX12_behind 7 = oAl 0 8 := (congrFun teX12_behind 7).trans rfl
theorem tX12_behind_8 : tX12_behind 8 = oGet 12 2 11 := (congrFun teX12_behind 8).trans rfl
theorem tX12_behind_11 : tX12_behind 11 = oIf2gt 40 14 := (congrFun teX12_behind 11).trans rfl
theorem tX12_behind_14 : tX12_behind 14 = oIl 2 15 := (congrFun teX12_behind 14).trans rfl
theorem tX12_behind_15 : tX12_behind 15 = oIl 4 17 := (congrFun teX12_behind 15).trans rfl
theorem tX12_behind_17 : tX12_behind 17 = oShr 18 := (congrFun teX12_behind 17).trans rfl
theorem tX12_behind_18 : tX12_behind 18 = oK (.int (nI 1)) 19 := (congrFun teX12_behind 18).trans rfl
theorem tX12_behind_19 : tX12_behind 19 = oAnd 20 := (congrFun teX12_behind 19).trans rfl
theorem tX12_behind_20 : tX12_behind 20 = oK (.int (nI 1)) 21 := (congrFun teX12_behind 20).trans rfl
theorem tX12_behind_21 : tX12_behind 21 = oIf2ne 34 24 := (congrFun teX12_behind 21).trans rfl
theorem tX12_behind_24 : tX12_behind 24 = oIl 3 25 := (congrFun teX12_behind 24).trans rfl
theorem tX12_behind_25 : tX12_behind 25 = oAl 0 26 := (congrFun teX12_behind 25).trans rfl
theorem tX12_behind_26 : tX12_behind 26 = oIl 1 27 := (congrFun teX12_behind 26).trans rfl
theorem tX12_behind_27 : tX12_behind 27 = oIl 4 29 := (congrFun teX12_behind 27).trans rfl
theorem tX12_behind_29 : tX12_behind 29 = oCallV 12 mX12_ends 2 32 := (congrFun teX12_behind 29).trans rfl
theorem tX12_behind_32 : tX12_behind 32 = oOr 33 := (congrFun teX12_behind 32).trans rfl
theorem tX12_behind_33 : tX12_behind 33 = oIs 3 34 := (congrFun teX12_behind 33).trans rfl
theorem tX12_behind_34 : tX12_behind 34 = oInc 4 (nI 1) 37 := (congrFun teX12_behind 34).trans rfl
theorem tX12_behind_37 : tX12_behind 37 = oGo 5 := (congrFun teX12_behind 37).trans rfl
theorem tX12_behind_40 : tX12_behind 40 = oIl 3 41 := (congrFun teX12_behind 40).trans rfl
theorem tX12_behind_41 : tX12_behind 41 = oIret := (congrFun teX12_behind 41).trans rfl
def lX12_again : List (Nat × qP) := [(0, oAl 0 1), (1, oIl 1 2), (2, oIl 2 3), (3, oCallV 12 mX12_ends 2 6), (6, oIs 3 7), (7, oK (.int (nI 0)) 8), (8, oIs 4 10), (10, oIl 4 12), (12, oIl 3 13), (13, oIf2eq 31 16), (16, oIl 3 17), (17, oIs 4 19), (19, oIl 3 20), (20, oAl 0 21), (21, oIl 1 22), (22, oIl 3 23), (23, oCallV 12 mX12_behind 2 26), (26, oOr 27), (27, oIs 3 28), (28, oGo 10), (31, oIl 3 32), (32, oIret)]
def uX12_again : Nat → qP := q_tb lX12_again
set_option maxRecDepth 20000 in
theorem suX12_again : q_Snd mX12_again uX12_again := by
  refine q_tb_ok ?_
  unfold lX12_again
  refine q_fa (ok_aload_n (by decide +kernel : decode cX12_again 0 = .ok (.aload_n 0, 1)) rfl rfl) ?_
  refine q_fa (ok_iload_n (by decide +kernel : decode cX12_again 1 = .ok (.iload_n 1, 1)) rfl rfl) ?_
  refine q_fa (ok_iload_n (by decide +kernel : decode cX12_again 2 = .ok (.iload_n 2, 1)) rfl rfl) ?_
  refine q_fa (ok_callV (by decide +kernel : decode cX12_again 3 = .ok (.invokevirtual 153, 3)) rfl kX12_ends.1 kX12_ends.2.1 kX12_ends.2.2.1 kX12_ends.2.2.2.1 kX12_ends.2.2.2.2 (rfl : vwCl[12]? = some (RX12, TX12, 58)) g1315 gs71 g1313) ?_
  refine q_fa (ok_istore_n (by decide +kernel : decode cX12_again 6 = .ok (.istore_n 3, 1)) rfl rfl (by decide)) ?_
  refine q_fa (ok_iconst (by decide +kernel : decode cX12_again 7 = .ok (.iconst 0, 1)) rfl (by decide +kernel)) ?_
  refine q_fa (ok_istore (by decide +kernel : decode cX12_again 8 = .ok (.istore 4, 2)) rfl (by decide)) ?_
  refine q_fa (ok_iload (by decide +kernel : decode cX12_again 10 = .ok (.iload 4, 2)) rfl) ?_
  refine q_fa (ok_iload_n (by decide +kernel : decode cX12_again 12 = .ok (.iload_n 3, 1)) rfl rfl) ?_
  refine q_fa (ok_if2eq (by decide +kernel : decode cX12_again 13 = .ok (.if_icmp .eq 18, 3)) (by decide) rfl) ?_
  refine q_fa (ok_iload_n (by decide +kernel : decode cX12_again 16 = .ok (.iload_n 3, 1)) rfl rfl) ?_
  refine q_fa (ok_istore (by decide +kernel : decode cX12_again 17 = .ok (.istore 4, 2)) rfl (by decide)) ?_
  refine q_fa (ok_iload_n (by decide +kernel : decode cX12_again 19 = .ok (.iload_n 3, 1)) rfl rfl) ?_
  refine q_fa (ok_aload_n (by decide +kernel : decode cX12_again 20 = .ok (.aload_n 0, 1)) rfl rfl) ?_
  refine q_fa (ok_iload_n (by decide +kernel : decode cX12_again 21 = .ok (.iload_n 1, 1)) rfl rfl) ?_
  refine q_fa (ok_iload_n (by decide +kernel : decode cX12_again 22 = .ok (.iload_n 3, 1)) rfl rfl) ?_
  refine q_fa (ok_callV (by decide +kernel : decode cX12_again 23 = .ok (.invokevirtual 157, 3)) rfl kX12_behind.1 kX12_behind.2.1 kX12_behind.2.2.1 kX12_behind.2.2.2.1 kX12_behind.2.2.2.2 (rfl : vwCl[12]? = some (RX12, TX12, 58)) g1319 gs72 g1317) ?_
  refine q_fa (ok_ior (by decide +kernel : decode cX12_again 26 = .ok (.ior, 1)) rfl) ?_
  refine q_fa (ok_istore_n (by decide +kernel : decode cX12_again 27 = .ok (.istore_n 3, 1)) rfl rfl (by decide)) ?_
  refine q_fa (ok_goto (by decide +kernel : decode cX12_again 28 = .ok (.goto (-18), 3)) (by decide)) ?_
  refine q_fa (ok_iload_n (by decide +kernel : decode cX12_again 31 = .ok (.iload_n 3, 1)) rfl rfl) ?_
  refine q_fa (ok_iret (by decide +kernel : decode cX12_again 32 = .ok (.ireturn, 1)) rfl) ?_
  exact q_fa0
theorem exX12_again : ∃ t : Nat → qP, t = uX12_again := ⟨_, rfl⟩
noncomputable def tX12_again : Nat → qP := Classical.choose exX12_again
theorem teX12_again : tX12_again = uX12_again := Classical.choose_spec exX12_again
theorem sX12_again : q_Snd mX12_again tX12_again := by rw [teX12_again]; exact suX12_again
theorem tX12_again_0 : tX12_again 0 = oAl 0 1 := (congrFun teX12_again 0).trans rfl
theorem tX12_again_1 : tX12_again 1 = oIl 1 2 := (congrFun teX12_again 1).trans rfl
theorem tX12_again_2 : tX12_again 2 = oIl 2 3 := (congrFun teX12_again 2).trans rfl
theorem tX12_again_3 : tX12_again 3 = oCallV 12 mX12_ends 2 6 := (congrFun teX12_again 3).trans rfl
theorem tX12_again_6 : tX12_again 6 = oIs 3 7 := (congrFun teX12_again 6).trans rfl
theorem tX12_again_7 : tX12_again 7 = oK (.int (nI 0)) 8 := (congrFun teX12_again 7).trans rfl
theorem tX12_again_8 : tX12_again 8 = oIs 4 10 := (congrFun teX12_again 8).trans rfl
theorem tX12_again_10 : tX12_again 10 = oIl 4 12 := (congrFun teX12_again 10).trans rfl
theorem tX12_again_12 : tX12_again 12 = oIl 3 13 := (congrFun teX12_again 12).trans rfl
theorem tX12_again_13 : tX12_again 13 = oIf2eq 31 16 := (congrFun teX12_again 13).trans rfl
theorem tX12_again_16 : tX12_again 16 = oIl 3 17 := (congrFun teX12_again 16).trans rfl
theorem tX12_again_17 : tX12_again 17 = oIs 4 19 := (congrFun teX12_again 17).trans rfl
theorem tX12_again_19 : tX12_again 19 = oIl 3 20 := (congrFun teX12_again 19).trans rfl
theorem tX12_again_20 : tX12_again 20 = oAl 0 21 := (congrFun teX12_again 20).trans rfl
theorem tX12_again_21 : tX12_again 21 = oIl 1 22 := (congrFun teX12_again 21).trans rfl
theorem tX12_again_22 : tX12_again 22 = oIl 3 23 := (congrFun teX12_again 22).trans rfl
theorem tX12_again_23 : tX12_again 23 = oCallV 12 mX12_behind 2 26 := (congrFun teX12_again 23).trans rfl
theorem tX12_again_26 : tX12_again 26 = oOr 27 := (congrFun teX12_again 26).trans rfl
theorem tX12_again_27 : tX12_again 27 = oIs 3 28 := (congrFun teX12_again 27).trans rfl
theorem tX12_again_28 : tX12_again 28 = oGo 10 := (congrFun teX12_again 28).trans rfl
theorem tX12_again_31 : tX12_again 31 = oIl 3 32 := (congrFun teX12_again 31).trans rfl
theorem tX12_again_32 : tX12_again 32 = oIret := (congrFun teX12_again 32).trans rfl
def lX12_isFit : List (Nat × qP) := [(0, oAl 0 1), (1, oIl 1 2), (2, oK (.int (nI 0)) 3), (3, oCallV 12 mX12_ends 2 6), (6, oAl 0 7), (7, oGet 12 2 10), (10, oShr 11), (11, oK (.int (nI 1)) 12), (12, oAnd 13), (13, oK (.int (nI 1)) 14), (14, oIf2ne 21 17), (17, oK (.int (nI 1)) 18), (18, oGo 22), (21, oK (.int (nI 0)) 22), (22, oZret)]
def uX12_isFit : Nat → qP := q_tb lX12_isFit
set_option maxRecDepth 20000 in
theorem suX12_isFit : q_Snd mX12_isFit uX12_isFit := by
  refine q_tb_ok ?_
  unfold lX12_isFit
  refine q_fa (ok_aload_n (by decide +kernel : decode cX12_isFit 0 = .ok (.aload_n 0, 1)) rfl rfl) ?_
  refine q_fa (ok_iload_n (by decide +kernel : decode cX12_isFit 1 = .ok (.iload_n 1, 1)) rfl rfl) ?_
  refine q_fa (ok_iconst (by decide +kernel : decode cX12_isFit 2 = .ok (.iconst 0, 1)) rfl (by decide +kernel)) ?_
  refine q_fa (ok_callV (by decide +kernel : decode cX12_isFit 3 = .ok (.invokevirtual 153, 3)) rfl kX12_ends.1 kX12_ends.2.1 kX12_ends.2.2.1 kX12_ends.2.2.2.1 kX12_ends.2.2.2.2 (rfl : vwCl[12]? = some (RX12, TX12, 58)) g1315 gs71 g1313) ?_
  refine q_fa (ok_aload_n (by decide +kernel : decode cX12_isFit 6 = .ok (.aload_n 0, 1)) rfl rfl) ?_
  refine q_fa (ok_get (by decide +kernel : decode cX12_isFit 7 = .ok (.getfield 135, 3)) rfl (rfl : vwCl[12]? = some (RX12, TX12, 58)) inX12 (by decide) g1006) ?_
  refine q_fa (ok_ishr (by decide +kernel : decode cX12_isFit 10 = .ok (.ishr, 1)) rfl) ?_
  refine q_fa (ok_iconst (by decide +kernel : decode cX12_isFit 11 = .ok (.iconst 1, 1)) rfl (by decide +kernel)) ?_
  refine q_fa (ok_iand (by decide +kernel : decode cX12_isFit 12 = .ok (.iand, 1)) rfl) ?_
  refine q_fa (ok_iconst (by decide +kernel : decode cX12_isFit 13 = .ok (.iconst 1, 1)) rfl (by decide +kernel)) ?_
  refine q_fa (ok_if2ne (by decide +kernel : decode cX12_isFit 14 = .ok (.if_icmp .ne 7, 3)) (by decide) rfl) ?_
  refine q_fa (ok_iconst (by decide +kernel : decode cX12_isFit 17 = .ok (.iconst 1, 1)) rfl (by decide +kernel)) ?_
  refine q_fa (ok_goto (by decide +kernel : decode cX12_isFit 18 = .ok (.goto 4, 3)) (by decide)) ?_
  refine q_fa (ok_iconst (by decide +kernel : decode cX12_isFit 21 = .ok (.iconst 0, 1)) rfl (by decide +kernel)) ?_
  refine q_fa (ok_zret (by decide +kernel : decode cX12_isFit 22 = .ok (.ireturn, 1)) rfl) ?_
  exact q_fa0
theorem exX12_isFit : ∃ t : Nat → qP, t = uX12_isFit := ⟨_, rfl⟩
noncomputable def tX12_isFit : Nat → qP := Classical.choose exX12_isFit
theorem teX12_isFit : tX12_isFit = uX12_isFit := Classical.choose_spec exX12_isFit
theorem sX12_isFit : q_Snd mX12_isFit tX12_isFit := by rw [teX12_isFit]; exact suX12_isFit
theorem tX12_isFit_0 : tX12_isFit 0 = oAl 0 1 := (congrFun teX12_isFit 0).trans rfl
theorem tX12_isFit_1 : tX12_isFit 1 = oIl 1 2 := (congrFun teX12_isFit 1).trans rfl
theorem tX12_isFit_2 : tX12_isFit 2 = oK (.int (nI 0)) 3 := (congrFun teX12_isFit 2).trans rfl
theorem tX12_isFit_3 : tX12_isFit 3 = oCallV 12 mX12_ends 2 6 := (congrFun teX12_isFit 3).trans rfl
theorem tX12_isFit_6 : tX12_isFit 6 = oAl 0 7 := (congrFun teX12_isFit 6).trans rfl
theorem tX12_isFit_7 : tX12_isFit 7 = oGet 12 2 10 := (congrFun teX12_isFit 7).trans rfl
theorem tX12_isFit_10 : tX12_isFit 10 = oShr 11 := (congrFun teX12_isFit 10).trans rfl
theorem tX12_isFit_11 : tX12_isFit 11 = oK (.int (nI 1)) 12 := (congrFun teX12_isFit 11).trans rfl
theorem tX12_isFit_12 : tX12_isFit 12 = oAnd 13 := (congrFun teX12_isFit 12).trans rfl
theorem tX12_isFit_13 : tX12_isFit 13 = oK (.int (nI 1)) 14 := (congrFun teX12_isFit 13).trans rfl
theorem tX12_isFit_14 : tX12_isFit 14 = oIf2ne 21 17 := (congrFun teX12_isFit 14).trans rfl
theorem tX12_isFit_17 : tX12_isFit 17 = oK (.int (nI 1)) 18 := (congrFun teX12_isFit 17).trans rfl
theorem tX12_isFit_18 : tX12_isFit 18 = oGo 22 := (congrFun teX12_isFit 18).trans rfl
theorem tX12_isFit_21 : tX12_isFit 21 = oK (.int (nI 0)) 22 := (congrFun teX12_isFit 21).trans rfl
theorem tX12_isFit_22 : tX12_isFit 22 = oZret := (congrFun teX12_isFit 22).trans rfl
def lX12_outOf : List (Nat × qP) := [(0, oK (.int (nI 0)) 1), (1, oIs 2 2), (2, oIl 2 3), (3, oAl 0 4), (4, oGet 12 2 7), (7, oIf2ge 61 10), (10, oAl 0 11), (11, oIl 1 12), (12, oIl 2 13), (13, oCallV 12 mX12_ends 2 16), (16, oIs 3 17), (17, oAl 0 18), (18, oGet 12 2 21), (21, oIs 4 23), (23, oIl 4 25), (25, oIl 2 26), (26, oIf2le 55 29), (29, oIl 3 30), (30, oIl 4 32), (32, oShr 33), (33, oK (.int (nI 1)) 34), (34, oAnd 35), (35, oK (.int (nI 1)) 36), (36, oIf2ne 49 39), (39, oK (.int (nI 100)) 41), (41, oIl 2 42), (42, oMul 43), (43, oIl 4 45), (45, oAdd 46), (46, oIl 2 47), (47, oSub 48), (48, oIret), (49, oInc 4 (-1) 52), (52, oGo 23), (55, oInc 2 (nI 1) 58), (58, oGo 2), (61, oK (.int (-2)) 63), (63, oIret)]
def uX12_outOf : Nat → qP := q_tb lX12_outOf
set_option maxRecDepth 20000 in
theorem suX12_outOf : q_Snd mX12_outOf uX12_outOf := by
  refine q_tb_ok ?_
  unfold lX12_outOf
  refine q_fa (ok_iconst (by decide +kernel : decode cX12_outOf 0 = .ok (.iconst 0, 1)) rfl (by decide +kernel)) ?_
  refine q_fa (ok_istore_n (by decide +kernel : decode cX12_outOf 1 = .ok (.istore_n 2, 1)) rfl rfl (by decide)) ?_
  refine q_fa (ok_iload_n (by decide +kernel : decode cX12_outOf 2 = .ok (.iload_n 2, 1)) rfl rfl) ?_
  refine q_fa (ok_aload_n (by decide +kernel : decode cX12_outOf 3 = .ok (.aload_n 0, 1)) rfl rfl) ?_
  refine q_fa (ok_get (by decide +kernel : decode cX12_outOf 4 = .ok (.getfield 135, 3)) rfl (rfl : vwCl[12]? = some (RX12, TX12, 58)) inX12 (by decide) g1006) ?_
  refine q_fa (ok_if2ge (by decide +kernel : decode cX12_outOf 7 = .ok (.if_icmp .ge 54, 3)) (by decide) rfl) ?_
  refine q_fa (ok_aload_n (by decide +kernel : decode cX12_outOf 10 = .ok (.aload_n 0, 1)) rfl rfl) ?_
  refine q_fa (ok_iload_n (by decide +kernel : decode cX12_outOf 11 = .ok (.iload_n 1, 1)) rfl rfl) ?_
  refine q_fa (ok_iload_n (by decide +kernel : decode cX12_outOf 12 = .ok (.iload_n 2, 1)) rfl rfl) ?_
  refine q_fa (ok_callV (by decide +kernel : decode cX12_outOf 13 = .ok (.invokevirtual 153, 3)) rfl kX12_ends.1 kX12_ends.2.1 kX12_ends.2.2.1 kX12_ends.2.2.2.1 kX12_ends.2.2.2.2 (rfl : vwCl[12]? = some (RX12, TX12, 58)) g1315 gs71 g1313) ?_
  refine q_fa (ok_istore_n (by decide +kernel : decode cX12_outOf 16 = .ok (.istore_n 3, 1)) rfl rfl (by decide)) ?_
  refine q_fa (ok_aload_n (by decide +kernel : decode cX12_outOf 17 = .ok (.aload_n 0, 1)) rfl rfl) ?_
  refine q_fa (ok_get (by decide +kernel : decode cX12_outOf 18 = .ok (.getfield 135, 3)) rfl (rfl : vwCl[12]? = some (RX12, TX12, 58)) inX12 (by decide) g1006) ?_
  refine q_fa (ok_istore (by decide +kernel : decode cX12_outOf 21 = .ok (.istore 4, 2)) rfl (by decide)) ?_
  refine q_fa (ok_iload (by decide +kernel : decode cX12_outOf 23 = .ok (.iload 4, 2)) rfl) ?_
  refine q_fa (ok_iload_n (by decide +kernel : decode cX12_outOf 25 = .ok (.iload_n 2, 1)) rfl rfl) ?_
  refine q_fa (ok_if2le (by decide +kernel : decode cX12_outOf 26 = .ok (.if_icmp .le 29, 3)) (by decide) rfl) ?_
  refine q_fa (ok_iload_n (by decide +kernel : decode cX12_outOf 29 = .ok (.iload_n 3, 1)) rfl rfl) ?_
  refine q_fa (ok_iload (by decide +kernel : decode cX12_outOf 30 = .ok (.iload 4, 2)) rfl) ?_
  refine q_fa (ok_ishr (by decide +kernel : decode cX12_outOf 32 = .ok (.ishr, 1)) rfl) ?_
  refine q_fa (ok_iconst (by decide +kernel : decode cX12_outOf 33 = .ok (.iconst 1, 1)) rfl (by decide +kernel)) ?_
  refine q_fa (ok_iand (by decide +kernel : decode cX12_outOf 34 = .ok (.iand, 1)) rfl) ?_
  refine q_fa (ok_iconst (by decide +kernel : decode cX12_outOf 35 = .ok (.iconst 1, 1)) rfl (by decide +kernel)) ?_
  refine q_fa (ok_if2ne (by decide +kernel : decode cX12_outOf 36 = .ok (.if_icmp .ne 13, 3)) (by decide) rfl) ?_
  refine q_fa (ok_bipush (by decide +kernel : decode cX12_outOf 39 = .ok (.bipush 100, 2)) rfl (by decide +kernel)) ?_
  refine q_fa (ok_iload_n (by decide +kernel : decode cX12_outOf 41 = .ok (.iload_n 2, 1)) rfl rfl) ?_
  refine q_fa (ok_imul (by decide +kernel : decode cX12_outOf 42 = .ok (.imul, 1)) rfl) ?_
  refine q_fa (ok_iload (by decide +kernel : decode cX12_outOf 43 = .ok (.iload 4, 2)) rfl) ?_
  refine q_fa (ok_iadd (by decide +kernel : decode cX12_outOf 45 = .ok (.iadd, 1)) rfl) ?_
  refine q_fa (ok_iload_n (by decide +kernel : decode cX12_outOf 46 = .ok (.iload_n 2, 1)) rfl rfl) ?_
  refine q_fa (ok_isub (by decide +kernel : decode cX12_outOf 47 = .ok (.isub, 1)) rfl) ?_
  refine q_fa (ok_iret (by decide +kernel : decode cX12_outOf 48 = .ok (.ireturn, 1)) rfl) ?_
  refine q_fa (ok_iinc (by decide +kernel : decode cX12_outOf 49 = .ok (.iinc 4 (-1), 3)) rfl (by decide +kernel) (by decide)) ?_
  refine q_fa (ok_goto (by decide +kernel : decode cX12_outOf 52 = .ok (.goto (-29), 3)) (by decide)) ?_
  refine q_fa (ok_iinc (by decide +kernel : decode cX12_outOf 55 = .ok (.iinc 2 1, 3)) rfl (by decide +kernel) (by decide)) ?_
  refine q_fa (ok_goto (by decide +kernel : decode cX12_outOf 58 = .ok (.goto (-56), 3)) (by decide)) ?_
  refine q_fa (ok_bipush (by decide +kernel : decode cX12_outOf 61 = .ok (.bipush (-2), 2)) rfl (by decide +kernel)) ?_
  refine q_fa (ok_iret (by decide +kernel : decode cX12_outOf 63 = .ok (.ireturn, 1)) rfl) ?_
  exact q_fa0
theorem exX12_outOf : ∃ t : Nat → qP, t = uX12_outOf := ⟨_, rfl⟩
noncomputable def tX12_outOf : Nat → qP := Classical.choose exX12_outOf
theorem teX12_outOf : tX12_outOf = uX12_outOf := Classical.choose_spec exX12_outOf
theorem sX12_outOf : q_Snd mX12_outOf tX12_outOf := by rw [teX12_outOf]; exact suX12_outOf
theorem tX12_outOf_0 : tX12_outOf 0 = oK (.int (nI 0)) 1 := (congrFun teX12_outOf 0).trans rfl
theorem tX12_outOf_1 : tX12_outOf 1 = oIs 2 2 := (congrFun teX12_outOf 1).trans rfl
theorem tX12_outOf_2 : tX12_outOf 2 = oIl 2 3 := (congrFun teX12_outOf 2).trans rfl
theorem tX12_outOf_3 : tX12_outOf 3 = oAl 0 4 := (congrFun teX12_outOf 3).trans rfl
theorem tX12_outOf_4 : tX12_outOf 4 = oGet 12 2 7 := (congrFun teX12_outOf 4).trans rfl
theorem tX12_outOf_7 : tX12_outOf 7 = oIf2ge 61 10 := (congrFun teX12_outOf 7).trans rfl
theorem tX12_outOf_10 : tX12_outOf 10 = oAl 0 11 := (congrFun teX12_outOf 10).trans rfl
theorem tX12_outOf_11 : tX12_outOf 11 = oIl 1 12 := (congrFun teX12_outOf 11).trans rfl
theorem tX12_outOf_12 : tX12_outOf 12 = oIl 2 13 := (congrFun teX12_outOf 12).trans rfl
theorem tX12_outOf_13 : tX12_outOf 13 = oCallV 12 mX12_ends 2 16 := (congrFun teX12_outOf 13).trans rfl
theorem tX12_outOf_16 : tX12_outOf 16 = oIs 3 17 := (congrFun teX12_outOf 16).trans rfl
theorem tX12_outOf_17 : tX12_outOf 17 = oAl 0 18 := (congrFun teX12_outOf 17).trans rfl
theorem tX12_outOf_18 : tX12_outOf 18 = oGet 12 2 21 := (congrFun teX12_outOf 18).trans rfl
theorem tX12_outOf_21 : tX12_outOf 21 = oIs 4 23 := (congrFun teX12_outOf 21).trans rfl
theorem tX12_outOf_23 : tX12_outOf 23 = oIl 4 25 := (congrFun teX12_outOf 23).trans rfl
theorem tX12_outOf_25 : tX12_outOf 25 = oIl 2 26 := (congrFun teX12_outOf 25).trans rfl
theorem tX12_outOf_26 : tX12_outOf 26 = oIf2le 55 29 := (congrFun teX12_outOf 26).trans rfl
theorem tX12_outOf_29 : tX12_outOf 29 = oIl 3 30 := (congrFun teX12_outOf 29).trans rfl
theorem tX12_outOf_30 : tX12_outOf 30 = oIl 4 32 := (congrFun teX12_outOf 30).trans rfl
theorem tX12_outOf_32 : tX12_outOf 32 = oShr 33 := (congrFun teX12_outOf 32).trans rfl
theorem tX12_outOf_33 : tX12_outOf 33 = oK (.int (nI 1)) 34 := (congrFun teX12_outOf 33).trans rfl
theorem tX12_outOf_34 : tX12_outOf 34 = oAnd 35 := (congrFun teX12_outOf 34).trans rfl
theorem tX12_outOf_35 : tX12_outOf 35 = oK (.int (nI 1)) 36 := (congrFun teX12_outOf 35).trans rfl
theorem tX12_outOf_36 : tX12_outOf 36 = oIf2ne 49 39 := (congrFun teX12_outOf 36).trans rfl
theorem tX12_outOf_39 : tX12_outOf 39 = oK (.int (nI 100)) 41 := (congrFun teX12_outOf 39).trans rfl
theorem tX12_outOf_41 : tX12_outOf 41 = oIl 2 42 := (congrFun teX12_outOf 41).trans rfl
theorem tX12_outOf_42 : tX12_outOf 42 = oMul 43 := (congrFun teX12_outOf 42).trans rfl
theorem tX12_outOf_43 : tX12_outOf 43 = oIl 4 45 := (congrFun teX12_outOf 43).trans rfl
theorem tX12_outOf_45 : tX12_outOf 45 = oAdd 46 := (congrFun teX12_outOf 45).trans rfl
theorem tX12_outOf_46 : tX12_outOf 46 = oIl 2 47 := (congrFun teX12_outOf 46).trans rfl
theorem tX12_outOf_47 : tX12_outOf 47 = oSub 48 := (congrFun teX12_outOf 47).trans rfl
theorem tX12_outOf_48 : tX12_outOf 48 = oIret := (congrFun teX12_outOf 48).trans rfl
theorem tX12_outOf_49 : tX12_outOf 49 = oInc 4 (-1) 52 := (congrFun teX12_outOf 49).trans rfl
theorem tX12_outOf_52 : tX12_outOf 52 = oGo 23 := (congrFun teX12_outOf 52).trans rfl
theorem tX12_outOf_55 : tX12_outOf 55 = oInc 2 (nI 1) 58 := (congrFun teX12_outOf 55).trans rfl
theorem tX12_outOf_58 : tX12_outOf 58 = oGo 2 := (congrFun teX12_outOf 58).trans rfl
theorem tX12_outOf_61 : tX12_outOf 61 = oK (.int (-2)) 63 := (congrFun teX12_outOf 61).trans rfl
theorem tX12_outOf_63 : tX12_outOf 63 = oIret := (congrFun teX12_outOf 63).trans rfl
def lX12_isPlace : List (Nat × qP) := [(0, oIl 0 1), (1, oK (.int (nI 0)) 2), (2, oK (.int (nI 9)) 4), (4, oCallS mX12_in 3 7), (7, oZret)]
def uX12_isPlace : Nat → qP := q_tb lX12_isPlace
set_option maxRecDepth 20000 in
theorem suX12_isPlace : q_Snd mX12_isPlace uX12_isPlace := by
  refine q_tb_ok ?_
  unfold lX12_isPlace
  refine q_fa (ok_iload_n (by decide +kernel : decode cX12_isPlace 0 = .ok (.iload_n 0, 1)) rfl rfl) ?_
  refine q_fa (ok_iconst (by decide +kernel : decode cX12_isPlace 1 = .ok (.iconst 0, 1)) rfl (by decide +kernel)) ?_
  refine q_fa (ok_bipush (by decide +kernel : decode cX12_isPlace 2 = .ok (.bipush 9, 2)) rfl (by decide +kernel)) ?_
  refine q_fa (ok_callS (by decide +kernel : decode cX12_isPlace 4 = .ok (.invokestatic 163, 3)) rfl kX12_in.1 kX12_in.2.1 kX12_in.2.2.1 kX12_in.2.2.2.1 kX12_in.2.2.2.2 g1185 g1184) ?_
  refine q_fa (ok_zret (by decide +kernel : decode cX12_isPlace 7 = .ok (.ireturn, 1)) rfl) ?_
  exact q_fa0
theorem exX12_isPlace : ∃ t : Nat → qP, t = uX12_isPlace := ⟨_, rfl⟩
noncomputable def tX12_isPlace : Nat → qP := Classical.choose exX12_isPlace
theorem teX12_isPlace : tX12_isPlace = uX12_isPlace := Classical.choose_spec exX12_isPlace
theorem sX12_isPlace : q_Snd mX12_isPlace tX12_isPlace := by rw [teX12_isPlace]; exact suX12_isPlace
theorem tX12_isPlace_0 : tX12_isPlace 0 = oIl 0 1 := (congrFun teX12_isPlace 0).trans rfl
theorem tX12_isPlace_1 : tX12_isPlace 1 = oK (.int (nI 0)) 2 := (congrFun teX12_isPlace 1).trans rfl
theorem tX12_isPlace_2 : tX12_isPlace 2 = oK (.int (nI 9)) 4 := (congrFun teX12_isPlace 2).trans rfl
theorem tX12_isPlace_4 : tX12_isPlace 4 = oCallS mX12_in 3 7 := (congrFun teX12_isPlace 4).trans rfl
theorem tX12_isPlace_7 : tX12_isPlace 7 = oZret := (congrFun teX12_isPlace 7).trans rfl
def lX12_has : List (Nat × qP) := [(0, oIl 1 1), (1, oCallS mX12_isPlace 1 4), (4, oIf1eq 20 7), (7, oAl 0 8), (8, oGet 12 13 11), (11, oIl 1 12), (12, oIald 13), (13, oIf1le 20 16), (16, oK (.int (nI 1)) 17), (17, oGo 21), (20, oK (.int (nI 0)) 21), (21, oZret)]
def uX12_has : Nat → qP := q_tb lX12_has
set_option maxRecDepth 20000 in
theorem suX12_has : q_Snd mX12_has uX12_has := by
  refine q_tb_ok ?_
  unfold lX12_has
  refine q_fa (ok_iload_n (by decide +kernel : decode cX12_has 0 = .ok (.iload_n 1, 1)) rfl rfl) ?_
  refine q_fa (ok_callS (by decide +kernel : decode cX12_has 1 = .ok (.invokestatic 167, 3)) rfl kX12_isPlace.1 kX12_isPlace.2.1 kX12_isPlace.2.2.1 kX12_isPlace.2.2.2.1 kX12_isPlace.2.2.2.2 g1192 g1191) ?_
  refine q_fa (ok_if1eq (by decide +kernel : decode cX12_has 4 = .ok (.ifCond .eq 16, 3)) (by decide) rfl) ?_
  refine q_fa (ok_aload_n (by decide +kernel : decode cX12_has 7 = .ok (.aload_n 0, 1)) rfl rfl) ?_
  refine q_fa (ok_get (by decide +kernel : decode cX12_has 8 = .ok (.getfield 41, 3)) rfl (rfl : vwCl[12]? = some (RX12, TX12, 58)) inX12 (by decide) g1017) ?_
  refine q_fa (ok_iload_n (by decide +kernel : decode cX12_has 11 = .ok (.iload_n 1, 1)) rfl rfl) ?_
  refine q_fa (ok_iaload (by decide +kernel : decode cX12_has 12 = .ok (.iaload, 1)) rfl) ?_
  refine q_fa (ok_if1le (by decide +kernel : decode cX12_has 13 = .ok (.ifCond .le 7, 3)) (by decide) rfl) ?_
  refine q_fa (ok_iconst (by decide +kernel : decode cX12_has 16 = .ok (.iconst 1, 1)) rfl (by decide +kernel)) ?_
  refine q_fa (ok_goto (by decide +kernel : decode cX12_has 17 = .ok (.goto 4, 3)) (by decide)) ?_
  refine q_fa (ok_iconst (by decide +kernel : decode cX12_has 20 = .ok (.iconst 0, 1)) rfl (by decide +kernel)) ?_
  refine q_fa (ok_zret (by decide +kernel : decode cX12_has 21 = .ok (.ireturn, 1)) rfl) ?_
  exact q_fa0
theorem exX12_has : ∃ t : Nat → qP, t = uX12_has := ⟨_, rfl⟩
noncomputable def tX12_has : Nat → qP := Classical.choose exX12_has
theorem teX12_has : tX12_has = uX12_has := Classical.choose_spec exX12_has
theorem sX12_has : q_Snd mX12_has tX12_has := by rw [teX12_has]; exact suX12_has
theorem tX12_has_0 : tX12_has 0 = oIl 1 1 := (congrFun teX12_has 0).trans rfl
theorem tX12_has_1 : tX12_has 1 = oCallS mX12_isPlace 1 4 := (congrFun teX12_has 1).trans rfl
theorem tX12_has_4 : tX12_has 4 = oIf1eq 20 7 := (congrFun teX12_has 4).trans rfl
theorem tX12_has_7 : tX12_has 7 = oAl 0 8 := (congrFun teX12_has 7).trans rfl
theorem tX12_has_8 : tX12_has 8 = oGet 12 13 11 := (congrFun teX12_has 8).trans rfl
theorem tX12_has_11 : tX12_has 11 = oIl 1 12 := (congrFun teX12_has 11).trans rfl
theorem tX12_has_12 : tX12_has 12 = oIald 13 := (congrFun teX12_has 12).trans rfl
theorem tX12_has_13 : tX12_has 13 = oIf1le 20 16 := (congrFun teX12_has 13).trans rfl
theorem tX12_has_16 : tX12_has 16 = oK (.int (nI 1)) 17 := (congrFun teX12_has 16).trans rfl
theorem tX12_has_17 : tX12_has 17 = oGo 21 := (congrFun teX12_has 17).trans rfl
theorem tX12_has_20 : tX12_has 20 = oK (.int (nI 0)) 21 := (congrFun teX12_has 20).trans rfl
theorem tX12_has_21 : tX12_has 21 = oZret := (congrFun teX12_has 21).trans rfl
def lX12_grow : List (Nat × qP) := [(0, oAl 0 1), (1, oGet 12 14 4), (4, oAl 0 5), (5, oGet 12 16 8), (8, oIald 9), (9, oIs 1 10), (10, oAl 0 11), (11, oGet 12 15 14), (14, oAl 0 15), (15, oGet 12 16 18), (18, oIald 19), (19, oIs 2 20), (20, oAl 0 21), (21, oDup 22), (22, oGet 12 16 25), (25, oK (.int (nI 1)) 26), (26, oAdd 27), (27, oPutI 12 16 30), (30, oIl 1 31), (31, oK (.int (nI 1)) 32), (32, oIf2le 42 35), (35, oAl 0 36), (36, oCallV 12 mX12_grow 0 39), (39, oGo 43), (42, oK (.int (-1)) 43), (43, oIs 3 44), (44, oIl 1 45), (45, oK (.int (nI 2)) 46), (46, oIf2eq 54 49), (49, oIl 1 50), (50, oK (.int (nI 3)) 51), (51, oIf2ne 61 54), (54, oAl 0 55), (55, oCallV 12 mX12_grow 0 58), (58, oGo 62), (61, oK (.int (-1)) 62), (62, oIs 4 64), (64, oAl 0 65), (65, oIl 1 66), (66, oIl 2 67), (67, oIl 3 68), (68, oIl 4 70), (70, oCallV 12 mX12_make 4 73), (73, oIret)]
def uX12_grow : Nat → qP := q_tb lX12_grow
set_option maxRecDepth 20000 in
theorem suX12_grow : q_Snd mX12_grow uX12_grow := by
  refine q_tb_ok ?_
  unfold lX12_grow
  refine q_fa (ok_aload_n (by decide +kernel : decode cX12_grow 0 = .ok (.aload_n 0, 1)) rfl rfl) ?_
  refine q_fa (ok_get (by decide +kernel : decode cX12_grow 1 = .ok (.getfield 44, 3)) rfl (rfl : vwCl[12]? = some (RX12, TX12, 58)) inX12 (by decide) g1018) ?_
  refine q_fa (ok_aload_n (by decide +kernel : decode cX12_grow 4 = .ok (.aload_n 0, 1)) rfl rfl) ?_
  refine q_fa (ok_get (by decide +kernel : decode cX12_grow 5 = .ok (.getfield 171, 3)) rfl (rfl : vwCl[12]? = some (RX12, TX12, 58)) inX12 (by decide) g1020) ?_
  refine q_fa (ok_iaload (by decide +kernel : decode cX12_grow 8 = .ok (.iaload, 1)) rfl) ?_
  refine q_fa (ok_istore_n (by decide +kernel : decode cX12_grow 9 = .ok (.istore_n 1, 1)) rfl rfl (by decide)) ?_
  refine q_fa (ok_aload_n (by decide +kernel : decode cX12_grow 10 = .ok (.aload_n 0, 1)) rfl rfl) ?_
  refine q_fa (ok_get (by decide +kernel : decode cX12_grow 11 = .ok (.getfield 47, 3)) rfl (rfl : vwCl[12]? = some (RX12, TX12, 58)) inX12 (by decide) g1019) ?_
  refine q_fa (ok_aload_n (by decide +kernel : decode cX12_grow 14 = .ok (.aload_n 0, 1)) rfl rfl) ?_
  refine q_fa (ok_get (by decide +kernel : decode cX12_grow 15 = .ok (.getfield 171, 3)) rfl (rfl : vwCl[12]? = some (RX12, TX12, 58)) inX12 (by decide) g1020) ?_
  refine q_fa (ok_iaload (by decide +kernel : decode cX12_grow 18 = .ok (.iaload, 1)) rfl) ?_
  refine q_fa (ok_istore_n (by decide +kernel : decode cX12_grow 19 = .ok (.istore_n 2, 1)) rfl rfl (by decide)) ?_
  refine q_fa (ok_aload_n (by decide +kernel : decode cX12_grow 20 = .ok (.aload_n 0, 1)) rfl rfl) ?_
  refine q_fa (ok_dup (by decide +kernel : decode cX12_grow 21 = .ok (.dup, 1)) rfl) ?_
  refine q_fa (ok_get (by decide +kernel : decode cX12_grow 22 = .ok (.getfield 171, 3)) rfl (rfl : vwCl[12]? = some (RX12, TX12, 58)) inX12 (by decide) g1020) ?_
  refine q_fa (ok_iconst (by decide +kernel : decode cX12_grow 25 = .ok (.iconst 1, 1)) rfl (by decide +kernel)) ?_
  refine q_fa (ok_iadd (by decide +kernel : decode cX12_grow 26 = .ok (.iadd, 1)) rfl) ?_
  refine q_fa (ok_putI tyX12 (by decide +kernel : decode cX12_grow 27 = .ok (.putfield 171, 3)) rfl (rfl : vwCl[12]? = some (RX12, TX12, 58)) inX12 tyX12_ok nmX12 (by decide) g1020 (Or.inl rfl) (by decide +kernel)) ?_
  refine q_fa (ok_iload_n (by decide +kernel : decode cX12_grow 30 = .ok (.iload_n 1, 1)) rfl rfl) ?_
  refine q_fa (ok_iconst (by decide +kernel : decode cX12_grow 31 = .ok (.iconst 1, 1)) rfl (by decide +kernel)) ?_
  refine q_fa (ok_if2le (by decide +kernel : decode cX12_grow 32 = .ok (.if_icmp .le 10, 3)) (by decide) rfl) ?_
  refine q_fa (ok_aload_n (by decide +kernel : decode cX12_grow 35 = .ok (.aload_n 0, 1)) rfl rfl) ?_
  refine q_fa (ok_callV (by decide +kernel : decode cX12_grow 36 = .ok (.invokevirtual 174, 3)) rfl kX12_grow.1 kX12_grow.2.1 kX12_grow.2.2.1 kX12_grow.2.2.2.1 kX12_grow.2.2.2.2 (rfl : vwCl[12]? = some (RX12, TX12, 58)) g1263 gs62 g1261) ?_
  refine q_fa (ok_goto (by decide +kernel : decode cX12_grow 39 = .ok (.goto 4, 3)) (by decide)) ?_
  refine q_fa (ok_iconst (by decide +kernel : decode cX12_grow 42 = .ok (.iconst (-1), 1)) rfl (by decide +kernel)) ?_
  refine q_fa (ok_istore_n (by decide +kernel : decode cX12_grow 43 = .ok (.istore_n 3, 1)) rfl rfl (by decide)) ?_
  refine q_fa (ok_iload_n (by decide +kernel : decode cX12_grow 44 = .ok (.iload_n 1, 1)) rfl rfl) ?_
  refine q_fa (ok_iconst (by decide +kernel : decode cX12_grow 45 = .ok (.iconst 2, 1)) rfl (by decide +kernel)) ?_
  refine q_fa (ok_if2eq (by decide +kernel : decode cX12_grow 46 = .ok (.if_icmp .eq 8, 3)) (by decide) rfl) ?_
  refine q_fa (ok_iload_n (by decide +kernel : decode cX12_grow 49 = .ok (.iload_n 1, 1)) rfl rfl) ?_
  refine q_fa (ok_iconst (by decide +kernel : decode cX12_grow 50 = .ok (.iconst 3, 1)) rfl (by decide +kernel)) ?_
  refine q_fa (ok_if2ne (by decide +kernel : decode cX12_grow 51 = .ok (.if_icmp .ne 10, 3)) (by decide) rfl) ?_
  refine q_fa (ok_aload_n (by decide +kernel : decode cX12_grow 54 = .ok (.aload_n 0, 1)) rfl rfl) ?_
  refine q_fa (ok_callV (by decide +kernel : decode cX12_grow 55 = .ok (.invokevirtual 174, 3)) rfl kX12_grow.1 kX12_grow.2.1 kX12_grow.2.2.1 kX12_grow.2.2.2.1 kX12_grow.2.2.2.2 (rfl : vwCl[12]? = some (RX12, TX12, 58)) g1263 gs62 g1261) ?_
  refine q_fa (ok_goto (by decide +kernel : decode cX12_grow 58 = .ok (.goto 4, 3)) (by decide)) ?_
  refine q_fa (ok_iconst (by decide +kernel : decode cX12_grow 61 = .ok (.iconst (-1), 1)) rfl (by decide +kernel)) ?_
  refine q_fa (ok_istore (by decide +kernel : decode cX12_grow 62 = .ok (.istore 4, 2)) rfl (by decide)) ?_
  refine q_fa (ok_aload_n (by decide +kernel : decode cX12_grow 64 = .ok (.aload_n 0, 1)) rfl rfl) ?_
  refine q_fa (ok_iload_n (by decide +kernel : decode cX12_grow 65 = .ok (.iload_n 1, 1)) rfl rfl) ?_
  refine q_fa (ok_iload_n (by decide +kernel : decode cX12_grow 66 = .ok (.iload_n 2, 1)) rfl rfl) ?_
  refine q_fa (ok_iload_n (by decide +kernel : decode cX12_grow 67 = .ok (.iload_n 3, 1)) rfl rfl) ?_
  refine q_fa (ok_iload (by decide +kernel : decode cX12_grow 68 = .ok (.iload 4, 2)) rfl) ?_
  refine q_fa (ok_callV (by decide +kernel : decode cX12_grow 70 = .ok (.invokevirtual 178, 3)) rfl kX12_make.1 kX12_make.2.1 kX12_make.2.2.1 kX12_make.2.2.2.1 kX12_make.2.2.2.2 (rfl : vwCl[12]? = some (RX12, TX12, 58)) g1216 gs52 g1214) ?_
  refine q_fa (ok_iret (by decide +kernel : decode cX12_grow 73 = .ok (.ireturn, 1)) rfl) ?_
  exact q_fa0
theorem exX12_grow : ∃ t : Nat → qP, t = uX12_grow := ⟨_, rfl⟩
noncomputable def tX12_grow : Nat → qP := Classical.choose exX12_grow
theorem teX12_grow : tX12_grow = uX12_grow := Classical.choose_spec exX12_grow
theorem sX12_grow : q_Snd mX12_grow tX12_grow := by rw [teX12_grow]; exact suX12_grow
theorem tX12_grow_0 : tX12_grow 0 = oAl 0 1 := (congrFun teX12_grow 0).trans rfl
theorem tX12_grow_1 : tX12_grow 1 = oGet 12 14 4 := (congrFun teX12_grow 1).trans rfl
theorem tX12_grow_4 : tX12_grow 4 = oAl 0 5 := (congrFun teX12_grow 4).trans rfl
theorem tX12_grow_5 : tX12_grow 5 = oGet 12 16 8 := (congrFun teX12_grow 5).trans rfl
theorem tX12_grow_8 : tX12_grow 8 = oIald 9 := (congrFun teX12_grow 8).trans rfl
theorem tX12_grow_9 : tX12_grow 9 = oIs 1 10 := (congrFun teX12_grow 9).trans rfl
theorem tX12_grow_10 : tX12_grow 10 = oAl 0 11 := (congrFun teX12_grow 10).trans rfl
theorem tX12_grow_11 : tX12_grow 11 = oGet 12 15 14 := (congrFun teX12_grow 11).trans rfl
theorem tX12_grow_14 : tX12_grow 14 = oAl 0 15 := (congrFun teX12_grow 14).trans rfl
theorem tX12_grow_15 : tX12_grow 15 = oGet 12 16 18 := (congrFun teX12_grow 15).trans rfl
theorem tX12_grow_18 : tX12_grow 18 = oIald 19 := (congrFun teX12_grow 18).trans rfl
theorem tX12_grow_19 : tX12_grow 19 = oIs 2 20 := (congrFun teX12_grow 19).trans rfl
theorem tX12_grow_20 : tX12_grow 20 = oAl 0 21 := (congrFun teX12_grow 20).trans rfl
theorem tX12_grow_21 : tX12_grow 21 = oDup 22 := (congrFun teX12_grow 21).trans rfl
theorem tX12_grow_22 : tX12_grow 22 = oGet 12 16 25 := (congrFun teX12_grow 22).trans rfl
theorem tX12_grow_25 : tX12_grow 25 = oK (.int (nI 1)) 26 := (congrFun teX12_grow 25).trans rfl
theorem tX12_grow_26 : tX12_grow 26 = oAdd 27 := (congrFun teX12_grow 26).trans rfl
theorem tX12_grow_27 : tX12_grow 27 = oPutI 12 16 30 := (congrFun teX12_grow 27).trans rfl
theorem tX12_grow_30 : tX12_grow 30 = oIl 1 31 := (congrFun teX12_grow 30).trans rfl
theorem tX12_grow_31 : tX12_grow 31 = oK (.int (nI 1)) 32 := (congrFun teX12_grow 31).trans rfl
theorem tX12_grow_32 : tX12_grow 32 = oIf2le 42 35 := (congrFun teX12_grow 32).trans rfl
theorem tX12_grow_35 : tX12_grow 35 = oAl 0 36 := (congrFun teX12_grow 35).trans rfl
theorem tX12_grow_36 : tX12_grow 36 = oCallV 12 mX12_grow 0 39 := (congrFun teX12_grow 36).trans rfl
theorem tX12_grow_39 : tX12_grow 39 = oGo 43 := (congrFun teX12_grow 39).trans rfl
theorem tX12_grow_42 : tX12_grow 42 = oK (.int (-1)) 43 := (congrFun teX12_grow 42).trans rfl
theorem tX12_grow_43 : tX12_grow 43 = oIs 3 44 := (congrFun teX12_grow 43).trans rfl
theorem tX12_grow_44 : tX12_grow 44 = oIl 1 45 := (congrFun teX12_grow 44).trans rfl
theorem tX12_grow_45 : tX12_grow 45 = oK (.int (nI 2)) 46 := (congrFun teX12_grow 45).trans rfl
theorem tX12_grow_46 : tX12_grow 46 = oIf2eq 54 49 := (congrFun teX12_grow 46).trans rfl
theorem tX12_grow_49 : tX12_grow 49 = oIl 1 50 := (congrFun teX12_grow 49).trans rfl
theorem tX12_grow_50 : tX12_grow 50 = oK (.int (nI 3)) 51 := (congrFun teX12_grow 50).trans rfl
theorem tX12_grow_51 : tX12_grow 51 = oIf2ne 61 54 := (congrFun teX12_grow 51).trans rfl
theorem tX12_grow_54 : tX12_grow 54 = oAl 0 55 := (congrFun teX12_grow 54).trans rfl
theorem tX12_grow_55 : tX12_grow 55 = oCallV 12 mX12_grow 0 58 := (congrFun teX12_grow 55).trans rfl
theorem tX12_grow_58 : tX12_grow 58 = oGo 62 := (congrFun teX12_grow 58).trans rfl
theorem tX12_grow_61 : tX12_grow 61 = oK (.int (-1)) 62 := (congrFun teX12_grow 61).trans rfl
theorem tX12_grow_62 : tX12_grow 62 = oIs 4 64 := (congrFun teX12_grow 62).trans rfl
theorem tX12_grow_64 : tX12_grow 64 = oAl 0 65 := (congrFun teX12_grow 64).trans rfl
theorem tX12_grow_65 : tX12_grow 65 = oIl 1 66 := (congrFun teX12_grow 65).trans rfl
theorem tX12_grow_66 : tX12_grow 66 = oIl 2 67 := (congrFun teX12_grow 66).trans rfl
theorem tX12_grow_67 : tX12_grow 67 = oIl 3 68 := (congrFun teX12_grow 67).trans rfl
theorem tX12_grow_68 : tX12_grow 68 = oIl 4 70 := (congrFun teX12_grow 68).trans rfl
theorem tX12_grow_70 : tX12_grow 70 = oCallV 12 mX12_make 4 73 := (congrFun teX12_grow 70).trans rfl
theorem tX12_grow_73 : tX12_grow 73 = oIret := (congrFun teX12_grow 73).trans rfl
def lX12_treeOf : List (Nat × qP) := [(0, oAl 0 1), (1, oK (.int (nI 12)) 3), (3, oIl 1 4), (4, oMul 5), (5, oPutI 12 16 8), (8, oAl 0 9), (9, oCallV 12 mX12_grow 0 12), (12, oIret)]
def uX12_treeOf : Nat → qP := q_tb lX12_treeOf
set_option maxRecDepth 20000 in
theorem suX12_treeOf : q_Snd mX12_treeOf uX12_treeOf := by
  refine q_tb_ok ?_
  unfold lX12_treeOf
  refine q_fa (ok_aload_n (by decide +kernel : decode cX12_treeOf 0 = .ok (.aload_n 0, 1)) rfl rfl) ?_
  refine q_fa (ok_bipush (by decide +kernel : decode cX12_treeOf 1 = .ok (.bipush 12, 2)) rfl (by decide +kernel)) ?_
  refine q_fa (ok_iload_n (by decide +kernel : decode cX12_treeOf 3 = .ok (.iload_n 1, 1)) rfl rfl) ?_
  refine q_fa (ok_imul (by decide +kernel : decode cX12_treeOf 4 = .ok (.imul, 1)) rfl) ?_
  refine q_fa (ok_putI tyX12 (by decide +kernel : decode cX12_treeOf 5 = .ok (.putfield 171, 3)) rfl (rfl : vwCl[12]? = some (RX12, TX12, 58)) inX12 tyX12_ok nmX12 (by decide) g1020 (Or.inl rfl) (by decide +kernel)) ?_
  refine q_fa (ok_aload_n (by decide +kernel : decode cX12_treeOf 8 = .ok (.aload_n 0, 1)) rfl rfl) ?_
  refine q_fa (ok_callV (by decide +kernel : decode cX12_treeOf 9 = .ok (.invokevirtual 174, 3)) rfl kX12_grow.1 kX12_grow.2.1 kX12_grow.2.2.1 kX12_grow.2.2.2.1 kX12_grow.2.2.2.2 (rfl : vwCl[12]? = some (RX12, TX12, 58)) g1263 gs62 g1261) ?_
  refine q_fa (ok_iret (by decide +kernel : decode cX12_treeOf 12 = .ok (.ireturn, 1)) rfl) ?_
  exact q_fa0
theorem exX12_treeOf : ∃ t : Nat → qP, t = uX12_treeOf := ⟨_, rfl⟩
noncomputable def tX12_treeOf : Nat → qP := Classical.choose exX12_treeOf
theorem teX12_treeOf : tX12_treeOf = uX12_treeOf := Classical.choose_spec exX12_treeOf
theorem sX12_treeOf : q_Snd mX12_treeOf tX12_treeOf := by rw [teX12_treeOf]; exact suX12_treeOf
theorem tX12_treeOf_0 : tX12_treeOf 0 = oAl 0 1 := (congrFun teX12_treeOf 0).trans rfl
theorem tX12_treeOf_1 : tX12_treeOf 1 = oK (.int (nI 12)) 3 := (congrFun teX12_treeOf 1).trans rfl
theorem tX12_treeOf_3 : tX12_treeOf 3 = oIl 1 4 := (congrFun teX12_treeOf 3).trans rfl
theorem tX12_treeOf_4 : tX12_treeOf 4 = oMul 5 := (congrFun teX12_treeOf 4).trans rfl
theorem tX12_treeOf_5 : tX12_treeOf 5 = oPutI 12 16 8 := (congrFun teX12_treeOf 5).trans rfl
theorem tX12_treeOf_8 : tX12_treeOf 8 = oAl 0 9 := (congrFun teX12_treeOf 8).trans rfl
theorem tX12_treeOf_9 : tX12_treeOf 9 = oCallV 12 mX12_grow 0 12 := (congrFun teX12_treeOf 9).trans rfl
theorem tX12_treeOf_12 : tX12_treeOf 12 = oIret := (congrFun teX12_treeOf 12).trans rfl
def lX12_flatten : List (Nat × qP) := [(0, oAl 0 1), (1, oGet 12 14 4), (4, oAl 0 5), (5, oGet 12 16 8), (8, oAl 0 9), (9, oGet 12 3 12), (12, oIl 1 13), (13, oIald 14), (14, oIast 15), (15, oAl 0 16), (16, oGet 12 15 19), (19, oAl 0 20), (20, oGet 12 16 23), (23, oAl 0 24), (24, oGet 12 4 27), (27, oIl 1 28), (28, oIald 29), (29, oIast 30), (30, oAl 0 31), (31, oDup 32), (32, oGet 12 16 35), (35, oK (.int (nI 1)) 36), (36, oAdd 37), (37, oPutI 12 16 40), (40, oAl 0 41), (41, oGet 12 5 44), (44, oIl 1 45), (45, oIald 46), (46, oIf1lt 59 49), (49, oAl 0 50), (50, oAl 0 51), (51, oGet 12 5 54), (54, oIl 1 55), (55, oIald 56), (56, oCallV 12 mX12_flatten 1 59), (59, oAl 0 60), (60, oGet 12 6 63), (63, oIl 1 64), (64, oIald 65), (65, oIf1lt 78 68), (68, oAl 0 69), (69, oAl 0 70), (70, oGet 12 6 73), (73, oIl 1 74), (74, oIald 75), (75, oCallV 12 mX12_flatten 1 78), (78, oVret)]
def uX12_flatten : Nat → qP := q_tb lX12_flatten
set_option maxRecDepth 20000 in
theorem suX12_flatten : q_Snd mX12_flatten uX12_flatten := by
  refine q_tb_ok ?_
  unfold lX12_flatten
  refine q_fa (ok_aload_n (by decide +kernel : decode cX12_flatten 0 = .ok (.aload_n 0, 1)) rfl rfl) ?_
  refine q_fa (ok_get (by decide +kernel : decode cX12_flatten 1 = .ok (.getfield 44, 3)) rfl (rfl : vwCl[12]? = some (RX12, TX12, 58)) inX12 (by decide) g1018) ?_
  refine q_fa (ok_aload_n (by decide +kernel : decode cX12_flatten 4 = .ok (.aload_n 0, 1)) rfl rfl) ?_
  refine q_fa (ok_get (by decide +kernel : decode cX12_flatten 5 = .ok (.getfield 171, 3)) rfl (rfl : vwCl[12]? = some (RX12, TX12, 58)) inX12 (by decide) g1020) ?_
  refine q_fa (ok_aload_n (by decide +kernel : decode cX12_flatten 8 = .ok (.aload_n 0, 1)) rfl rfl) ?_
  refine q_fa (ok_get (by decide +kernel : decode cX12_flatten 9 = .ok (.getfield 13, 3)) rfl (rfl : vwCl[12]? = some (RX12, TX12, 58)) inX12 (by decide) g1007) ?_
  refine q_fa (ok_iload_n (by decide +kernel : decode cX12_flatten 12 = .ok (.iload_n 1, 1)) rfl rfl) ?_
  refine q_fa (ok_iaload (by decide +kernel : decode cX12_flatten 13 = .ok (.iaload, 1)) rfl) ?_
  refine q_fa (ok_iastore (by decide +kernel : decode cX12_flatten 14 = .ok (.iastore, 1)) rfl) ?_
  refine q_fa (ok_aload_n (by decide +kernel : decode cX12_flatten 15 = .ok (.aload_n 0, 1)) rfl rfl) ?_
  refine q_fa (ok_get (by decide +kernel : decode cX12_flatten 16 = .ok (.getfield 47, 3)) rfl (rfl : vwCl[12]? = some (RX12, TX12, 58)) inX12 (by decide) g1019) ?_
  refine q_fa (ok_aload_n (by decide +kernel : decode cX12_flatten 19 = .ok (.aload_n 0, 1)) rfl rfl) ?_
  refine q_fa (ok_get (by decide +kernel : decode cX12_flatten 20 = .ok (.getfield 171, 3)) rfl (rfl : vwCl[12]? = some (RX12, TX12, 58)) inX12 (by decide) g1020) ?_
  refine q_fa (ok_aload_n (by decide +kernel : decode cX12_flatten 23 = .ok (.aload_n 0, 1)) rfl rfl) ?_
  refine q_fa (ok_get (by decide +kernel : decode cX12_flatten 24 = .ok (.getfield 16, 3)) rfl (rfl : vwCl[12]? = some (RX12, TX12, 58)) inX12 (by decide) g1008) ?_
  refine q_fa (ok_iload_n (by decide +kernel : decode cX12_flatten 27 = .ok (.iload_n 1, 1)) rfl rfl) ?_
  refine q_fa (ok_iaload (by decide +kernel : decode cX12_flatten 28 = .ok (.iaload, 1)) rfl) ?_
  refine q_fa (ok_iastore (by decide +kernel : decode cX12_flatten 29 = .ok (.iastore, 1)) rfl) ?_
  refine q_fa (ok_aload_n (by decide +kernel : decode cX12_flatten 30 = .ok (.aload_n 0, 1)) rfl rfl) ?_
  refine q_fa (ok_dup (by decide +kernel : decode cX12_flatten 31 = .ok (.dup, 1)) rfl) ?_
  refine q_fa (ok_get (by decide +kernel : decode cX12_flatten 32 = .ok (.getfield 171, 3)) rfl (rfl : vwCl[12]? = some (RX12, TX12, 58)) inX12 (by decide) g1020) ?_
  refine q_fa (ok_iconst (by decide +kernel : decode cX12_flatten 35 = .ok (.iconst 1, 1)) rfl (by decide +kernel)) ?_
  refine q_fa (ok_iadd (by decide +kernel : decode cX12_flatten 36 = .ok (.iadd, 1)) rfl) ?_
  refine q_fa (ok_putI tyX12 (by decide +kernel : decode cX12_flatten 37 = .ok (.putfield 171, 3)) rfl (rfl : vwCl[12]? = some (RX12, TX12, 58)) inX12 tyX12_ok nmX12 (by decide) g1020 (Or.inl rfl) (by decide +kernel)) ?_
  refine q_fa (ok_aload_n (by decide +kernel : decode cX12_flatten 40 = .ok (.aload_n 0, 1)) rfl rfl) ?_
  refine q_fa (ok_get (by decide +kernel : decode cX12_flatten 41 = .ok (.getfield 19, 3)) rfl (rfl : vwCl[12]? = some (RX12, TX12, 58)) inX12 (by decide) g1009) ?_
  refine q_fa (ok_iload_n (by decide +kernel : decode cX12_flatten 44 = .ok (.iload_n 1, 1)) rfl rfl) ?_
  refine q_fa (ok_iaload (by decide +kernel : decode cX12_flatten 45 = .ok (.iaload, 1)) rfl) ?_
  refine q_fa (ok_if1lt (by decide +kernel : decode cX12_flatten 46 = .ok (.ifCond .lt 13, 3)) (by decide) rfl) ?_
  refine q_fa (ok_aload_n (by decide +kernel : decode cX12_flatten 49 = .ok (.aload_n 0, 1)) rfl rfl) ?_
  refine q_fa (ok_aload_n (by decide +kernel : decode cX12_flatten 50 = .ok (.aload_n 0, 1)) rfl rfl) ?_
  refine q_fa (ok_get (by decide +kernel : decode cX12_flatten 51 = .ok (.getfield 19, 3)) rfl (rfl : vwCl[12]? = some (RX12, TX12, 58)) inX12 (by decide) g1009) ?_
  refine q_fa (ok_iload_n (by decide +kernel : decode cX12_flatten 54 = .ok (.iload_n 1, 1)) rfl rfl) ?_
  refine q_fa (ok_iaload (by decide +kernel : decode cX12_flatten 55 = .ok (.iaload, 1)) rfl) ?_
  refine q_fa (ok_callV (by decide +kernel : decode cX12_flatten 56 = .ok (.invokevirtual 182, 3)) rfl kX12_flatten.1 kX12_flatten.2.1 kX12_flatten.2.2.1 kX12_flatten.2.2.2.1 kX12_flatten.2.2.2.2 (rfl : vwCl[12]? = some (RX12, TX12, 58)) g1247 gs59 g1245) ?_
  refine q_fa (ok_aload_n (by decide +kernel : decode cX12_flatten 59 = .ok (.aload_n 0, 1)) rfl rfl) ?_
  refine q_fa (ok_get (by decide +kernel : decode cX12_flatten 60 = .ok (.getfield 22, 3)) rfl (rfl : vwCl[12]? = some (RX12, TX12, 58)) inX12 (by decide) g1010) ?_
  refine q_fa (ok_iload_n (by decide +kernel : decode cX12_flatten 63 = .ok (.iload_n 1, 1)) rfl rfl) ?_
  refine q_fa (ok_iaload (by decide +kernel : decode cX12_flatten 64 = .ok (.iaload, 1)) rfl) ?_
  refine q_fa (ok_if1lt (by decide +kernel : decode cX12_flatten 65 = .ok (.ifCond .lt 13, 3)) (by decide) rfl) ?_
  refine q_fa (ok_aload_n (by decide +kernel : decode cX12_flatten 68 = .ok (.aload_n 0, 1)) rfl rfl) ?_
  refine q_fa (ok_aload_n (by decide +kernel : decode cX12_flatten 69 = .ok (.aload_n 0, 1)) rfl rfl) ?_
  refine q_fa (ok_get (by decide +kernel : decode cX12_flatten 70 = .ok (.getfield 22, 3)) rfl (rfl : vwCl[12]? = some (RX12, TX12, 58)) inX12 (by decide) g1010) ?_
  refine q_fa (ok_iload_n (by decide +kernel : decode cX12_flatten 73 = .ok (.iload_n 1, 1)) rfl rfl) ?_
  refine q_fa (ok_iaload (by decide +kernel : decode cX12_flatten 74 = .ok (.iaload, 1)) rfl) ?_
  refine q_fa (ok_callV (by decide +kernel : decode cX12_flatten 75 = .ok (.invokevirtual 182, 3)) rfl kX12_flatten.1 kX12_flatten.2.1 kX12_flatten.2.2.1 kX12_flatten.2.2.2.1 kX12_flatten.2.2.2.2 (rfl : vwCl[12]? = some (RX12, TX12, 58)) g1247 gs59 g1245) ?_
  refine q_fa (ok_vret (by decide +kernel : decode cX12_flatten 78 = .ok (.return_, 1)) rfl) ?_
  exact q_fa0
theorem exX12_flatten : ∃ t : Nat → qP, t = uX12_flatten := ⟨_, rfl⟩
noncomputable def tX12_flatten : Nat → qP := Classical.choose exX12_flatten
theorem teX12_flatten : tX12_flatten = uX12_flatten := Classical.choose_spec exX12_flatten
theorem sX12_flatten : q_Snd mX12_flatten tX12_flatten := by rw [teX12_flatten]; exact suX12_flatten
theorem tX12_flatten_0 : tX12_flatten 0 = oAl 0 1 := (congrFun teX12_flatten 0).trans rfl
theorem tX12_flatten_1 : tX12_flatten 1 = oGet 12 14 4 := (congrFun teX12_flatten 1).trans rfl
theorem tX12_flatten_4 : tX12_flatten 4 = oAl 0 5 := (congrFun teX12_flatten 4).trans rfl
theorem tX12_flatten_5 : tX12_flatten 5 = oGet 12 16 8 := (congrFun teX12_flatten 5).trans rfl
theorem tX12_flatten_8 : tX12_flatten 8 = oAl 0 9 := (congrFun teX12_flatten 8).trans rfl
theorem tX12_flatten_9 : tX12_flatten 9 = oGet 12 3 12 := (congrFun teX12_flatten 9).trans rfl
theorem tX12_flatten_12 : tX12_flatten 12 = oIl 1 13 := (congrFun teX12_flatten 12).trans rfl
theorem tX12_flatten_13 : tX12_flatten 13 = oIald 14 := (congrFun teX12_flatten 13).trans rfl
theorem tX12_flatten_14 : tX12_flatten 14 = oIast 15 := (congrFun teX12_flatten 14).trans rfl
theorem tX12_flatten_15 : tX12_flatten 15 = oAl 0 16 := (congrFun teX12_flatten 15).trans rfl
theorem tX12_flatten_16 : tX12_flatten 16 = oGet 12 15 19 := (congrFun teX12_flatten 16).trans rfl
theorem tX12_flatten_19 : tX12_flatten 19 = oAl 0 20 := (congrFun teX12_flatten 19).trans rfl
theorem tX12_flatten_20 : tX12_flatten 20 = oGet 12 16 23 := (congrFun teX12_flatten 20).trans rfl
theorem tX12_flatten_23 : tX12_flatten 23 = oAl 0 24 := (congrFun teX12_flatten 23).trans rfl
theorem tX12_flatten_24 : tX12_flatten 24 = oGet 12 4 27 := (congrFun teX12_flatten 24).trans rfl
theorem tX12_flatten_27 : tX12_flatten 27 = oIl 1 28 := (congrFun teX12_flatten 27).trans rfl
theorem tX12_flatten_28 : tX12_flatten 28 = oIald 29 := (congrFun teX12_flatten 28).trans rfl
theorem tX12_flatten_29 : tX12_flatten 29 = oIast 30 := (congrFun teX12_flatten 29).trans rfl
theorem tX12_flatten_30 : tX12_flatten 30 = oAl 0 31 := (congrFun teX12_flatten 30).trans rfl
theorem tX12_flatten_31 : tX12_flatten 31 = oDup 32 := (congrFun teX12_flatten 31).trans rfl
theorem tX12_flatten_32 : tX12_flatten 32 = oGet 12 16 35 := (congrFun teX12_flatten 32).trans rfl
theorem tX12_flatten_35 : tX12_flatten 35 = oK (.int (nI 1)) 36 := (congrFun teX12_flatten 35).trans rfl
theorem tX12_flatten_36 : tX12_flatten 36 = oAdd 37 := (congrFun teX12_flatten 36).trans rfl
theorem tX12_flatten_37 : tX12_flatten 37 = oPutI 12 16 40 := (congrFun teX12_flatten 37).trans rfl
theorem tX12_flatten_40 : tX12_flatten 40 = oAl 0 41 := (congrFun teX12_flatten 40).trans rfl
theorem tX12_flatten_41 : tX12_flatten 41 = oGet 12 5 44 := (congrFun teX12_flatten 41).trans rfl
theorem tX12_flatten_44 : tX12_flatten 44 = oIl 1 45 := (congrFun teX12_flatten 44).trans rfl
theorem tX12_flatten_45 : tX12_flatten 45 = oIald 46 := (congrFun teX12_flatten 45).trans rfl
theorem tX12_flatten_46 : tX12_flatten 46 = oIf1lt 59 49 := (congrFun teX12_flatten 46).trans rfl
theorem tX12_flatten_49 : tX12_flatten 49 = oAl 0 50 := (congrFun teX12_flatten 49).trans rfl
theorem tX12_flatten_50 : tX12_flatten 50 = oAl 0 51 := (congrFun teX12_flatten 50).trans rfl
theorem tX12_flatten_51 : tX12_flatten 51 = oGet 12 5 54 := (congrFun teX12_flatten 51).trans rfl
theorem tX12_flatten_54 : tX12_flatten 54 = oIl 1 55 := (congrFun teX12_flatten 54).trans rfl
theorem tX12_flatten_55 : tX12_flatten 55 = oIald 56 := (congrFun teX12_flatten 55).trans rfl
theorem tX12_flatten_56 : tX12_flatten 56 = oCallV 12 mX12_flatten 1 59 := (congrFun teX12_flatten 56).trans rfl
theorem tX12_flatten_59 : tX12_flatten 59 = oAl 0 60 := (congrFun teX12_flatten 59).trans rfl
theorem tX12_flatten_60 : tX12_flatten 60 = oGet 12 6 63 := (congrFun teX12_flatten 60).trans rfl
theorem tX12_flatten_63 : tX12_flatten 63 = oIl 1 64 := (congrFun teX12_flatten 63).trans rfl
theorem tX12_flatten_64 : tX12_flatten 64 = oIald 65 := (congrFun teX12_flatten 64).trans rfl
theorem tX12_flatten_65 : tX12_flatten 65 = oIf1lt 78 68 := (congrFun teX12_flatten 65).trans rfl
theorem tX12_flatten_68 : tX12_flatten 68 = oAl 0 69 := (congrFun teX12_flatten 68).trans rfl
theorem tX12_flatten_69 : tX12_flatten 69 = oAl 0 70 := (congrFun teX12_flatten 69).trans rfl
theorem tX12_flatten_70 : tX12_flatten 70 = oGet 12 6 73 := (congrFun teX12_flatten 70).trans rfl
theorem tX12_flatten_73 : tX12_flatten 73 = oIl 1 74 := (congrFun teX12_flatten 73).trans rfl
theorem tX12_flatten_74 : tX12_flatten 74 = oIald 75 := (congrFun teX12_flatten 74).trans rfl
theorem tX12_flatten_75 : tX12_flatten 75 = oCallV 12 mX12_flatten 1 78 := (congrFun teX12_flatten 75).trans rfl
theorem tX12_flatten_78 : tX12_flatten 78 = oVret := (congrFun teX12_flatten 78).trans rfl
def lX12_put : List (Nat × qP) := [(0, oAl 0 1), (1, oK (.int (nI 12)) 3), (3, oIl 1 4), (4, oMul 5), (5, oPutI 12 16 8), (8, oAl 0 9), (9, oIl 2 10), (10, oCallV 12 mX12_flatten 1 13), (13, oAl 0 14), (14, oGet 12 13 17), (17, oIl 1 18), (18, oAl 0 19), (19, oGet 12 16 22), (22, oK (.int (nI 12)) 24), (24, oIl 1 25), (25, oMul 26), (26, oSub 27), (27, oIast 28), (28, oVret)]
def uX12_put : Nat → qP := q_tb lX12_put
set_option maxRecDepth 20000 in
theorem suX12_put : q_Snd mX12_put uX12_put := by
  refine q_tb_ok ?_
  unfold lX12_put
  refine q_fa (ok_aload_n (by decide +kernel : decode cX12_put 0 = .ok (.aload_n 0, 1)) rfl rfl) ?_
  refine q_fa (ok_bipush (by decide +kernel : decode cX12_put 1 = .ok (.bipush 12, 2)) rfl (by decide +kernel)) ?_
  refine q_fa (ok_iload_n (by decide +kernel : decode cX12_put 3 = .ok (.iload_n 1, 1)) rfl rfl) ?_
  refine q_fa (ok_imul (by decide +kernel : decode cX12_put 4 = .ok (.imul, 1)) rfl) ?_
  refine q_fa (ok_putI tyX12 (by decide +kernel : decode cX12_put 5 = .ok (.putfield 171, 3)) rfl (rfl : vwCl[12]? = some (RX12, TX12, 58)) inX12 tyX12_ok nmX12 (by decide) g1020 (Or.inl rfl) (by decide +kernel)) ?_
  refine q_fa (ok_aload_n (by decide +kernel : decode cX12_put 8 = .ok (.aload_n 0, 1)) rfl rfl) ?_
  refine q_fa (ok_iload_n (by decide +kernel : decode cX12_put 9 = .ok (.iload_n 2, 1)) rfl rfl) ?_
  refine q_fa (ok_callV (by decide +kernel : decode cX12_put 10 = .ok (.invokevirtual 182, 3)) rfl kX12_flatten.1 kX12_flatten.2.1 kX12_flatten.2.2.1 kX12_flatten.2.2.2.1 kX12_flatten.2.2.2.2 (rfl : vwCl[12]? = some (RX12, TX12, 58)) g1247 gs59 g1245) ?_
  refine q_fa (ok_aload_n (by decide +kernel : decode cX12_put 13 = .ok (.aload_n 0, 1)) rfl rfl) ?_
  refine q_fa (ok_get (by decide +kernel : decode cX12_put 14 = .ok (.getfield 41, 3)) rfl (rfl : vwCl[12]? = some (RX12, TX12, 58)) inX12 (by decide) g1017) ?_
  refine q_fa (ok_iload_n (by decide +kernel : decode cX12_put 17 = .ok (.iload_n 1, 1)) rfl rfl) ?_
  refine q_fa (ok_aload_n (by decide +kernel : decode cX12_put 18 = .ok (.aload_n 0, 1)) rfl rfl) ?_
  refine q_fa (ok_get (by decide +kernel : decode cX12_put 19 = .ok (.getfield 171, 3)) rfl (rfl : vwCl[12]? = some (RX12, TX12, 58)) inX12 (by decide) g1020) ?_
  refine q_fa (ok_bipush (by decide +kernel : decode cX12_put 22 = .ok (.bipush 12, 2)) rfl (by decide +kernel)) ?_
  refine q_fa (ok_iload_n (by decide +kernel : decode cX12_put 24 = .ok (.iload_n 1, 1)) rfl rfl) ?_
  refine q_fa (ok_imul (by decide +kernel : decode cX12_put 25 = .ok (.imul, 1)) rfl) ?_
  refine q_fa (ok_isub (by decide +kernel : decode cX12_put 26 = .ok (.isub, 1)) rfl) ?_
  refine q_fa (ok_iastore (by decide +kernel : decode cX12_put 27 = .ok (.iastore, 1)) rfl) ?_
  refine q_fa (ok_vret (by decide +kernel : decode cX12_put 28 = .ok (.return_, 1)) rfl) ?_
  exact q_fa0
theorem exX12_put : ∃ t : Nat → qP, t = uX12_put := ⟨_, rfl⟩
noncomputable def tX12_put : Nat → qP := Classical.choose exX12_put
theorem teX12_put : tX12_put = uX12_put := Classical.choose_spec exX12_put
theorem sX12_put : q_Snd mX12_put tX12_put := by rw [teX12_put]; exact suX12_put
theorem tX12_put_0 : tX12_put 0 = oAl 0 1 := (congrFun teX12_put 0).trans rfl
theorem tX12_put_1 : tX12_put 1 = oK (.int (nI 12)) 3 := (congrFun teX12_put 1).trans rfl
theorem tX12_put_3 : tX12_put 3 = oIl 1 4 := (congrFun teX12_put 3).trans rfl
theorem tX12_put_4 : tX12_put 4 = oMul 5 := (congrFun teX12_put 4).trans rfl
theorem tX12_put_5 : tX12_put 5 = oPutI 12 16 8 := (congrFun teX12_put 5).trans rfl
theorem tX12_put_8 : tX12_put 8 = oAl 0 9 := (congrFun teX12_put 8).trans rfl
theorem tX12_put_9 : tX12_put 9 = oIl 2 10 := (congrFun teX12_put 9).trans rfl
theorem tX12_put_10 : tX12_put 10 = oCallV 12 mX12_flatten 1 13 := (congrFun teX12_put 10).trans rfl
theorem tX12_put_13 : tX12_put 13 = oAl 0 14 := (congrFun teX12_put 13).trans rfl
theorem tX12_put_14 : tX12_put 14 = oGet 12 13 17 := (congrFun teX12_put 14).trans rfl
theorem tX12_put_17 : tX12_put 17 = oIl 1 18 := (congrFun teX12_put 17).trans rfl
theorem tX12_put_18 : tX12_put 18 = oAl 0 19 := (congrFun teX12_put 18).trans rfl
theorem tX12_put_19 : tX12_put 19 = oGet 12 16 22 := (congrFun teX12_put 19).trans rfl
theorem tX12_put_22 : tX12_put 22 = oK (.int (nI 12)) 24 := (congrFun teX12_put 22).trans rfl
theorem tX12_put_24 : tX12_put 24 = oIl 1 25 := (congrFun teX12_put 24).trans rfl
theorem tX12_put_25 : tX12_put 25 = oMul 26 := (congrFun teX12_put 25).trans rfl
theorem tX12_put_26 : tX12_put 26 = oSub 27 := (congrFun teX12_put 26).trans rfl
theorem tX12_put_27 : tX12_put 27 = oIast 28 := (congrFun teX12_put 27).trans rfl
theorem tX12_put_28 : tX12_put 28 = oVret := (congrFun teX12_put 28).trans rfl
def lX12_feed : List (Nat × qP) := [(0, oIl 1 1), (1, oK (.int (nI 1)) 2), (2, oK (.int (nI 4)) 3), (3, oCallS mX12_in 3 6), (6, oIf1ne 11 9), (9, oK (.int (-1)) 10), (10, oIret), (11, oAl 0 12), (12, oGet 12 18 15), (15, oIl 1 16), (16, oAdd 17), (17, oK (.int (nI 60)) 19), (19, oIf2le 25 22), (22, oK (.int (-3)) 24), (24, oIret), (25, oK (.int (nI 0)) 26), (26, oIs 3 27), (27, oIl 3 28), (28, oIl 1 29), (29, oIf2ge 64 32), (32, oAl 0 33), (33, oGet 12 17 36), (36, oAl 0 37), (37, oGet 12 18 40), (40, oIl 2 41), (41, oK (.int (nI 8)) 43), (43, oIl 3 44), (44, oMul 45), (45, oShr 46), (46, oI2b 47), (47, oYast 48), (48, oAl 0 49), (49, oDup 50), (50, oGet 12 18 53), (53, oK (.int (nI 1)) 54), (54, oAdd 55), (55, oPutI 12 18 58), (58, oInc 3 (nI 1) 61), (61, oGo 27), (64, oAl 0 65), (65, oGet 12 18 68), (68, oIret)]
def uX12_feed : Nat → qP := q_tb lX12_feed
set_option maxRecDepth 20000 in
theorem suX12_feed : q_Snd mX12_feed uX12_feed := by
  refine q_tb_ok ?_
  unfold lX12_feed
  refine q_fa (ok_iload_n (by decide +kernel : decode cX12_feed 0 = .ok (.iload_n 1, 1)) rfl rfl) ?_
  refine q_fa (ok_iconst (by decide +kernel : decode cX12_feed 1 = .ok (.iconst 1, 1)) rfl (by decide +kernel)) ?_
  refine q_fa (ok_iconst (by decide +kernel : decode cX12_feed 2 = .ok (.iconst 4, 1)) rfl (by decide +kernel)) ?_
  refine q_fa (ok_callS (by decide +kernel : decode cX12_feed 3 = .ok (.invokestatic 163, 3)) rfl kX12_in.1 kX12_in.2.1 kX12_in.2.2.1 kX12_in.2.2.2.1 kX12_in.2.2.2.2 g1185 g1184) ?_
  refine q_fa (ok_if1ne (by decide +kernel : decode cX12_feed 6 = .ok (.ifCond .ne 5, 3)) (by decide) rfl) ?_
  refine q_fa (ok_iconst (by decide +kernel : decode cX12_feed 9 = .ok (.iconst (-1), 1)) rfl (by decide +kernel)) ?_
  refine q_fa (ok_iret (by decide +kernel : decode cX12_feed 10 = .ok (.ireturn, 1)) rfl) ?_
  refine q_fa (ok_aload_n (by decide +kernel : decode cX12_feed 11 = .ok (.aload_n 0, 1)) rfl rfl) ?_
  refine q_fa (ok_get (by decide +kernel : decode cX12_feed 12 = .ok (.getfield 186, 3)) rfl (rfl : vwCl[12]? = some (RX12, TX12, 58)) inX12 (by decide) g1022) ?_
  refine q_fa (ok_iload_n (by decide +kernel : decode cX12_feed 15 = .ok (.iload_n 1, 1)) rfl rfl) ?_
  refine q_fa (ok_iadd (by decide +kernel : decode cX12_feed 16 = .ok (.iadd, 1)) rfl) ?_
  refine q_fa (ok_bipush (by decide +kernel : decode cX12_feed 17 = .ok (.bipush 60, 2)) rfl (by decide +kernel)) ?_
  refine q_fa (ok_if2le (by decide +kernel : decode cX12_feed 19 = .ok (.if_icmp .le 6, 3)) (by decide) rfl) ?_
  refine q_fa (ok_bipush (by decide +kernel : decode cX12_feed 22 = .ok (.bipush (-3), 2)) rfl (by decide +kernel)) ?_
  refine q_fa (ok_iret (by decide +kernel : decode cX12_feed 24 = .ok (.ireturn, 1)) rfl) ?_
  refine q_fa (ok_iconst (by decide +kernel : decode cX12_feed 25 = .ok (.iconst 0, 1)) rfl (by decide +kernel)) ?_
  refine q_fa (ok_istore_n (by decide +kernel : decode cX12_feed 26 = .ok (.istore_n 3, 1)) rfl rfl (by decide)) ?_
  refine q_fa (ok_iload_n (by decide +kernel : decode cX12_feed 27 = .ok (.iload_n 3, 1)) rfl rfl) ?_
  refine q_fa (ok_iload_n (by decide +kernel : decode cX12_feed 28 = .ok (.iload_n 1, 1)) rfl rfl) ?_
  refine q_fa (ok_if2ge (by decide +kernel : decode cX12_feed 29 = .ok (.if_icmp .ge 35, 3)) (by decide) rfl) ?_
  refine q_fa (ok_aload_n (by decide +kernel : decode cX12_feed 32 = .ok (.aload_n 0, 1)) rfl rfl) ?_
  refine q_fa (ok_get (by decide +kernel : decode cX12_feed 33 = .ok (.getfield 50, 3)) rfl (rfl : vwCl[12]? = some (RX12, TX12, 58)) inX12 (by decide) g1021) ?_
  refine q_fa (ok_aload_n (by decide +kernel : decode cX12_feed 36 = .ok (.aload_n 0, 1)) rfl rfl) ?_
  refine q_fa (ok_get (by decide +kernel : decode cX12_feed 37 = .ok (.getfield 186, 3)) rfl (rfl : vwCl[12]? = some (RX12, TX12, 58)) inX12 (by decide) g1022) ?_
  refine q_fa (ok_iload_n (by decide +kernel : decode cX12_feed 40 = .ok (.iload_n 2, 1)) rfl rfl) ?_
  refine q_fa (ok_bipush (by decide +kernel : decode cX12_feed 41 = .ok (.bipush 8, 2)) rfl (by decide +kernel)) ?_
  refine q_fa (ok_iload_n (by decide +kernel : decode cX12_feed 43 = .ok (.iload_n 3, 1)) rfl rfl) ?_
  refine q_fa (ok_imul (by decide +kernel : decode cX12_feed 44 = .ok (.imul, 1)) rfl) ?_
  refine q_fa (ok_ishr (by decide +kernel : decode cX12_feed 45 = .ok (.ishr, 1)) rfl) ?_
  refine q_fa (ok_i2b (by decide +kernel : decode cX12_feed 46 = .ok (.i2b, 1)) rfl) ?_
  refine q_fa (ok_yastore (by decide +kernel : decode cX12_feed 47 = .ok (.bastore, 1)) rfl) ?_
  refine q_fa (ok_aload_n (by decide +kernel : decode cX12_feed 48 = .ok (.aload_n 0, 1)) rfl rfl) ?_
  refine q_fa (ok_dup (by decide +kernel : decode cX12_feed 49 = .ok (.dup, 1)) rfl) ?_
  refine q_fa (ok_get (by decide +kernel : decode cX12_feed 50 = .ok (.getfield 186, 3)) rfl (rfl : vwCl[12]? = some (RX12, TX12, 58)) inX12 (by decide) g1022) ?_
  refine q_fa (ok_iconst (by decide +kernel : decode cX12_feed 53 = .ok (.iconst 1, 1)) rfl (by decide +kernel)) ?_
  refine q_fa (ok_iadd (by decide +kernel : decode cX12_feed 54 = .ok (.iadd, 1)) rfl) ?_
  refine q_fa (ok_putI tyX12 (by decide +kernel : decode cX12_feed 55 = .ok (.putfield 186, 3)) rfl (rfl : vwCl[12]? = some (RX12, TX12, 58)) inX12 tyX12_ok nmX12 (by decide) g1022 (Or.inl rfl) (by decide +kernel)) ?_
  refine q_fa (ok_iinc (by decide +kernel : decode cX12_feed 58 = .ok (.iinc 3 1, 3)) rfl (by decide +kernel) (by decide)) ?_
  refine q_fa (ok_goto (by decide +kernel : decode cX12_feed 61 = .ok (.goto (-34), 3)) (by decide)) ?_
  refine q_fa (ok_aload_n (by decide +kernel : decode cX12_feed 64 = .ok (.aload_n 0, 1)) rfl rfl) ?_
  refine q_fa (ok_get (by decide +kernel : decode cX12_feed 65 = .ok (.getfield 186, 3)) rfl (rfl : vwCl[12]? = some (RX12, TX12, 58)) inX12 (by decide) g1022) ?_
  refine q_fa (ok_iret (by decide +kernel : decode cX12_feed 68 = .ok (.ireturn, 1)) rfl) ?_
  exact q_fa0
theorem exX12_feed : ∃ t : Nat → qP, t = uX12_feed := ⟨_, rfl⟩
noncomputable def tX12_feed : Nat → qP := Classical.choose exX12_feed
theorem teX12_feed : tX12_feed = uX12_feed := Classical.choose_spec exX12_feed
theorem sX12_feed : q_Snd mX12_feed tX12_feed := by rw [teX12_feed]; exact suX12_feed
theorem tX12_feed_0 : tX12_feed 0 = oIl 1 1 := (congrFun teX12_feed 0).trans rfl
theorem tX12_feed_1 : tX12_feed 1 = oK (.int (nI 1)) 2 := (congrFun teX12_feed 1).trans rfl
theorem tX12_feed_2 : tX12_feed 2 = oK (.int (nI 4)) 3 := (congrFun teX12_feed 2).trans rfl
theorem tX12_feed_3 : tX12_feed 3 = oCallS mX12_in 3 6 := (congrFun teX12_feed 3).trans rfl
theorem tX12_feed_6 : tX12_feed 6 = oIf1ne 11 9 := (congrFun teX12_feed 6).trans rfl
theorem tX12_feed_9 : tX12_feed 9 = oK (.int (-1)) 10 := (congrFun teX12_feed 9).trans rfl
theorem tX12_feed_10 : tX12_feed 10 = oIret := (congrFun teX12_feed 10).trans rfl
theorem tX12_feed_11 : tX12_feed 11 = oAl 0 12 := (congrFun teX12_feed 11).trans rfl
theorem tX12_feed_12 : tX12_feed 12 = oGet 12 18 15 := (congrFun teX12_feed 12).trans rfl
theorem tX12_feed_15 : tX12_feed 15 = oIl 1 16 := (congrFun teX12_feed 15).trans rfl
theorem tX12_feed_16 : tX12_feed 16 = oAdd 17 := (congrFun teX12_feed 16).trans rfl
theorem tX12_feed_17 : tX12_feed 17 = oK (.int (nI 60)) 19 := (congrFun teX12_feed 17).trans rfl
theorem tX12_feed_19 : tX12_feed 19 = oIf2le 25 22 := (congrFun teX12_feed 19).trans rfl
theorem tX12_feed_22 : tX12_feed 22 = oK (.int (-3)) 24 := (congrFun teX12_feed 22).trans rfl
theorem tX12_feed_24 : tX12_feed 24 = oIret := (congrFun teX12_feed 24).trans rfl
theorem tX12_feed_25 : tX12_feed 25 = oK (.int (nI 0)) 26 := (congrFun teX12_feed 25).trans rfl
theorem tX12_feed_26 : tX12_feed 26 = oIs 3 27 := (congrFun teX12_feed 26).trans rfl
theorem tX12_feed_27 : tX12_feed 27 = oIl 3 28 := (congrFun teX12_feed 27).trans rfl
theorem tX12_feed_28 : tX12_feed 28 = oIl 1 29 := (congrFun teX12_feed 28).trans rfl
theorem tX12_feed_29 : tX12_feed 29 = oIf2ge 64 32 := (congrFun teX12_feed 29).trans rfl
theorem tX12_feed_32 : tX12_feed 32 = oAl 0 33 := (congrFun teX12_feed 32).trans rfl
theorem tX12_feed_33 : tX12_feed 33 = oGet 12 17 36 := (congrFun teX12_feed 33).trans rfl
theorem tX12_feed_36 : tX12_feed 36 = oAl 0 37 := (congrFun teX12_feed 36).trans rfl
theorem tX12_feed_37 : tX12_feed 37 = oGet 12 18 40 := (congrFun teX12_feed 37).trans rfl
theorem tX12_feed_40 : tX12_feed 40 = oIl 2 41 := (congrFun teX12_feed 40).trans rfl
theorem tX12_feed_41 : tX12_feed 41 = oK (.int (nI 8)) 43 := (congrFun teX12_feed 41).trans rfl
theorem tX12_feed_43 : tX12_feed 43 = oIl 3 44 := (congrFun teX12_feed 43).trans rfl
theorem tX12_feed_44 : tX12_feed 44 = oMul 45 := (congrFun teX12_feed 44).trans rfl
theorem tX12_feed_45 : tX12_feed 45 = oShr 46 := (congrFun teX12_feed 45).trans rfl
theorem tX12_feed_46 : tX12_feed 46 = oI2b 47 := (congrFun teX12_feed 46).trans rfl
theorem tX12_feed_47 : tX12_feed 47 = oYast 48 := (congrFun teX12_feed 47).trans rfl
theorem tX12_feed_48 : tX12_feed 48 = oAl 0 49 := (congrFun teX12_feed 48).trans rfl
theorem tX12_feed_49 : tX12_feed 49 = oDup 50 := (congrFun teX12_feed 49).trans rfl
theorem tX12_feed_50 : tX12_feed 50 = oGet 12 18 53 := (congrFun teX12_feed 50).trans rfl
theorem tX12_feed_53 : tX12_feed 53 = oK (.int (nI 1)) 54 := (congrFun teX12_feed 53).trans rfl
theorem tX12_feed_54 : tX12_feed 54 = oAdd 55 := (congrFun teX12_feed 54).trans rfl
theorem tX12_feed_55 : tX12_feed 55 = oPutI 12 18 58 := (congrFun teX12_feed 55).trans rfl
theorem tX12_feed_58 : tX12_feed 58 = oInc 3 (nI 1) 61 := (congrFun teX12_feed 58).trans rfl
theorem tX12_feed_61 : tX12_feed 61 = oGo 27 := (congrFun teX12_feed 61).trans rfl
theorem tX12_feed_64 : tX12_feed 64 = oAl 0 65 := (congrFun teX12_feed 64).trans rfl
theorem tX12_feed_65 : tX12_feed 65 = oGet 12 18 68 := (congrFun teX12_feed 65).trans rfl
theorem tX12_feed_68 : tX12_feed 68 = oIret := (congrFun teX12_feed 68).trans rfl
def lX12_look : List (Nat × qP) := [(0, oAl 0 1), (1, oGet 12 19 4), (4, oAl 0 5), (5, oGet 12 18 8), (8, oIf2ge 23 11), (11, oAl 0 12), (12, oGet 12 17 15), (15, oAl 0 16), (16, oGet 12 19 19), (19, oYald 20), (20, oGo 24), (23, oK (.int (-1)) 24), (24, oIret)]
def uX12_look : Nat → qP := q_tb lX12_look
set_option maxRecDepth 20000 in
theorem suX12_look : q_Snd mX12_look uX12_look := by
  refine q_tb_ok ?_
  unfold lX12_look
  refine q_fa (ok_aload_n (by decide +kernel : decode cX12_look 0 = .ok (.aload_n 0, 1)) rfl rfl) ?_
  refine q_fa (ok_get (by decide +kernel : decode cX12_look 1 = .ok (.getfield 189, 3)) rfl (rfl : vwCl[12]? = some (RX12, TX12, 58)) inX12 (by decide) g1023) ?_
  refine q_fa (ok_aload_n (by decide +kernel : decode cX12_look 4 = .ok (.aload_n 0, 1)) rfl rfl) ?_
  refine q_fa (ok_get (by decide +kernel : decode cX12_look 5 = .ok (.getfield 186, 3)) rfl (rfl : vwCl[12]? = some (RX12, TX12, 58)) inX12 (by decide) g1022) ?_
  refine q_fa (ok_if2ge (by decide +kernel : decode cX12_look 8 = .ok (.if_icmp .ge 15, 3)) (by decide) rfl) ?_
  refine q_fa (ok_aload_n (by decide +kernel : decode cX12_look 11 = .ok (.aload_n 0, 1)) rfl rfl) ?_
  refine q_fa (ok_get (by decide +kernel : decode cX12_look 12 = .ok (.getfield 50, 3)) rfl (rfl : vwCl[12]? = some (RX12, TX12, 58)) inX12 (by decide) g1021) ?_
  refine q_fa (ok_aload_n (by decide +kernel : decode cX12_look 15 = .ok (.aload_n 0, 1)) rfl rfl) ?_
  refine q_fa (ok_get (by decide +kernel : decode cX12_look 16 = .ok (.getfield 189, 3)) rfl (rfl : vwCl[12]? = some (RX12, TX12, 58)) inX12 (by decide) g1023) ?_
  refine q_fa (ok_yaload (by decide +kernel : decode cX12_look 19 = .ok (.baload, 1)) rfl) ?_
  refine q_fa (ok_goto (by decide +kernel : decode cX12_look 20 = .ok (.goto 4, 3)) (by decide)) ?_
  refine q_fa (ok_iconst (by decide +kernel : decode cX12_look 23 = .ok (.iconst (-1), 1)) rfl (by decide +kernel)) ?_
  refine q_fa (ok_iret (by decide +kernel : decode cX12_look 24 = .ok (.ireturn, 1)) rfl) ?_
  exact q_fa0
theorem exX12_look : ∃ t : Nat → qP, t = uX12_look := ⟨_, rfl⟩
noncomputable def tX12_look : Nat → qP := Classical.choose exX12_look
theorem teX12_look : tX12_look = uX12_look := Classical.choose_spec exX12_look
theorem sX12_look : q_Snd mX12_look tX12_look := by rw [teX12_look]; exact suX12_look
theorem tX12_look_0 : tX12_look 0 = oAl 0 1 := (congrFun teX12_look 0).trans rfl
theorem tX12_look_1 : tX12_look 1 = oGet 12 19 4 := (congrFun teX12_look 1).trans rfl
theorem tX12_look_4 : tX12_look 4 = oAl 0 5 := (congrFun teX12_look 4).trans rfl
theorem tX12_look_5 : tX12_look 5 = oGet 12 18 8 := (congrFun teX12_look 5).trans rfl
theorem tX12_look_8 : tX12_look 8 = oIf2ge 23 11 := (congrFun teX12_look 8).trans rfl
theorem tX12_look_11 : tX12_look 11 = oAl 0 12 := (congrFun teX12_look 11).trans rfl
theorem tX12_look_12 : tX12_look 12 = oGet 12 17 15 := (congrFun teX12_look 12).trans rfl
theorem tX12_look_15 : tX12_look 15 = oAl 0 16 := (congrFun teX12_look 15).trans rfl
theorem tX12_look_16 : tX12_look 16 = oGet 12 19 19 := (congrFun teX12_look 16).trans rfl
theorem tX12_look_19 : tX12_look 19 = oYald 20 := (congrFun teX12_look 19).trans rfl
theorem tX12_look_20 : tX12_look 20 = oGo 24 := (congrFun teX12_look 20).trans rfl
theorem tX12_look_23 : tX12_look 23 = oK (.int (-1)) 24 := (congrFun teX12_look 23).trans rfl
theorem tX12_look_24 : tX12_look 24 = oIret := (congrFun teX12_look 24).trans rfl
def lX12_wrong : List (Nat × qP) := [(0, oAl 0 1), (1, oGet 12 20 4), (4, oIf1ge 15 7), (7, oAl 0 8), (8, oAl 0 9), (9, oGet 12 19 12), (12, oPutI 12 20 15), (15, oK (.int (-1)) 16), (16, oIret)]
def uX12_wrong : Nat → qP := q_tb lX12_wrong
set_option maxRecDepth 20000 in
theorem suX12_wrong : q_Snd mX12_wrong uX12_wrong := by
  refine q_tb_ok ?_
  unfold lX12_wrong
  refine q_fa (ok_aload_n (by decide +kernel : decode cX12_wrong 0 = .ok (.aload_n 0, 1)) rfl rfl) ?_
  refine q_fa (ok_get (by decide +kernel : decode cX12_wrong 1 = .ok (.getfield 192, 3)) rfl (rfl : vwCl[12]? = some (RX12, TX12, 58)) inX12 (by decide) g1024) ?_
  refine q_fa (ok_if1ge (by decide +kernel : decode cX12_wrong 4 = .ok (.ifCond .ge 11, 3)) (by decide) rfl) ?_
  refine q_fa (ok_aload_n (by decide +kernel : decode cX12_wrong 7 = .ok (.aload_n 0, 1)) rfl rfl) ?_
  refine q_fa (ok_aload_n (by decide +kernel : decode cX12_wrong 8 = .ok (.aload_n 0, 1)) rfl rfl) ?_
  refine q_fa (ok_get (by decide +kernel : decode cX12_wrong 9 = .ok (.getfield 189, 3)) rfl (rfl : vwCl[12]? = some (RX12, TX12, 58)) inX12 (by decide) g1023) ?_
  refine q_fa (ok_putI tyX12 (by decide +kernel : decode cX12_wrong 12 = .ok (.putfield 192, 3)) rfl (rfl : vwCl[12]? = some (RX12, TX12, 58)) inX12 tyX12_ok nmX12 (by decide) g1024 (Or.inl rfl) (by decide +kernel)) ?_
  refine q_fa (ok_iconst (by decide +kernel : decode cX12_wrong 15 = .ok (.iconst (-1), 1)) rfl (by decide +kernel)) ?_
  refine q_fa (ok_iret (by decide +kernel : decode cX12_wrong 16 = .ok (.ireturn, 1)) rfl) ?_
  exact q_fa0
theorem exX12_wrong : ∃ t : Nat → qP, t = uX12_wrong := ⟨_, rfl⟩
noncomputable def tX12_wrong : Nat → qP := Classical.choose exX12_wrong
theorem teX12_wrong : tX12_wrong = uX12_wrong := Classical.choose_spec exX12_wrong
theorem sX12_wrong : q_Snd mX12_wrong tX12_wrong := by rw [teX12_wrong]; exact suX12_wrong
theorem tX12_wrong_0 : tX12_wrong 0 = oAl 0 1 := (congrFun teX12_wrong 0).trans rfl
theorem tX12_wrong_1 : tX12_wrong 1 = oGet 12 20 4 := (congrFun teX12_wrong 1).trans rfl
theorem tX12_wrong_4 : tX12_wrong 4 = oIf1ge 15 7 := (congrFun teX12_wrong 4).trans rfl
theorem tX12_wrong_7 : tX12_wrong 7 = oAl 0 8 := (congrFun teX12_wrong 7).trans rfl
theorem tX12_wrong_8 : tX12_wrong 8 = oAl 0 9 := (congrFun teX12_wrong 8).trans rfl
theorem tX12_wrong_9 : tX12_wrong 9 = oGet 12 19 12 := (congrFun teX12_wrong 9).trans rfl
theorem tX12_wrong_12 : tX12_wrong 12 = oPutI 12 20 15 := (congrFun teX12_wrong 12).trans rfl
theorem tX12_wrong_15 : tX12_wrong 15 = oK (.int (-1)) 16 := (congrFun teX12_wrong 15).trans rfl
theorem tX12_wrong_16 : tX12_wrong 16 = oIret := (congrFun teX12_wrong 16).trans rfl
def lX12_begins : List (Nat × qP) := [(0, oAl 0 1), (1, oCallV 12 mX12_look 0 4), (4, oK (.int (nI 97)) 6), (6, oK (.int (nI 99)) 8), (8, oCallS mX12_in 3 11), (11, oIf1ne 32 14), (14, oAl 0 15), (15, oCallV 12 mX12_look 0 18), (18, oK (.int (nI 91)) 20), (20, oIf2eq 32 23), (23, oAl 0 24), (24, oCallV 12 mX12_look 0 27), (27, oK (.int (nI 40)) 29), (29, oIf2ne 36 32), (32, oK (.int (nI 1)) 33), (33, oGo 37), (36, oK (.int (nI 0)) 37), (37, oZret)]
def uX12_begins : Nat → qP := q_tb lX12_begins
set_option maxRecDepth 20000 in
theorem suX12_begins : q_Snd mX12_begins uX12_begins := by
  refine q_tb_ok ?_
  unfold lX12_begins
  refine q_fa (ok_aload_n (by decide +kernel : decode cX12_begins 0 = .ok (.aload_n 0, 1)) rfl rfl) ?_
  refine q_fa (ok_callV (by decide +kernel : decode cX12_begins 1 = .ok (.invokevirtual 195, 3)) rfl kX12_look.1 kX12_look.2.1 kX12_look.2.2.1 kX12_look.2.2.2.1 kX12_look.2.2.2.2 (rfl : vwCl[12]? = some (RX12, TX12, 58)) g1212 gs51 g1210) ?_
  refine q_fa (ok_bipush (by decide +kernel : decode cX12_begins 4 = .ok (.bipush 97, 2)) rfl (by decide +kernel)) ?_
  refine q_fa (ok_bipush (by decide +kernel : decode cX12_begins 6 = .ok (.bipush 99, 2)) rfl (by decide +kernel)) ?_
  refine q_fa (ok_callS (by decide +kernel : decode cX12_begins 8 = .ok (.invokestatic 163, 3)) rfl kX12_in.1 kX12_in.2.1 kX12_in.2.2.1 kX12_in.2.2.2.1 kX12_in.2.2.2.2 g1185 g1184) ?_
  refine q_fa (ok_if1ne (by decide +kernel : decode cX12_begins 11 = .ok (.ifCond .ne 21, 3)) (by decide) rfl) ?_
  refine q_fa (ok_aload_n (by decide +kernel : decode cX12_begins 14 = .ok (.aload_n 0, 1)) rfl rfl) ?_
  refine q_fa (ok_callV (by decide +kernel : decode cX12_begins 15 = .ok (.invokevirtual 195, 3)) rfl kX12_look.1 kX12_look.2.1 kX12_look.2.2.1 kX12_look.2.2.2.1 kX12_look.2.2.2.2 (rfl : vwCl[12]? = some (RX12, TX12, 58)) g1212 gs51 g1210) ?_
  refine q_fa (ok_bipush (by decide +kernel : decode cX12_begins 18 = .ok (.bipush 91, 2)) rfl (by decide +kernel)) ?_
  refine q_fa (ok_if2eq (by decide +kernel : decode cX12_begins 20 = .ok (.if_icmp .eq 12, 3)) (by decide) rfl) ?_
  refine q_fa (ok_aload_n (by decide +kernel : decode cX12_begins 23 = .ok (.aload_n 0, 1)) rfl rfl) ?_
  refine q_fa (ok_callV (by decide +kernel : decode cX12_begins 24 = .ok (.invokevirtual 195, 3)) rfl kX12_look.1 kX12_look.2.1 kX12_look.2.2.1 kX12_look.2.2.2.1 kX12_look.2.2.2.2 (rfl : vwCl[12]? = some (RX12, TX12, 58)) g1212 gs51 g1210) ?_
  refine q_fa (ok_bipush (by decide +kernel : decode cX12_begins 27 = .ok (.bipush 40, 2)) rfl (by decide +kernel)) ?_
  refine q_fa (ok_if2ne (by decide +kernel : decode cX12_begins 29 = .ok (.if_icmp .ne 7, 3)) (by decide) rfl) ?_
  refine q_fa (ok_iconst (by decide +kernel : decode cX12_begins 32 = .ok (.iconst 1, 1)) rfl (by decide +kernel)) ?_
  refine q_fa (ok_goto (by decide +kernel : decode cX12_begins 33 = .ok (.goto 4, 3)) (by decide)) ?_
  refine q_fa (ok_iconst (by decide +kernel : decode cX12_begins 36 = .ok (.iconst 0, 1)) rfl (by decide +kernel)) ?_
  refine q_fa (ok_zret (by decide +kernel : decode cX12_begins 37 = .ok (.ireturn, 1)) rfl) ?_
  exact q_fa0
theorem exX12_begins : ∃ t : Nat → qP, t = uX12_begins := ⟨_, rfl⟩
noncomputable def tX12_begins : Nat → qP := Classical.choose exX12_begins
theorem teX12_begins : tX12_begins = uX12_begins := Classical.choose_spec exX12_begins
theorem sX12_begins : q_Snd mX12_begins tX12_begins := by rw [teX12_begins]; exact suX12_begins
theorem tX12_begins_0 : tX12_begins 0 = oAl 0 1 := (congrFun teX12_begins 0).trans rfl
theorem tX12_begins_1 : tX12_begins 1 = oCallV 12 mX12_look 0 4 := (congrFun teX12_begins 1).trans rfl
theorem tX12_begins_4 : tX12_begins 4 = oK (.int (nI 97)) 6 := (congrFun teX12_begins 4).trans rfl
theorem tX12_begins_6 : tX12_begins 6 = oK (.int (nI 99)) 8 := (congrFun teX12_begins 6).trans rfl
theorem tX12_begins_8 : tX12_begins 8 = oCallS mX12_in 3 11 := (congrFun teX12_begins 8).trans rfl
theorem tX12_begins_11 : tX12_begins 11 = oIf1ne 32 14 := (congrFun teX12_begins 11).trans rfl
theorem tX12_begins_14 : tX12_begins 14 = oAl 0 15 := (congrFun teX12_begins 14).trans rfl
theorem tX12_begins_15 : tX12_begins 15 = oCallV 12 mX12_look 0 18 := (congrFun teX12_begins 15).trans rfl
theorem tX12_begins_18 : tX12_begins 18 = oK (.int (nI 91)) 20 := (congrFun teX12_begins 18).trans rfl
theorem tX12_begins_20 : tX12_begins 20 = oIf2eq 32 23 := (congrFun teX12_begins 20).trans rfl
theorem tX12_begins_23 : tX12_begins 23 = oAl 0 24 := (congrFun teX12_begins 23).trans rfl
theorem tX12_begins_24 : tX12_begins 24 = oCallV 12 mX12_look 0 27 := (congrFun teX12_begins 24).trans rfl
theorem tX12_begins_27 : tX12_begins 27 = oK (.int (nI 40)) 29 := (congrFun teX12_begins 27).trans rfl
theorem tX12_begins_29 : tX12_begins 29 = oIf2ne 36 32 := (congrFun teX12_begins 29).trans rfl
theorem tX12_begins_32 : tX12_begins 32 = oK (.int (nI 1)) 33 := (congrFun teX12_begins 32).trans rfl
theorem tX12_begins_33 : tX12_begins 33 = oGo 37 := (congrFun teX12_begins 33).trans rfl
theorem tX12_begins_36 : tX12_begins 36 = oK (.int (nI 0)) 37 := (congrFun teX12_begins 36).trans rfl
theorem tX12_begins_37 : tX12_begins 37 = oZret := (congrFun teX12_begins 37).trans rfl
def lX12_either : List (Nat × qP) := [(0, oAl 0 1), (1, oCallV 12 mX12_row0 0 4), (4, oIs 1 5), (5, oAl 0 6), (6, oGet 12 20 9), (9, oIf1ge 21 12), (12, oAl 0 13), (13, oCallV 12 mX12_look 0 16), (16, oK (.int (nI 124)) 18), (18, oIf2eq 23 21), (21, oIl 1 22), (22, oIret), (23, oAl 0 24), (24, oDup 25), (25, oGet 12 19 28), (28, oK (.int (nI 1)) 29), (29, oAdd 30), (30, oPutI 12 19 33), (33, oAl 0 34), (34, oCallV 12 mX12_either 0 37), (37, oIs 2 38), (38, oAl 0 39), (39, oGet 12 20 42), (42, oIf1lt 49 45), (45, oK (.int (-1)) 46), (46, oGo 57), (49, oAl 0 50), (50, oK (.int (nI 3)) 51), (51, oK (.int (nI 0)) 52), (52, oIl 1 53), (53, oIl 2 54), (54, oCallV 12 mX12_make 4 57), (57, oIret)]
def uX12_either : Nat → qP := q_tb lX12_either
set_option maxRecDepth 20000 in
theorem suX12_either : q_Snd mX12_either uX12_either := by
  refine q_tb_ok ?_
  unfold lX12_either
  refine q_fa (ok_aload_n (by decide +kernel : decode cX12_either 0 = .ok (.aload_n 0, 1)) rfl rfl) ?_
  refine q_fa (ok_callV (by decide +kernel : decode cX12_either 1 = .ok (.invokevirtual 198, 3)) rfl kX12_row0.1 kX12_row0.2.1 kX12_row0.2.2.1 kX12_row0.2.2.2.1 kX12_row0.2.2.2.2 (rfl : vwCl[12]? = some (RX12, TX12, 58)) g1200 gs48 g1198) ?_
  refine q_fa (ok_istore_n (by decide +kernel : decode cX12_either 4 = .ok (.istore_n 1, 1)) rfl rfl (by decide)) ?_
  refine q_fa (ok_aload_n (by decide +kernel : decode cX12_either 5 = .ok (.aload_n 0, 1)) rfl rfl) ?_
  refine q_fa (ok_get (by decide +kernel : decode cX12_either 6 = .ok (.getfield 192, 3)) rfl (rfl : vwCl[12]? = some (RX12, TX12, 58)) inX12 (by decide) g1024) ?_
  refine q_fa (ok_if1ge (by decide +kernel : decode cX12_either 9 = .ok (.ifCond .ge 12, 3)) (by decide) rfl) ?_
  refine q_fa (ok_aload_n (by decide +kernel : decode cX12_either 12 = .ok (.aload_n 0, 1)) rfl rfl) ?_
  refine q_fa (ok_callV (by decide +kernel : decode cX12_either 13 = .ok (.invokevirtual 195, 3)) rfl kX12_look.1 kX12_look.2.1 kX12_look.2.2.1 kX12_look.2.2.2.1 kX12_look.2.2.2.2 (rfl : vwCl[12]? = some (RX12, TX12, 58)) g1212 gs51 g1210) ?_
  refine q_fa (ok_bipush (by decide +kernel : decode cX12_either 16 = .ok (.bipush 124, 2)) rfl (by decide +kernel)) ?_
  refine q_fa (ok_if2eq (by decide +kernel : decode cX12_either 18 = .ok (.if_icmp .eq 5, 3)) (by decide) rfl) ?_
  refine q_fa (ok_iload_n (by decide +kernel : decode cX12_either 21 = .ok (.iload_n 1, 1)) rfl rfl) ?_
  refine q_fa (ok_iret (by decide +kernel : decode cX12_either 22 = .ok (.ireturn, 1)) rfl) ?_
  refine q_fa (ok_aload_n (by decide +kernel : decode cX12_either 23 = .ok (.aload_n 0, 1)) rfl rfl) ?_
  refine q_fa (ok_dup (by decide +kernel : decode cX12_either 24 = .ok (.dup, 1)) rfl) ?_
  refine q_fa (ok_get (by decide +kernel : decode cX12_either 25 = .ok (.getfield 189, 3)) rfl (rfl : vwCl[12]? = some (RX12, TX12, 58)) inX12 (by decide) g1023) ?_
  refine q_fa (ok_iconst (by decide +kernel : decode cX12_either 28 = .ok (.iconst 1, 1)) rfl (by decide +kernel)) ?_
  refine q_fa (ok_iadd (by decide +kernel : decode cX12_either 29 = .ok (.iadd, 1)) rfl) ?_
  refine q_fa (ok_putI tyX12 (by decide +kernel : decode cX12_either 30 = .ok (.putfield 189, 3)) rfl (rfl : vwCl[12]? = some (RX12, TX12, 58)) inX12 tyX12_ok nmX12 (by decide) g1023 (Or.inl rfl) (by decide +kernel)) ?_
  refine q_fa (ok_aload_n (by decide +kernel : decode cX12_either 33 = .ok (.aload_n 0, 1)) rfl rfl) ?_
  refine q_fa (ok_callV (by decide +kernel : decode cX12_either 34 = .ok (.invokevirtual 201, 3)) rfl kX12_either.1 kX12_either.2.1 kX12_either.2.2.1 kX12_either.2.2.2.1 kX12_either.2.2.2.2 (rfl : vwCl[12]? = some (RX12, TX12, 58)) g1196 gs47 g1194) ?_
  refine q_fa (ok_istore_n (by decide +kernel : decode cX12_either 37 = .ok (.istore_n 2, 1)) rfl rfl (by decide)) ?_
  refine q_fa (ok_aload_n (by decide +kernel : decode cX12_either 38 = .ok (.aload_n 0, 1)) rfl rfl) ?_
  refine q_fa (ok_get (by decide +kernel : decode cX12_either 39 = .ok (.getfield 192, 3)) rfl (rfl : vwCl[12]? = some (RX12, TX12, 58)) inX12 (by decide) g1024) ?_
  refine q_fa (ok_if1lt (by decide +kernel : decode cX12_either 42 = .ok (.ifCond .lt 7, 3)) (by decide) rfl) ?_
  refine q_fa (ok_iconst (by decide +kernel : decode cX12_either 45 = .ok (.iconst (-1), 1)) rfl (by decide +kernel)) ?_
  refine q_fa (ok_goto (by decide +kernel : decode cX12_either 46 = .ok (.goto 11, 3)) (by decide)) ?_
  refine q_fa (ok_aload_n (by decide +kernel : decode cX12_either 49 = .ok (.aload_n 0, 1)) rfl rfl) ?_
  refine q_fa (ok_iconst (by decide +kernel : decode cX12_either 50 = .ok (.iconst 3, 1)) rfl (by decide +kernel)) ?_
  refine q_fa (ok_iconst (by decide +kernel : decode cX12_either 51 = .ok (.iconst 0, 1)) rfl (by decide +kernel)) ?_
  refine q_fa (ok_iload_n (by decide +kernel : decode cX12_either 52 = .ok (.iload_n 1, 1)) rfl rfl) ?_
  refine q_fa (ok_iload_n (by decide +kernel : decode cX12_either 53 = .ok (.iload_n 2, 1)) rfl rfl) ?_
  refine q_fa (ok_callV (by decide +kernel : decode cX12_either 54 = .ok (.invokevirtual 178, 3)) rfl kX12_make.1 kX12_make.2.1 kX12_make.2.2.1 kX12_make.2.2.2.1 kX12_make.2.2.2.2 (rfl : vwCl[12]? = some (RX12, TX12, 58)) g1216 gs52 g1214) ?_
  refine q_fa (ok_iret (by decide +kernel : decode cX12_either 57 = .ok (.ireturn, 1)) rfl) ?_
  exact q_fa0
theorem exX12_either : ∃ t : Nat → qP, t = uX12_either := ⟨_, rfl⟩
noncomputable def tX12_either : Nat → qP := Classical.choose exX12_either
theorem teX12_either : tX12_either = uX12_either := Classical.choose_spec exX12_either
theorem sX12_either : q_Snd mX12_either tX12_either := by rw [teX12_either]; exact suX12_either
theorem tX12_either_0 : tX12_either 0 = oAl 0 1 := (congrFun teX12_either 0).trans rfl
theorem tX12_either_1 : tX12_either 1 = oCallV 12 mX12_row0 0 4 := (congrFun teX12_either 1).trans rfl
theorem tX12_either_4 : tX12_either 4 = oIs 1 5 := (congrFun teX12_either 4).trans rfl
theorem tX12_either_5 : tX12_either 5 = oAl 0 6 := (congrFun teX12_either 5).trans rfl
theorem tX12_either_6 : tX12_either 6 = oGet 12 20 9 := (congrFun teX12_either 6).trans rfl
theorem tX12_either_9 : tX12_either 9 = oIf1ge 21 12 := (congrFun teX12_either 9).trans rfl
theorem tX12_either_12 : tX12_either 12 = oAl 0 13 := (congrFun teX12_either 12).trans rfl
theorem tX12_either_13 : tX12_either 13 = oCallV 12 mX12_look 0 16 := (congrFun teX12_either 13).trans rfl
theorem tX12_either_16 : tX12_either 16 = oK (.int (nI 124)) 18 := (congrFun teX12_either 16).trans rfl
theorem tX12_either_18 : tX12_either 18 = oIf2eq 23 21 := (congrFun teX12_either 18).trans rfl
theorem tX12_either_21 : tX12_either 21 = oIl 1 22 := (congrFun teX12_either 21).trans rfl
theorem tX12_either_22 : tX12_either 22 = oIret := (congrFun teX12_either 22).trans rfl
theorem tX12_either_23 : tX12_either 23 = oAl 0 24 := (congrFun teX12_either 23).trans rfl
theorem tX12_either_24 : tX12_either 24 = oDup 25 := (congrFun teX12_either 24).trans rfl
theorem tX12_either_25 : tX12_either 25 = oGet 12 19 28 := (congrFun teX12_either 25).trans rfl
theorem tX12_either_28 : tX12_either 28 = oK (.int (nI 1)) 29 := (congrFun teX12_either 28).trans rfl
theorem tX12_either_29 : tX12_either 29 = oAdd 30 := (congrFun teX12_either 29).trans rfl
theorem tX12_either_30 : tX12_either 30 = oPutI 12 19 33 := (congrFun teX12_either 30).trans rfl
theorem tX12_either_33 : tX12_either 33 = oAl 0 34 := (congrFun teX12_either 33).trans rfl
theorem tX12_either_34 : tX12_either 34 = oCallV 12 mX12_either 0 37 := (congrFun teX12_either 34).trans rfl
theorem tX12_either_37 : tX12_either 37 = oIs 2 38 := (congrFun teX12_either 37).trans rfl
theorem tX12_either_38 : tX12_either 38 = oAl 0 39 := (congrFun teX12_either 38).trans rfl
theorem tX12_either_39 : tX12_either 39 = oGet 12 20 42 := (congrFun teX12_either 39).trans rfl
theorem tX12_either_42 : tX12_either 42 = oIf1lt 49 45 := (congrFun teX12_either 42).trans rfl
theorem tX12_either_45 : tX12_either 45 = oK (.int (-1)) 46 := (congrFun teX12_either 45).trans rfl
theorem tX12_either_46 : tX12_either 46 = oGo 57 := (congrFun teX12_either 46).trans rfl
theorem tX12_either_49 : tX12_either 49 = oAl 0 50 := (congrFun teX12_either 49).trans rfl
theorem tX12_either_50 : tX12_either 50 = oK (.int (nI 3)) 51 := (congrFun teX12_either 50).trans rfl
theorem tX12_either_51 : tX12_either 51 = oK (.int (nI 0)) 52 := (congrFun teX12_either 51).trans rfl
theorem tX12_either_52 : tX12_either 52 = oIl 1 53 := (congrFun teX12_either 52).trans rfl
theorem tX12_either_53 : tX12_either 53 = oIl 2 54 := (congrFun teX12_either 53).trans rfl
theorem tX12_either_54 : tX12_either 54 = oCallV 12 mX12_make 4 57 := (congrFun teX12_either 54).trans rfl
theorem tX12_either_57 : tX12_either 57 = oIret := (congrFun teX12_either 57).trans rfl
def lX12_row0 : List (Nat × qP) := [(0, oAl 0 1), (1, oCallV 12 mX12_repeated 0 4), (4, oIs 1 5), (5, oAl 0 6), (6, oGet 12 20 9), (9, oIf1ge 19 12), (12, oAl 0 13), (13, oCallV 12 mX12_begins 0 16), (16, oIf1ne 21 19), (19, oIl 1 20), (20, oIret), (21, oAl 0 22), (22, oCallV 12 mX12_row0 0 25), (25, oIs 2 26), (26, oAl 0 27), (27, oGet 12 20 30), (30, oIf1lt 37 33), (33, oK (.int (-1)) 34), (34, oGo 43), (37, oAl 0 38), (38, oIl 1 39), (39, oIl 2 40), (40, oCallV 12 mX12_joined 2 43), (43, oIret)]
def uX12_row0 : Nat → qP := q_tb lX12_row0
set_option maxRecDepth 20000 in
theorem suX12_row0 : q_Snd mX12_row0 uX12_row0 := by
  refine q_tb_ok ?_
  unfold lX12_row0
  refine q_fa (ok_aload_n (by decide +kernel : decode cX12_row0 0 = .ok (.aload_n 0, 1)) rfl rfl) ?_
  refine q_fa (ok_callV (by decide +kernel : decode cX12_row0 1 = .ok (.invokevirtual 204, 3)) rfl kX12_repeated.1 kX12_repeated.2.1 kX12_repeated.2.2.1 kX12_repeated.2.2.2.1 kX12_repeated.2.2.2.2 (rfl : vwCl[12]? = some (RX12, TX12, 58)) g1204 gs49 g1202) ?_
  refine q_fa (ok_istore_n (by decide +kernel : decode cX12_row0 4 = .ok (.istore_n 1, 1)) rfl rfl (by decide)) ?_
  refine q_fa (ok_aload_n (by decide +kernel : decode cX12_row0 5 = .ok (.aload_n 0, 1)) rfl rfl) ?_
  refine q_fa (ok_get (by decide +kernel : decode cX12_row0 6 = .ok (.getfield 192, 3)) rfl (rfl : vwCl[12]? = some (RX12, TX12, 58)) inX12 (by decide) g1024) ?_
  refine q_fa (ok_if1ge (by decide +kernel : decode cX12_row0 9 = .ok (.ifCond .ge 10, 3)) (by decide) rfl) ?_
  refine q_fa (ok_aload_n (by decide +kernel : decode cX12_row0 12 = .ok (.aload_n 0, 1)) rfl rfl) ?_
  refine q_fa (ok_callV (by decide +kernel : decode cX12_row0 13 = .ok (.invokevirtual 207, 3)) rfl kX12_begins.1 kX12_begins.2.1 kX12_begins.2.2.1 kX12_begins.2.2.2.1 kX12_begins.2.2.2.2 (rfl : vwCl[12]? = some (RX12, TX12, 58)) g1235 gs56 g1233) ?_
  refine q_fa (ok_if1ne (by decide +kernel : decode cX12_row0 16 = .ok (.ifCond .ne 5, 3)) (by decide) rfl) ?_
  refine q_fa (ok_iload_n (by decide +kernel : decode cX12_row0 19 = .ok (.iload_n 1, 1)) rfl rfl) ?_
  refine q_fa (ok_iret (by decide +kernel : decode cX12_row0 20 = .ok (.ireturn, 1)) rfl) ?_
  refine q_fa (ok_aload_n (by decide +kernel : decode cX12_row0 21 = .ok (.aload_n 0, 1)) rfl rfl) ?_
  refine q_fa (ok_callV (by decide +kernel : decode cX12_row0 22 = .ok (.invokevirtual 198, 3)) rfl kX12_row0.1 kX12_row0.2.1 kX12_row0.2.2.1 kX12_row0.2.2.2.1 kX12_row0.2.2.2.2 (rfl : vwCl[12]? = some (RX12, TX12, 58)) g1200 gs48 g1198) ?_
  refine q_fa (ok_istore_n (by decide +kernel : decode cX12_row0 25 = .ok (.istore_n 2, 1)) rfl rfl (by decide)) ?_
  refine q_fa (ok_aload_n (by decide +kernel : decode cX12_row0 26 = .ok (.aload_n 0, 1)) rfl rfl) ?_
  refine q_fa (ok_get (by decide +kernel : decode cX12_row0 27 = .ok (.getfield 192, 3)) rfl (rfl : vwCl[12]? = some (RX12, TX12, 58)) inX12 (by decide) g1024) ?_
  refine q_fa (ok_if1lt (by decide +kernel : decode cX12_row0 30 = .ok (.ifCond .lt 7, 3)) (by decide) rfl) ?_
  refine q_fa (ok_iconst (by decide +kernel : decode cX12_row0 33 = .ok (.iconst (-1), 1)) rfl (by decide +kernel)) ?_
  refine q_fa (ok_goto (by decide +kernel : decode cX12_row0 34 = .ok (.goto 9, 3)) (by decide)) ?_
  refine q_fa (ok_aload_n (by decide +kernel : decode cX12_row0 37 = .ok (.aload_n 0, 1)) rfl rfl) ?_
  refine q_fa (ok_iload_n (by decide +kernel : decode cX12_row0 38 = .ok (.iload_n 1, 1)) rfl rfl) ?_
  refine q_fa (ok_iload_n (by decide +kernel : decode cX12_row0 39 = .ok (.iload_n 2, 1)) rfl rfl) ?_
  refine q_fa (ok_callV (by decide +kernel : decode cX12_row0 40 = .ok (.invokevirtual 211, 3)) rfl kX12_joined.1 kX12_joined.2.1 kX12_joined.2.2.1 kX12_joined.2.2.2.1 kX12_joined.2.2.2.2 (rfl : vwCl[12]? = some (RX12, TX12, 58)) g1239 gs57 g1237) ?_
  refine q_fa (ok_iret (by decide +kernel : decode cX12_row0 43 = .ok (.ireturn, 1)) rfl) ?_
  exact q_fa0
theorem exX12_row0 : ∃ t : Nat → qP, t = uX12_row0 := ⟨_, rfl⟩
noncomputable def tX12_row0 : Nat → qP := Classical.choose exX12_row0
theorem teX12_row0 : tX12_row0 = uX12_row0 := Classical.choose_spec exX12_row0
theorem sX12_row0 : q_Snd mX12_row0 tX12_row0 := by rw [teX12_row0]; exact suX12_row0
theorem tX12_row0_0 : tX12_row0 0 = oAl 0 1 := (congrFun teX12_row0 0).trans rfl
theorem tX12_row0_1 : tX12_row0 1 = oCallV 12 mX12_repeated 0 4 := (congrFun teX12_row0 1).trans rfl
theorem tX12_row0_4 : tX12_row0 4 = oIs 1 5 := (congrFun teX12_row0 4).trans rfl
theorem tX12_row0_5 : tX12_row0 5 = oAl 0 6 := (congrFun teX12_row0 5).trans rfl
theorem tX12_row0_6 : tX12_row0 6 = oGet 12 20 9 := (congrFun teX12_row0 6).trans rfl
theorem tX12_row0_9 : tX12_row0 9 = oIf1ge 19 12 := (congrFun teX12_row0 9).trans rfl
theorem tX12_row0_12 : tX12_row0 12 = oAl 0 13 := (congrFun teX12_row0 12).trans rfl
theorem tX12_row0_13 : tX12_row0 13 = oCallV 12 mX12_begins 0 16 := (congrFun teX12_row0 13).trans rfl
theorem tX12_row0_16 : tX12_row0 16 = oIf1ne 21 19 := (congrFun teX12_row0 16).trans rfl
theorem tX12_row0_19 : tX12_row0 19 = oIl 1 20 := (congrFun teX12_row0 19).trans rfl
theorem tX12_row0_20 : tX12_row0 20 = oIret := (congrFun teX12_row0 20).trans rfl
theorem tX12_row0_21 : tX12_row0 21 = oAl 0 22 := (congrFun teX12_row0 21).trans rfl
theorem tX12_row0_22 : tX12_row0 22 = oCallV 12 mX12_row0 0 25 := (congrFun teX12_row0 22).trans rfl
theorem tX12_row0_25 : tX12_row0 25 = oIs 2 26 := (congrFun teX12_row0 25).trans rfl
theorem tX12_row0_26 : tX12_row0 26 = oAl 0 27 := (congrFun teX12_row0 26).trans rfl
theorem tX12_row0_27 : tX12_row0 27 = oGet 12 20 30 := (congrFun teX12_row0 27).trans rfl
theorem tX12_row0_30 : tX12_row0 30 = oIf1lt 37 33 := (congrFun teX12_row0 30).trans rfl
theorem tX12_row0_33 : tX12_row0 33 = oK (.int (-1)) 34 := (congrFun teX12_row0 33).trans rfl
theorem tX12_row0_34 : tX12_row0 34 = oGo 43 := (congrFun teX12_row0 34).trans rfl
theorem tX12_row0_37 : tX12_row0 37 = oAl 0 38 := (congrFun teX12_row0 37).trans rfl
theorem tX12_row0_38 : tX12_row0 38 = oIl 1 39 := (congrFun teX12_row0 38).trans rfl
theorem tX12_row0_39 : tX12_row0 39 = oIl 2 40 := (congrFun teX12_row0 39).trans rfl
theorem tX12_row0_40 : tX12_row0 40 = oCallV 12 mX12_joined 2 43 := (congrFun teX12_row0 40).trans rfl
theorem tX12_row0_43 : tX12_row0 43 = oIret := (congrFun teX12_row0 43).trans rfl
def lX12_joined : List (Nat × qP) := [(0, oAl 0 1), (1, oGet 12 3 4), (4, oIl 1 5), (5, oIald 6), (6, oK (.int (nI 2)) 7), (7, oIf2ne 36 10), (10, oAl 0 11), (11, oK (.int (nI 2)) 12), (12, oK (.int (nI 0)) 13), (13, oAl 0 14), (14, oGet 12 5 17), (17, oIl 1 18), (18, oIald 19), (19, oAl 0 20), (20, oAl 0 21), (21, oGet 12 6 24), (24, oIl 1 25), (25, oIald 26), (26, oIl 2 27), (27, oCallV 12 mX12_joined 2 30), (30, oCallV 12 mX12_make 4 33), (33, oGo 44), (36, oAl 0 37), (37, oK (.int (nI 2)) 38), (38, oK (.int (nI 0)) 39), (39, oIl 1 40), (40, oIl 2 41), (41, oCallV 12 mX12_make 4 44), (44, oIret)]
def uX12_joined : Nat → qP := q_tb lX12_joined
set_option maxRecDepth 20000 in
theorem suX12_joined : q_Snd mX12_joined uX12_joined := by
  refine q_tb_ok ?_
  unfold lX12_joined
  refine q_fa (ok_aload_n (by decide +kernel : decode cX12_joined 0 = .ok (.aload_n 0, 1)) rfl rfl) ?_
  refine q_fa (ok_get (by decide +kernel : decode cX12_joined 1 = .ok (.getfield 13, 3)) rfl (rfl : vwCl[12]? = some (RX12, TX12, 58)) inX12 (by decide) g1007) ?_
  refine q_fa (ok_iload_n (by decide +kernel : decode cX12_joined 4 = .ok (.iload_n 1, 1)) rfl rfl) ?_
  refine q_fa (ok_iaload (by decide +kernel : decode cX12_joined 5 = .ok (.iaload, 1)) rfl) ?_
  refine q_fa (ok_iconst (by decide +kernel : decode cX12_joined 6 = .ok (.iconst 2, 1)) rfl (by decide +kernel)) ?_
  refine q_fa (ok_if2ne (by decide +kernel : decode cX12_joined 7 = .ok (.if_icmp .ne 29, 3)) (by decide) rfl) ?_
  refine q_fa (ok_aload_n (by decide +kernel : decode cX12_joined 10 = .ok (.aload_n 0, 1)) rfl rfl) ?_
  refine q_fa (ok_iconst (by decide +kernel : decode cX12_joined 11 = .ok (.iconst 2, 1)) rfl (by decide +kernel)) ?_
  refine q_fa (ok_iconst (by decide +kernel : decode cX12_joined 12 = .ok (.iconst 0, 1)) rfl (by decide +kernel)) ?_
  refine q_fa (ok_aload_n (by decide +kernel : decode cX12_joined 13 = .ok (.aload_n 0, 1)) rfl rfl) ?_
  refine q_fa (ok_get (by decide +kernel : decode cX12_joined 14 = .ok (.getfield 19, 3)) rfl (rfl : vwCl[12]? = some (RX12, TX12, 58)) inX12 (by decide) g1009) ?_
  refine q_fa (ok_iload_n (by decide +kernel : decode cX12_joined 17 = .ok (.iload_n 1, 1)) rfl rfl) ?_
  refine q_fa (ok_iaload (by decide +kernel : decode cX12_joined 18 = .ok (.iaload, 1)) rfl) ?_
  refine q_fa (ok_aload_n (by decide +kernel : decode cX12_joined 19 = .ok (.aload_n 0, 1)) rfl rfl) ?_
  refine q_fa (ok_aload_n (by decide +kernel : decode cX12_joined 20 = .ok (.aload_n 0, 1)) rfl rfl) ?_
  refine q_fa (ok_get (by decide +kernel : decode cX12_joined 21 = .ok (.getfield 22, 3)) rfl (rfl : vwCl[12]? = some (RX12, TX12, 58)) inX12 (by decide) g1010) ?_
  refine q_fa (ok_iload_n (by decide +kernel : decode cX12_joined 24 = .ok (.iload_n 1, 1)) rfl rfl) ?_
  refine q_fa (ok_iaload (by decide +kernel : decode cX12_joined 25 = .ok (.iaload, 1)) rfl) ?_
  refine q_fa (ok_iload_n (by decide +kernel : decode cX12_joined 26 = .ok (.iload_n 2, 1)) rfl rfl) ?_
  refine q_fa (ok_callV (by decide +kernel : decode cX12_joined 27 = .ok (.invokevirtual 211, 3)) rfl kX12_joined.1 kX12_joined.2.1 kX12_joined.2.2.1 kX12_joined.2.2.2.1 kX12_joined.2.2.2.2 (rfl : vwCl[12]? = some (RX12, TX12, 58)) g1239 gs57 g1237) ?_
  refine q_fa (ok_callV (by decide +kernel : decode cX12_joined 30 = .ok (.invokevirtual 178, 3)) rfl kX12_make.1 kX12_make.2.1 kX12_make.2.2.1 kX12_make.2.2.2.1 kX12_make.2.2.2.2 (rfl : vwCl[12]? = some (RX12, TX12, 58)) g1216 gs52 g1214) ?_
  refine q_fa (ok_goto (by decide +kernel : decode cX12_joined 33 = .ok (.goto 11, 3)) (by decide)) ?_
  refine q_fa (ok_aload_n (by decide +kernel : decode cX12_joined 36 = .ok (.aload_n 0, 1)) rfl rfl) ?_
  refine q_fa (ok_iconst (by decide +kernel : decode cX12_joined 37 = .ok (.iconst 2, 1)) rfl (by decide +kernel)) ?_
  refine q_fa (ok_iconst (by decide +kernel : decode cX12_joined 38 = .ok (.iconst 0, 1)) rfl (by decide +kernel)) ?_
  refine q_fa (ok_iload_n (by decide +kernel : decode cX12_joined 39 = .ok (.iload_n 1, 1)) rfl rfl) ?_
  refine q_fa (ok_iload_n (by decide +kernel : decode cX12_joined 40 = .ok (.iload_n 2, 1)) rfl rfl) ?_
  refine q_fa (ok_callV (by decide +kernel : decode cX12_joined 41 = .ok (.invokevirtual 178, 3)) rfl kX12_make.1 kX12_make.2.1 kX12_make.2.2.1 kX12_make.2.2.2.1 kX12_make.2.2.2.2 (rfl : vwCl[12]? = some (RX12, TX12, 58)) g1216 gs52 g1214) ?_
  refine q_fa (ok_iret (by decide +kernel : decode cX12_joined 44 = .ok (.ireturn, 1)) rfl) ?_
  exact q_fa0
theorem exX12_joined : ∃ t : Nat → qP, t = uX12_joined := ⟨_, rfl⟩
noncomputable def tX12_joined : Nat → qP := Classical.choose exX12_joined
theorem teX12_joined : tX12_joined = uX12_joined := Classical.choose_spec exX12_joined
theorem sX12_joined : q_Snd mX12_joined tX12_joined := by rw [teX12_joined]; exact suX12_joined
theorem tX12_joined_0 : tX12_joined 0 = oAl 0 1 := (congrFun teX12_joined 0).trans rfl
theorem tX12_joined_1 : tX12_joined 1 = oGet 12 3 4 := (congrFun teX12_joined 1).trans rfl
theorem tX12_joined_4 : tX12_joined 4 = oIl 1 5 := (congrFun teX12_joined 4).trans rfl
theorem tX12_joined_5 : tX12_joined 5 = oIald 6 := (congrFun teX12_joined 5).trans rfl
theorem tX12_joined_6 : tX12_joined 6 = oK (.int (nI 2)) 7 := (congrFun teX12_joined 6).trans rfl
theorem tX12_joined_7 : tX12_joined 7 = oIf2ne 36 10 := (congrFun teX12_joined 7).trans rfl
theorem tX12_joined_10 : tX12_joined 10 = oAl 0 11 := (congrFun teX12_joined 10).trans rfl
theorem tX12_joined_11 : tX12_joined 11 = oK (.int (nI 2)) 12 := (congrFun teX12_joined 11).trans rfl
theorem tX12_joined_12 : tX12_joined 12 = oK (.int (nI 0)) 13 := (congrFun teX12_joined 12).trans rfl
theorem tX12_joined_13 : tX12_joined 13 = oAl 0 14 := (congrFun teX12_joined 13).trans rfl
theorem tX12_joined_14 : tX12_joined 14 = oGet 12 5 17 := (congrFun teX12_joined 14).trans rfl
theorem tX12_joined_17 : tX12_joined 17 = oIl 1 18 := (congrFun teX12_joined 17).trans rfl
theorem tX12_joined_18 : tX12_joined 18 = oIald 19 := (congrFun teX12_joined 18).trans rfl
theorem tX12_joined_19 : tX12_joined 19 = oAl 0 20 := (congrFun teX12_joined 19).trans rfl
theorem tX12_joined_20 : tX12_joined 20 = oAl 0 21 := (congrFun teX12_joined 20).trans rfl
theorem tX12_joined_21 : tX12_joined 21 = oGet 12 6 24 := (congrFun teX12_joined 21).trans rfl
theorem tX12_joined_24 : tX12_joined 24 = oIl 1 25 := (congrFun teX12_joined 24).trans rfl
theorem tX12_joined_25 : tX12_joined 25 = oIald 26 := (congrFun teX12_joined 25).trans rfl
theorem tX12_joined_26 : tX12_joined 26 = oIl 2 27 := (congrFun teX12_joined 26).trans rfl
theorem tX12_joined_27 : tX12_joined 27 = oCallV 12 mX12_joined 2 30 := (congrFun teX12_joined 27).trans rfl
theorem tX12_joined_30 : tX12_joined 30 = oCallV 12 mX12_make 4 33 := (congrFun teX12_joined 30).trans rfl
theorem tX12_joined_33 : tX12_joined 33 = oGo 44 := (congrFun teX12_joined 33).trans rfl
theorem tX12_joined_36 : tX12_joined 36 = oAl 0 37 := (congrFun teX12_joined 36).trans rfl
theorem tX12_joined_37 : tX12_joined 37 = oK (.int (nI 2)) 38 := (congrFun teX12_joined 37).trans rfl
theorem tX12_joined_38 : tX12_joined 38 = oK (.int (nI 0)) 39 := (congrFun teX12_joined 38).trans rfl
theorem tX12_joined_39 : tX12_joined 39 = oIl 1 40 := (congrFun teX12_joined 39).trans rfl
theorem tX12_joined_40 : tX12_joined 40 = oIl 2 41 := (congrFun teX12_joined 40).trans rfl
theorem tX12_joined_41 : tX12_joined 41 = oCallV 12 mX12_make 4 44 := (congrFun teX12_joined 41).trans rfl
theorem tX12_joined_44 : tX12_joined 44 = oIret := (congrFun teX12_joined 44).trans rfl
def lX12_repeated : List (Nat × qP) := [(0, oAl 0 1), (1, oCallV 12 mX12_base 0 4), (4, oIs 1 5), (5, oAl 0 6), (6, oGet 12 20 9), (9, oIf1ge 65 12), (12, oAl 0 13), (13, oCallV 12 mX12_look 0 16), (16, oK (.int (nI 43)) 18), (18, oIf2eq 30 21), (21, oAl 0 22), (22, oCallV 12 mX12_look 0 25), (25, oK (.int (nI 63)) 27), (27, oIf2ne 65 30), (30, oAl 0 31), (31, oAl 0 32), (32, oCallV 12 mX12_look 0 35), (35, oK (.int (nI 43)) 37), (37, oIf2ne 44 40), (40, oK (.int (nI 4)) 41), (41, oGo 45), (44, oK (.int (nI 5)) 45), (45, oK (.int (nI 0)) 46), (46, oIl 1 47), (47, oK (.int (-1)) 48), (48, oCallV 12 mX12_make 4 51), (51, oIs 1 52), (52, oAl 0 53), (53, oDup 54), (54, oGet 12 19 57), (57, oK (.int (nI 1)) 58), (58, oAdd 59), (59, oPutI 12 19 62), (62, oGo 5), (65, oIl 1 66), (66, oIret)]
def uX12_repeated : Nat → qP := q_tb lX12_repeated
set_option maxRecDepth 20000 in
theorem suX12_repeated : q_Snd mX12_repeated uX12_repeated := by
  refine q_tb_ok ?_
  unfold lX12_repeated
  refine q_fa (ok_aload_n (by decide +kernel : decode cX12_repeated 0 = .ok (.aload_n 0, 1)) rfl rfl) ?_
  refine q_fa (ok_callV (by decide +kernel : decode cX12_repeated 1 = .ok (.invokevirtual 214, 3)) rfl kX12_base.1 kX12_base.2.1 kX12_base.2.2.1 kX12_base.2.2.2.1 kX12_base.2.2.2.2 (rfl : vwCl[12]? = some (RX12, TX12, 58)) g1208 gs50 g1206) ?_
  refine q_fa (ok_istore_n (by decide +kernel : decode cX12_repeated 4 = .ok (.istore_n 1, 1)) rfl rfl (by decide)) ?_
  refine q_fa (ok_aload_n (by decide +kernel : decode cX12_repeated 5 = .ok (.aload_n 0, 1)) rfl rfl) ?_
  refine q_fa (ok_get (by decide +kernel : decode cX12_repeated 6 = .ok (.getfield 192, 3)) rfl (rfl : vwCl[12]? = some (RX12, TX12, 58)) inX12 (by decide) g1024) ?_
  refine q_fa (ok_if1ge (by decide +kernel : decode cX12_repeated 9 = .ok (.ifCond .ge 56, 3)) (by decide) rfl) ?_
  refine q_fa (ok_aload_n (by decide +kernel : decode cX12_repeated 12 = .ok (.aload_n 0, 1)) rfl rfl) ?_
  refine q_fa (ok_callV (by decide +kernel : decode cX12_repeated 13 = .ok (.invokevirtual 195, 3)) rfl kX12_look.1 kX12_look.2.1 kX12_look.2.2.1 kX12_look.2.2.2.1 kX12_look.2.2.2.2 (rfl : vwCl[12]? = some (RX12, TX12, 58)) g1212 gs51 g1210) ?_
  refine q_fa (ok_bipush (by decide +kernel : decode cX12_repeated 16 = .ok (.bipush 43, 2)) rfl (by decide +kernel)) ?_
  refine q_fa (ok_if2eq (by decide +kernel : decode cX12_repeated 18 = .ok (.if_icmp .eq 12, 3)) (by decide) rfl) ?_
  refine q_fa (ok_aload_n (by decide +kernel : decode cX12_repeated 21 = .ok (.aload_n 0, 1)) rfl rfl) ?_
  refine q_fa (ok_callV (by decide +kernel : decode cX12_repeated 22 = .ok (.invokevirtual 195, 3)) rfl kX12_look.1 kX12_look.2.1 kX12_look.2.2.1 kX12_look.2.2.2.1 kX12_look.2.2.2.2 (rfl : vwCl[12]? = some (RX12, TX12, 58)) g1212 gs51 g1210) ?_
  refine q_fa (ok_bipush (by decide +kernel : decode cX12_repeated 25 = .ok (.bipush 63, 2)) rfl (by decide +kernel)) ?_
  refine q_fa (ok_if2ne (by decide +kernel : decode cX12_repeated 27 = .ok (.if_icmp .ne 38, 3)) (by decide) rfl) ?_
  refine q_fa (ok_aload_n (by decide +kernel : decode cX12_repeated 30 = .ok (.aload_n 0, 1)) rfl rfl) ?_
  refine q_fa (ok_aload_n (by decide +kernel : decode cX12_repeated 31 = .ok (.aload_n 0, 1)) rfl rfl) ?_
  refine q_fa (ok_callV (by decide +kernel : decode cX12_repeated 32 = .ok (.invokevirtual 195, 3)) rfl kX12_look.1 kX12_look.2.1 kX12_look.2.2.1 kX12_look.2.2.2.1 kX12_look.2.2.2.2 (rfl : vwCl[12]? = some (RX12, TX12, 58)) g1212 gs51 g1210) ?_
  refine q_fa (ok_bipush (by decide +kernel : decode cX12_repeated 35 = .ok (.bipush 43, 2)) rfl (by decide +kernel)) ?_
  refine q_fa (ok_if2ne (by decide +kernel : decode cX12_repeated 37 = .ok (.if_icmp .ne 7, 3)) (by decide) rfl) ?_
  refine q_fa (ok_iconst (by decide +kernel : decode cX12_repeated 40 = .ok (.iconst 4, 1)) rfl (by decide +kernel)) ?_
  refine q_fa (ok_goto (by decide +kernel : decode cX12_repeated 41 = .ok (.goto 4, 3)) (by decide)) ?_
  refine q_fa (ok_iconst (by decide +kernel : decode cX12_repeated 44 = .ok (.iconst 5, 1)) rfl (by decide +kernel)) ?_
  refine q_fa (ok_iconst (by decide +kernel : decode cX12_repeated 45 = .ok (.iconst 0, 1)) rfl (by decide +kernel)) ?_
  refine q_fa (ok_iload_n (by decide +kernel : decode cX12_repeated 46 = .ok (.iload_n 1, 1)) rfl rfl) ?_
  refine q_fa (ok_iconst (by decide +kernel : decode cX12_repeated 47 = .ok (.iconst (-1), 1)) rfl (by decide +kernel)) ?_
  refine q_fa (ok_callV (by decide +kernel : decode cX12_repeated 48 = .ok (.invokevirtual 178, 3)) rfl kX12_make.1 kX12_make.2.1 kX12_make.2.2.1 kX12_make.2.2.2.1 kX12_make.2.2.2.2 (rfl : vwCl[12]? = some (RX12, TX12, 58)) g1216 gs52 g1214) ?_
  refine q_fa (ok_istore_n (by decide +kernel : decode cX12_repeated 51 = .ok (.istore_n 1, 1)) rfl rfl (by decide)) ?_
  refine q_fa (ok_aload_n (by decide +kernel : decode cX12_repeated 52 = .ok (.aload_n 0, 1)) rfl rfl) ?_
  refine q_fa (ok_dup (by decide +kernel : decode cX12_repeated 53 = .ok (.dup, 1)) rfl) ?_
  refine q_fa (ok_get (by decide +kernel : decode cX12_repeated 54 = .ok (.getfield 189, 3)) rfl (rfl : vwCl[12]? = some (RX12, TX12, 58)) inX12 (by decide) g1023) ?_
  refine q_fa (ok_iconst (by decide +kernel : decode cX12_repeated 57 = .ok (.iconst 1, 1)) rfl (by decide +kernel)) ?_
  refine q_fa (ok_iadd (by decide +kernel : decode cX12_repeated 58 = .ok (.iadd, 1)) rfl) ?_
  refine q_fa (ok_putI tyX12 (by decide +kernel : decode cX12_repeated 59 = .ok (.putfield 189, 3)) rfl (rfl : vwCl[12]? = some (RX12, TX12, 58)) inX12 tyX12_ok nmX12 (by decide) g1023 (Or.inl rfl) (by decide +kernel)) ?_
  refine q_fa (ok_goto (by decide +kernel : decode cX12_repeated 62 = .ok (.goto (-57), 3)) (by decide)) ?_
  refine q_fa (ok_iload_n (by decide +kernel : decode cX12_repeated 65 = .ok (.iload_n 1, 1)) rfl rfl) ?_
  refine q_fa (ok_iret (by decide +kernel : decode cX12_repeated 66 = .ok (.ireturn, 1)) rfl) ?_
  exact q_fa0
theorem exX12_repeated : ∃ t : Nat → qP, t = uX12_repeated := ⟨_, rfl⟩
noncomputable def tX12_repeated : Nat → qP := Classical.choose exX12_repeated
theorem teX12_repeated : tX12_repeated = uX12_repeated := Classical.choose_spec exX12_repeated
theorem sX12_repeated : q_Snd mX12_repeated tX12_repeated := by rw [teX12_repeated]; exact suX12_repeated
theorem tX12_repeated_0 : tX12_repeated 0 = oAl 0 1 := (congrFun teX12_repeated 0).trans rfl
theorem tX12_repeated_1 : tX12_repeated 1 = oCallV 12 mX12_base 0 4 := (congrFun teX12_repeated 1).trans rfl
theorem tX12_repeated_4 : tX12_repeated 4 = oIs 1 5 := (congrFun teX12_repeated 4).trans rfl
theorem tX12_repeated_5 : tX12_repeated 5 = oAl 0 6 := (congrFun teX12_repeated 5).trans rfl
theorem tX12_repeated_6 : tX12_repeated 6 = oGet 12 20 9 := (congrFun teX12_repeated 6).trans rfl
theorem tX12_repeated_9 : tX12_repeated 9 = oIf1ge 65 12 := (congrFun teX12_repeated 9).trans rfl
theorem tX12_repeated_12 : tX12_repeated 12 = oAl 0 13 := (congrFun teX12_repeated 12).trans rfl
theorem tX12_repeated_13 : tX12_repeated 13 = oCallV 12 mX12_look 0 16 := (congrFun teX12_repeated 13).trans rfl
theorem tX12_repeated_16 : tX12_repeated 16 = oK (.int (nI 43)) 18 := (congrFun teX12_repeated 16).trans rfl
theorem tX12_repeated_18 : tX12_repeated 18 = oIf2eq 30 21 := (congrFun teX12_repeated 18).trans rfl
theorem tX12_repeated_21 : tX12_repeated 21 = oAl 0 22 := (congrFun teX12_repeated 21).trans rfl
theorem tX12_repeated_22 : tX12_repeated 22 = oCallV 12 mX12_look 0 25 := (congrFun teX12_repeated 22).trans rfl
theorem tX12_repeated_25 : tX12_repeated 25 = oK (.int (nI 63)) 27 := (congrFun teX12_repeated 25).trans rfl
theorem tX12_repeated_27 : tX12_repeated 27 = oIf2ne 65 30 := (congrFun teX12_repeated 27).trans rfl
theorem tX12_repeated_30 : tX12_repeated 30 = oAl 0 31 := (congrFun teX12_repeated 30).trans rfl
theorem tX12_repeated_31 : tX12_repeated 31 = oAl 0 32 := (congrFun teX12_repeated 31).trans rfl
theorem tX12_repeated_32 : tX12_repeated 32 = oCallV 12 mX12_look 0 35 := (congrFun teX12_repeated 32).trans rfl
theorem tX12_repeated_35 : tX12_repeated 35 = oK (.int (nI 43)) 37 := (congrFun teX12_repeated 35).trans rfl
theorem tX12_repeated_37 : tX12_repeated 37 = oIf2ne 44 40 := (congrFun teX12_repeated 37).trans rfl
theorem tX12_repeated_40 : tX12_repeated 40 = oK (.int (nI 4)) 41 := (congrFun teX12_repeated 40).trans rfl
theorem tX12_repeated_41 : tX12_repeated 41 = oGo 45 := (congrFun teX12_repeated 41).trans rfl
theorem tX12_repeated_44 : tX12_repeated 44 = oK (.int (nI 5)) 45 := (congrFun teX12_repeated 44).trans rfl
theorem tX12_repeated_45 : tX12_repeated 45 = oK (.int (nI 0)) 46 := (congrFun teX12_repeated 45).trans rfl
theorem tX12_repeated_46 : tX12_repeated 46 = oIl 1 47 := (congrFun teX12_repeated 46).trans rfl
theorem tX12_repeated_47 : tX12_repeated 47 = oK (.int (-1)) 48 := (congrFun teX12_repeated 47).trans rfl
theorem tX12_repeated_48 : tX12_repeated 48 = oCallV 12 mX12_make 4 51 := (congrFun teX12_repeated 48).trans rfl
theorem tX12_repeated_51 : tX12_repeated 51 = oIs 1 52 := (congrFun teX12_repeated 51).trans rfl
theorem tX12_repeated_52 : tX12_repeated 52 = oAl 0 53 := (congrFun teX12_repeated 52).trans rfl
theorem tX12_repeated_53 : tX12_repeated 53 = oDup 54 := (congrFun teX12_repeated 53).trans rfl
theorem tX12_repeated_54 : tX12_repeated 54 = oGet 12 19 57 := (congrFun teX12_repeated 54).trans rfl
theorem tX12_repeated_57 : tX12_repeated 57 = oK (.int (nI 1)) 58 := (congrFun teX12_repeated 57).trans rfl
theorem tX12_repeated_58 : tX12_repeated 58 = oAdd 59 := (congrFun teX12_repeated 58).trans rfl
theorem tX12_repeated_59 : tX12_repeated 59 = oPutI 12 19 62 := (congrFun teX12_repeated 59).trans rfl
theorem tX12_repeated_62 : tX12_repeated 62 = oGo 5 := (congrFun teX12_repeated 62).trans rfl
theorem tX12_repeated_65 : tX12_repeated 65 = oIl 1 66 := (congrFun teX12_repeated 65).trans rfl
theorem tX12_repeated_66 : tX12_repeated 66 = oIret := (congrFun teX12_repeated 66).trans rfl
def lX12_base : List (Nat × qP) := [(0, oAl 0 1), (1, oCallV 12 mX12_look 0 4), (4, oIs 1 5), (5, oIl 1 6), (6, oK (.int (nI 97)) 8), (8, oK (.int (nI 99)) 10), (10, oCallS mX12_in 3 13), (13, oIf1eq 38 16), (16, oAl 0 17), (17, oDup 18), (18, oGet 12 19 21), (21, oK (.int (nI 1)) 22), (22, oAdd 23), (23, oPutI 12 19 26), (26, oAl 0 27), (27, oK (.int (nI 0)) 28), (28, oIl 1 29), (29, oK (.int (nI 97)) 31), (31, oSub 32), (32, oK (.int (-1)) 33), (33, oK (.int (-1)) 34), (34, oCallV 12 mX12_make 4 37), (37, oIret), (38, oIl 1 39), (39, oK (.int (nI 91)) 41), (41, oIf2ne 59 44), (44, oAl 0 45), (45, oDup 46), (46, oGet 12 19 49), (49, oK (.int (nI 1)) 50), (50, oAdd 51), (51, oPutI 12 19 54), (54, oAl 0 55), (55, oCallV 12 mX12_set 0 58), (58, oIret), (59, oIl 1 60), (60, oK (.int (nI 40)) 62), (62, oIf2ne 74 65), (65, oAl 0 66), (66, oGet 12 21 69), (69, oK (.int (nI 6)) 71), (71, oIf2ne 79 74), (74, oAl 0 75), (75, oCallV 12 mX12_wrong 0 78), (78, oIret), (79, oAl 0 80), (80, oDup 81), (81, oGet 12 19 84), (84, oK (.int (nI 1)) 85), (85, oAdd 86), (86, oPutI 12 19 89), (89, oAl 0 90), (90, oDup 91), (91, oGet 12 21 94), (94, oK (.int (nI 1)) 95), (95, oAdd 96), (96, oPutI 12 21 99), (99, oAl 0 100), (100, oCallV 12 mX12_either 0 103), (103, oIs 2 104), (104, oAl 0 105), (105, oGet 12 20 108), (108, oIf1lt 113 111), (111, oK (.int (-1)) 112), (112, oIret), (113, oAl 0 114), (114, oCallV 12 mX12_look 0 117), (117, oK (.int (nI 41)) 119), (119, oIf2eq 127 122), (122, oAl 0 123), (123, oCallV 12 mX12_wrong 0 126), (126, oIret), (127, oAl 0 128), (128, oDup 129), (129, oGet 12 19 132), (132, oK (.int (nI 1)) 133), (133, oAdd 134), (134, oPutI 12 19 137), (137, oAl 0 138), (138, oDup 139), (139, oGet 12 21 142), (142, oK (.int (nI 1)) 143), (143, oSub 144), (144, oPutI 12 21 147), (147, oIl 2 148), (148, oIret)]
def uX12_base : Nat → qP := q_tb lX12_base
set_option maxRecDepth 20000 in
theorem suX12_base : q_Snd mX12_base uX12_base := by
  refine q_tb_ok ?_
  unfold lX12_base
  refine q_fa (ok_aload_n (by decide +kernel : decode cX12_base 0 = .ok (.aload_n 0, 1)) rfl rfl) ?_
  refine q_fa (ok_callV (by decide +kernel : decode cX12_base 1 = .ok (.invokevirtual 195, 3)) rfl kX12_look.1 kX12_look.2.1 kX12_look.2.2.1 kX12_look.2.2.2.1 kX12_look.2.2.2.2 (rfl : vwCl[12]? = some (RX12, TX12, 58)) g1212 gs51 g1210) ?_
  refine q_fa (ok_istore_n (by decide +kernel : decode cX12_base 4 = .ok (.istore_n 1, 1)) rfl rfl (by decide)) ?_
  refine q_fa (ok_iload_n (by decide +kernel : decode cX12_base 5 = .ok (.iload_n 1, 1)) rfl rfl) ?_
  refine q_fa (ok_bipush (by decide +kernel : decode cX12_base 6 = .ok (.bipush 97, 2)) rfl (by decide +kernel)) ?_
  refine q_fa (ok_bipush (by decide +kernel : decode cX12_base 8 = .ok (.bipush 99, 2)) rfl (by decide +kernel)) ?_
  refine q_fa (ok_callS (by decide +kernel : decode cX12_base 10 = .ok (.invokestatic 163, 3)) rfl kX12_in.1 kX12_in.2.1 kX12_in.2.2.1 kX12_in.2.2.2.1 kX12_in.2.2.2.2 g1185 g1184) ?_
  refine q_fa (ok_if1eq (by decide +kernel : decode cX12_base 13 = .ok (.ifCond .eq 25, 3)) (by decide) rfl) ?_
  refine q_fa (ok_aload_n (by decide +kernel : decode cX12_base 16 = .ok (.aload_n 0, 1)) rfl rfl) ?_
  refine q_fa (ok_dup (by decide +kernel : decode cX12_base 17 = .ok (.dup, 1)) rfl) ?_
  refine q_fa (ok_get (by decide +kernel : decode cX12_base 18 = .ok (.getfield 189, 3)) rfl (rfl : vwCl[12]? = some (RX12, TX12, 58)) inX12 (by decide) g1023) ?_
  refine q_fa (ok_iconst (by decide +kernel : decode cX12_base 21 = .ok (.iconst 1, 1)) rfl (by decide +kernel)) ?_
  refine q_fa (ok_iadd (by decide +kernel : decode cX12_base 22 = .ok (.iadd, 1)) rfl) ?_
  refine q_fa (ok_putI tyX12 (by decide +kernel : decode cX12_base 23 = .ok (.putfield 189, 3)) rfl (rfl : vwCl[12]? = some (RX12, TX12, 58)) inX12 tyX12_ok nmX12 (by decide) g1023 (Or.inl rfl) (by decide +kernel)) ?_
  refine q_fa (ok_aload_n (by decide +kernel : decode cX12_base 26 = .ok (.aload_n 0, 1)) rfl rfl) ?_
  refine q_fa (ok_iconst (by decide +kernel : decode cX12_base 27 = .ok (.iconst 0, 1)) rfl (by decide +kernel)) ?_
  refine q_fa (ok_iload_n (by decide +kernel : decode cX12_base 28 = .ok (.iload_n 1, 1)) rfl rfl) ?_
  refine q_fa (ok_bipush (by decide +kernel : decode cX12_base 29 = .ok (.bipush 97, 2)) rfl (by decide +kernel)) ?_
  refine q_fa (ok_isub (by decide +kernel : decode cX12_base 31 = .ok (.isub, 1)) rfl) ?_
  refine q_fa (ok_iconst (by decide +kernel : decode cX12_base 32 = .ok (.iconst (-1), 1)) rfl (by decide +kernel)) ?_
  refine q_fa (ok_iconst (by decide +kernel : decode cX12_base 33 = .ok (.iconst (-1), 1)) rfl (by decide +kernel)) ?_
  refine q_fa (ok_callV (by decide +kernel : decode cX12_base 34 = .ok (.invokevirtual 178, 3)) rfl kX12_make.1 kX12_make.2.1 kX12_make.2.2.1 kX12_make.2.2.2.1 kX12_make.2.2.2.2 (rfl : vwCl[12]? = some (RX12, TX12, 58)) g1216 gs52 g1214) ?_
  refine q_fa (ok_iret (by decide +kernel : decode cX12_base 37 = .ok (.ireturn, 1)) rfl) ?_
  refine q_fa (ok_iload_n (by decide +kernel : decode cX12_base 38 = .ok (.iload_n 1, 1)) rfl rfl) ?_
  refine q_fa (ok_bipush (by decide +kernel : decode cX12_base 39 = .ok (.bipush 91, 2)) rfl (by decide +kernel)) ?_
  refine q_fa (ok_if2ne (by decide +kernel : decode cX12_base 41 = .ok (.if_icmp .ne 18, 3)) (by decide) rfl) ?_
  refine q_fa (ok_aload_n (by decide +kernel : decode cX12_base 44 = .ok (.aload_n 0, 1)) rfl rfl) ?_
  refine q_fa (ok_dup (by decide +kernel : decode cX12_base 45 = .ok (.dup, 1)) rfl) ?_
  refine q_fa (ok_get (by decide +kernel : decode cX12_base 46 = .ok (.getfield 189, 3)) rfl (rfl : vwCl[12]? = some (RX12, TX12, 58)) inX12 (by decide) g1023) ?_
  refine q_fa (ok_iconst (by decide +kernel : decode cX12_base 49 = .ok (.iconst 1, 1)) rfl (by decide +kernel)) ?_
  refine q_fa (ok_iadd (by decide +kernel : decode cX12_base 50 = .ok (.iadd, 1)) rfl) ?_
  refine q_fa (ok_putI tyX12 (by decide +kernel : decode cX12_base 51 = .ok (.putfield 189, 3)) rfl (rfl : vwCl[12]? = some (RX12, TX12, 58)) inX12 tyX12_ok nmX12 (by decide) g1023 (Or.inl rfl) (by decide +kernel)) ?_
  refine q_fa (ok_aload_n (by decide +kernel : decode cX12_base 54 = .ok (.aload_n 0, 1)) rfl rfl) ?_
  refine q_fa (ok_callV (by decide +kernel : decode cX12_base 55 = .ok (.invokevirtual 217, 3)) rfl kX12_set.1 kX12_set.2.1 kX12_set.2.2.1 kX12_set.2.2.2.1 kX12_set.2.2.2.2 (rfl : vwCl[12]? = some (RX12, TX12, 58)) g1227 gs54 g1225) ?_
  refine q_fa (ok_iret (by decide +kernel : decode cX12_base 58 = .ok (.ireturn, 1)) rfl) ?_
  refine q_fa (ok_iload_n (by decide +kernel : decode cX12_base 59 = .ok (.iload_n 1, 1)) rfl rfl) ?_
  refine q_fa (ok_bipush (by decide +kernel : decode cX12_base 60 = .ok (.bipush 40, 2)) rfl (by decide +kernel)) ?_
  refine q_fa (ok_if2ne (by decide +kernel : decode cX12_base 62 = .ok (.if_icmp .ne 12, 3)) (by decide) rfl) ?_
  refine q_fa (ok_aload_n (by decide +kernel : decode cX12_base 65 = .ok (.aload_n 0, 1)) rfl rfl) ?_
  refine q_fa (ok_get (by decide +kernel : decode cX12_base 66 = .ok (.getfield 220, 3)) rfl (rfl : vwCl[12]? = some (RX12, TX12, 58)) inX12 (by decide) g1025) ?_
  refine q_fa (ok_bipush (by decide +kernel : decode cX12_base 69 = .ok (.bipush 6, 2)) rfl (by decide +kernel)) ?_
  refine q_fa (ok_if2ne (by decide +kernel : decode cX12_base 71 = .ok (.if_icmp .ne 8, 3)) (by decide) rfl) ?_
  refine q_fa (ok_aload_n (by decide +kernel : decode cX12_base 74 = .ok (.aload_n 0, 1)) rfl rfl) ?_
  refine q_fa (ok_callV (by decide +kernel : decode cX12_base 75 = .ok (.invokevirtual 223, 3)) rfl kX12_wrong.1 kX12_wrong.2.1 kX12_wrong.2.2.1 kX12_wrong.2.2.2.1 kX12_wrong.2.2.2.2 (rfl : vwCl[12]? = some (RX12, TX12, 58)) g1231 gs55 g1229) ?_
  refine q_fa (ok_iret (by decide +kernel : decode cX12_base 78 = .ok (.ireturn, 1)) rfl) ?_
  refine q_fa (ok_aload_n (by decide +kernel : decode cX12_base 79 = .ok (.aload_n 0, 1)) rfl rfl) ?_
  refine q_fa (ok_dup (by decide +kernel : decode cX12_base 80 = .ok (.dup, 1)) rfl) ?_
  refine q_fa (ok_get (by decide +kernel : decode cX12_base 81 = .ok (.getfield 189, 3)) rfl (rfl : vwCl[12]? = some (RX12, TX12, 58)) inX12 (by decide) g1023) ?_
  refine q_fa (ok_iconst (by decide +kernel : decode cX12_base 84 = .ok (.iconst 1, 1)) rfl (by decide +kernel)) ?_
  refine q_fa (ok_iadd (by decide +kernel : decode cX12_base 85 = .ok (.iadd, 1)) rfl) ?_
  refine q_fa (ok_putI tyX12 (by decide +kernel : decode cX12_base 86 = .ok (.putfield 189, 3)) rfl (rfl : vwCl[12]? = some (RX12, TX12, 58)) inX12 tyX12_ok nmX12 (by decide) g1023 (Or.inl rfl) (by decide +kernel)) ?_
  refine q_fa (ok_aload_n (by decide +kernel : decode cX12_base 89 = .ok (.aload_n 0, 1)) rfl rfl) ?_
  refine q_fa (ok_dup (by decide +kernel : decode cX12_base 90 = .ok (.dup, 1)) rfl) ?_
  refine q_fa (ok_get (by decide +kernel : decode cX12_base 91 = .ok (.getfield 220, 3)) rfl (rfl : vwCl[12]? = some (RX12, TX12, 58)) inX12 (by decide) g1025) ?_
  refine q_fa (ok_iconst (by decide +kernel : decode cX12_base 94 = .ok (.iconst 1, 1)) rfl (by decide +kernel)) ?_
  refine q_fa (ok_iadd (by decide +kernel : decode cX12_base 95 = .ok (.iadd, 1)) rfl) ?_
  refine q_fa (ok_putI tyX12 (by decide +kernel : decode cX12_base 96 = .ok (.putfield 220, 3)) rfl (rfl : vwCl[12]? = some (RX12, TX12, 58)) inX12 tyX12_ok nmX12 (by decide) g1025 (Or.inl rfl) (by decide +kernel)) ?_
  refine q_fa (ok_aload_n (by decide +kernel : decode cX12_base 99 = .ok (.aload_n 0, 1)) rfl rfl) ?_
  refine q_fa (ok_callV (by decide +kernel : decode cX12_base 100 = .ok (.invokevirtual 201, 3)) rfl kX12_either.1 kX12_either.2.1 kX12_either.2.2.1 kX12_either.2.2.2.1 kX12_either.2.2.2.2 (rfl : vwCl[12]? = some (RX12, TX12, 58)) g1196 gs47 g1194) ?_
  refine q_fa (ok_istore_n (by decide +kernel : decode cX12_base 103 = .ok (.istore_n 2, 1)) rfl rfl (by decide)) ?_
  refine q_fa (ok_aload_n (by decide +kernel : decode cX12_base 104 = .ok (.aload_n 0, 1)) rfl rfl) ?_
  refine q_fa (ok_get (by decide +kernel : decode cX12_base 105 = .ok (.getfield 192, 3)) rfl (rfl : vwCl[12]? = some (RX12, TX12, 58)) inX12 (by decide) g1024) ?_
  refine q_fa (ok_if1lt (by decide +kernel : decode cX12_base 108 = .ok (.ifCond .lt 5, 3)) (by decide) rfl) ?_
  refine q_fa (ok_iconst (by decide +kernel : decode cX12_base 111 = .ok (.iconst (-1), 1)) rfl (by decide +kernel)) ?_
  refine q_fa (ok_iret (by decide +kernel : decode cX12_base 112 = .ok (.ireturn, 1)) rfl) ?_
  refine q_fa (ok_aload_n (by decide +kernel : decode cX12_base 113 = .ok (.aload_n 0, 1)) rfl rfl) ?_
  refine q_fa (ok_callV (by decide +kernel : decode cX12_base 114 = .ok (.invokevirtual 195, 3)) rfl kX12_look.1 kX12_look.2.1 kX12_look.2.2.1 kX12_look.2.2.2.1 kX12_look.2.2.2.2 (rfl : vwCl[12]? = some (RX12, TX12, 58)) g1212 gs51 g1210) ?_
  refine q_fa (ok_bipush (by decide +kernel : decode cX12_base 117 = .ok (.bipush 41, 2)) rfl (by decide +kernel)) ?_
  refine q_fa (ok_if2eq (by decide +kernel : decode cX12_base 119 = .ok (.if_icmp .eq 8, 3)) (by decide) rfl) ?_
  refine q_fa (ok_aload_n (by decide +kernel : decode cX12_base 122 = .ok (.aload_n 0, 1)) rfl rfl) ?_
  refine q_fa (ok_callV (by decide +kernel : decode cX12_base 123 = .ok (.invokevirtual 223, 3)) rfl kX12_wrong.1 kX12_wrong.2.1 kX12_wrong.2.2.1 kX12_wrong.2.2.2.1 kX12_wrong.2.2.2.2 (rfl : vwCl[12]? = some (RX12, TX12, 58)) g1231 gs55 g1229) ?_
  refine q_fa (ok_iret (by decide +kernel : decode cX12_base 126 = .ok (.ireturn, 1)) rfl) ?_
  refine q_fa (ok_aload_n (by decide +kernel : decode cX12_base 127 = .ok (.aload_n 0, 1)) rfl rfl) ?_
  refine q_fa (ok_dup (by decide +kernel : decode cX12_base 128 = .ok (.dup, 1)) rfl) ?_
  refine q_fa (ok_get (by decide +kernel : decode cX12_base 129 = .ok (.getfield 189, 3)) rfl (rfl : vwCl[12]? = some (RX12, TX12, 58)) inX12 (by decide) g1023) ?_
  refine q_fa (ok_iconst (by decide +kernel : decode cX12_base 132 = .ok (.iconst 1, 1)) rfl (by decide +kernel)) ?_
  refine q_fa (ok_iadd (by decide +kernel : decode cX12_base 133 = .ok (.iadd, 1)) rfl) ?_
  refine q_fa (ok_putI tyX12 (by decide +kernel : decode cX12_base 134 = .ok (.putfield 189, 3)) rfl (rfl : vwCl[12]? = some (RX12, TX12, 58)) inX12 tyX12_ok nmX12 (by decide) g1023 (Or.inl rfl) (by decide +kernel)) ?_
  refine q_fa (ok_aload_n (by decide +kernel : decode cX12_base 137 = .ok (.aload_n 0, 1)) rfl rfl) ?_
  refine q_fa (ok_dup (by decide +kernel : decode cX12_base 138 = .ok (.dup, 1)) rfl) ?_
  refine q_fa (ok_get (by decide +kernel : decode cX12_base 139 = .ok (.getfield 220, 3)) rfl (rfl : vwCl[12]? = some (RX12, TX12, 58)) inX12 (by decide) g1025) ?_
  refine q_fa (ok_iconst (by decide +kernel : decode cX12_base 142 = .ok (.iconst 1, 1)) rfl (by decide +kernel)) ?_
  refine q_fa (ok_isub (by decide +kernel : decode cX12_base 143 = .ok (.isub, 1)) rfl) ?_
  refine q_fa (ok_putI tyX12 (by decide +kernel : decode cX12_base 144 = .ok (.putfield 220, 3)) rfl (rfl : vwCl[12]? = some (RX12, TX12, 58)) inX12 tyX12_ok nmX12 (by decide) g1025 (Or.inl rfl) (by decide +kernel)) ?_
  refine q_fa (ok_iload_n (by decide +kernel : decode cX12_base 147 = .ok (.iload_n 2, 1)) rfl rfl) ?_
  refine q_fa (ok_iret (by decide +kernel : decode cX12_base 148 = .ok (.ireturn, 1)) rfl) ?_
  exact q_fa0
theorem exX12_base : ∃ t : Nat → qP, t = uX12_base := ⟨_, rfl⟩
noncomputable def tX12_base : Nat → qP := Classical.choose exX12_base
theorem teX12_base : tX12_base = uX12_base := Classical.choose_spec exX12_base
theorem sX12_base : q_Snd mX12_base tX12_base := by rw [teX12_base]; exact suX12_base
theorem tX12_base_0 : tX12_base 0 = oAl 0 1 := (congrFun teX12_base 0).trans rfl
theorem tX12_base_1 : tX12_base 1 = oCallV 12 mX12_look 0 4 := (congrFun teX12_base 1).trans rfl
theorem tX12_base_4 : tX12_base 4 = oIs 1 5 := (congrFun teX12_base 4).trans rfl
theorem tX12_base_5 : tX12_base 5 = oIl 1 6 := (congrFun teX12_base 5).trans rfl
theorem tX12_base_6 : tX12_base 6 = oK (.int (nI 97)) 8 := (congrFun teX12_base 6).trans rfl
theorem tX12_base_8 : tX12_base 8 = oK (.int (nI 99)) 10 := (congrFun teX12_base 8).trans rfl
theorem tX12_base_10 : tX12_base 10 = oCallS mX12_in 3 13 := (congrFun teX12_base 10).trans rfl
theorem tX12_base_13 : tX12_base 13 = oIf1eq 38 16 := (congrFun teX12_base 13).trans rfl
theorem tX12_base_16 : tX12_base 16 = oAl 0 17 := (congrFun teX12_base 16).trans rfl
theorem tX12_base_17 : tX12_base 17 = oDup 18 := (congrFun teX12_base 17).trans rfl
theorem tX12_base_18 : tX12_base 18 = oGet 12 19 21 := (congrFun teX12_base 18).trans rfl
theorem tX12_base_21 : tX12_base 21 = oK (.int (nI 1)) 22 := (congrFun teX12_base 21).trans rfl
theorem tX12_base_22 : tX12_base 22 = oAdd 23 := (congrFun teX12_base 22).trans rfl
theorem tX12_base_23 : tX12_base 23 = oPutI 12 19 26 := (congrFun teX12_base 23).trans rfl
theorem tX12_base_26 : tX12_base 26 = oAl 0 27 := (congrFun teX12_base 26).trans rfl
theorem tX12_base_27 : tX12_base 27 = oK (.int (nI 0)) 28 := (congrFun teX12_base 27).trans rfl
theorem tX12_base_28 : tX12_base 28 = oIl 1 29 := (congrFun teX12_base 28).trans rfl
theorem tX12_base_29 : tX12_base 29 = oK (.int (nI 97)) 31 := (congrFun teX12_base 29).trans rfl
theorem tX12_base_31 : tX12_base 31 = oSub 32 := (congrFun teX12_base 31).trans rfl
theorem tX12_base_32 : tX12_base 32 = oK (.int (-1)) 33 := (congrFun teX12_base 32).trans rfl
theorem tX12_base_33 : tX12_base 33 = oK (.int (-1)) 34 := (congrFun teX12_base 33).trans rfl
theorem tX12_base_34 : tX12_base 34 = oCallV 12 mX12_make 4 37 := (congrFun teX12_base 34).trans rfl
theorem tX12_base_37 : tX12_base 37 = oIret := (congrFun teX12_base 37).trans rfl
theorem tX12_base_38 : tX12_base 38 = oIl 1 39 := (congrFun teX12_base 38).trans rfl
theorem tX12_base_39 : tX12_base 39 = oK (.int (nI 91)) 41 := (congrFun teX12_base 39).trans rfl
theorem tX12_base_41 : tX12_base 41 = oIf2ne 59 44 := (congrFun teX12_base 41).trans rfl
theorem tX12_base_44 : tX12_base 44 = oAl 0 45 := (congrFun teX12_base 44).trans rfl
theorem tX12_base_45 : tX12_base 45 = oDup 46 := (congrFun teX12_base 45).trans rfl
theorem tX12_base_46 : tX12_base 46 = oGet 12 19 49 := (congrFun teX12_base 46).trans rfl
theorem tX12_base_49 : tX12_base 49 = oK (.int (nI 1)) 50 := (congrFun teX12_base 49).trans rfl
theorem tX12_base_50 : tX12_base 50 = oAdd 51 := (congrFun teX12_base 50).trans rfl
theorem tX12_base_51 : tX12_base 51 = oPutI 12 19 54 := (congrFun teX12_base 51).trans rfl
theorem tX12_base_54 : tX12_base 54 = oAl 0 55 := (congrFun teX12_base 54).trans rfl
theorem tX12_base_55 : tX12_base 55 = oCallV 12 mX12_set 0 58 := (congrFun teX12_base 55).trans rfl
theorem tX12_base_58 : tX12_base 58 = oIret := (congrFun teX12_base 58).trans rfl
theorem tX12_base_59 : tX12_base 59 = oIl 1 60 := (congrFun teX12_base 59).trans rfl
theorem tX12_base_60 : tX12_base 60 = oK (.int (nI 40)) 62 := (congrFun teX12_base 60).trans rfl
theorem tX12_base_62 : tX12_base 62 = oIf2ne 74 65 := (congrFun teX12_base 62).trans rfl
theorem tX12_base_65 : tX12_base 65 = oAl 0 66 := (congrFun teX12_base 65).trans rfl
theorem tX12_base_66 : tX12_base 66 = oGet 12 21 69 := (congrFun teX12_base 66).trans rfl
theorem tX12_base_69 : tX12_base 69 = oK (.int (nI 6)) 71 := (congrFun teX12_base 69).trans rfl
theorem tX12_base_71 : tX12_base 71 = oIf2ne 79 74 := (congrFun teX12_base 71).trans rfl
theorem tX12_base_74 : tX12_base 74 = oAl 0 75 := (congrFun teX12_base 74).trans rfl
theorem tX12_base_75 : tX12_base 75 = oCallV 12 mX12_wrong 0 78 := (congrFun teX12_base 75).trans rfl
theorem tX12_base_78 : tX12_base 78 = oIret := (congrFun teX12_base 78).trans rfl
theorem tX12_base_79 : tX12_base 79 = oAl 0 80 := (congrFun teX12_base 79).trans rfl
theorem tX12_base_80 : tX12_base 80 = oDup 81 := (congrFun teX12_base 80).trans rfl
theorem tX12_base_81 : tX12_base 81 = oGet 12 19 84 := (congrFun teX12_base 81).trans rfl
theorem tX12_base_84 : tX12_base 84 = oK (.int (nI 1)) 85 := (congrFun teX12_base 84).trans rfl
theorem tX12_base_85 : tX12_base 85 = oAdd 86 := (congrFun teX12_base 85).trans rfl
theorem tX12_base_86 : tX12_base 86 = oPutI 12 19 89 := (congrFun teX12_base 86).trans rfl
theorem tX12_base_89 : tX12_base 89 = oAl 0 90 := (congrFun teX12_base 89).trans rfl
theorem tX12_base_90 : tX12_base 90 = oDup 91 := (congrFun teX12_base 90).trans rfl
theorem tX12_base_91 : tX12_base 91 = oGet 12 21 94 := (congrFun teX12_base 91).trans rfl
theorem tX12_base_94 : tX12_base 94 = oK (.int (nI 1)) 95 := (congrFun teX12_base 94).trans rfl
theorem tX12_base_95 : tX12_base 95 = oAdd 96 := (congrFun teX12_base 95).trans rfl
theorem tX12_base_96 : tX12_base 96 = oPutI 12 21 99 := (congrFun teX12_base 96).trans rfl
theorem tX12_base_99 : tX12_base 99 = oAl 0 100 := (congrFun teX12_base 99).trans rfl
theorem tX12_base_100 : tX12_base 100 = oCallV 12 mX12_either 0 103 := (congrFun teX12_base 100).trans rfl
theorem tX12_base_103 : tX12_base 103 = oIs 2 104 := (congrFun teX12_base 103).trans rfl
theorem tX12_base_104 : tX12_base 104 = oAl 0 105 := (congrFun teX12_base 104).trans rfl
theorem tX12_base_105 : tX12_base 105 = oGet 12 20 108 := (congrFun teX12_base 105).trans rfl
theorem tX12_base_108 : tX12_base 108 = oIf1lt 113 111 := (congrFun teX12_base 108).trans rfl
theorem tX12_base_111 : tX12_base 111 = oK (.int (-1)) 112 := (congrFun teX12_base 111).trans rfl
theorem tX12_base_112 : tX12_base 112 = oIret := (congrFun teX12_base 112).trans rfl
theorem tX12_base_113 : tX12_base 113 = oAl 0 114 := (congrFun teX12_base 113).trans rfl
theorem tX12_base_114 : tX12_base 114 = oCallV 12 mX12_look 0 117 := (congrFun teX12_base 114).trans rfl
theorem tX12_base_117 : tX12_base 117 = oK (.int (nI 41)) 119 := (congrFun teX12_base 117).trans rfl
theorem tX12_base_119 : tX12_base 119 = oIf2eq 127 122 := (congrFun teX12_base 119).trans rfl
theorem tX12_base_122 : tX12_base 122 = oAl 0 123 := (congrFun teX12_base 122).trans rfl
theorem tX12_base_123 : tX12_base 123 = oCallV 12 mX12_wrong 0 126 := (congrFun teX12_base 123).trans rfl
theorem tX12_base_126 : tX12_base 126 = oIret := (congrFun teX12_base 126).trans rfl
theorem tX12_base_127 : tX12_base 127 = oAl 0 128 := (congrFun teX12_base 127).trans rfl
theorem tX12_base_128 : tX12_base 128 = oDup 129 := (congrFun teX12_base 128).trans rfl
theorem tX12_base_129 : tX12_base 129 = oGet 12 19 132 := (congrFun teX12_base 129).trans rfl
theorem tX12_base_132 : tX12_base 132 = oK (.int (nI 1)) 133 := (congrFun teX12_base 132).trans rfl
theorem tX12_base_133 : tX12_base 133 = oAdd 134 := (congrFun teX12_base 133).trans rfl
theorem tX12_base_134 : tX12_base 134 = oPutI 12 19 137 := (congrFun teX12_base 134).trans rfl
theorem tX12_base_137 : tX12_base 137 = oAl 0 138 := (congrFun teX12_base 137).trans rfl
theorem tX12_base_138 : tX12_base 138 = oDup 139 := (congrFun teX12_base 138).trans rfl
theorem tX12_base_139 : tX12_base 139 = oGet 12 21 142 := (congrFun teX12_base 139).trans rfl
theorem tX12_base_142 : tX12_base 142 = oK (.int (nI 1)) 143 := (congrFun teX12_base 142).trans rfl
theorem tX12_base_143 : tX12_base 143 = oSub 144 := (congrFun teX12_base 143).trans rfl
theorem tX12_base_144 : tX12_base 144 = oPutI 12 21 147 := (congrFun teX12_base 144).trans rfl
theorem tX12_base_147 : tX12_base 147 = oIl 2 148 := (congrFun teX12_base 147).trans rfl
theorem tX12_base_148 : tX12_base 148 = oIret := (congrFun teX12_base 148).trans rfl
def lX12_set : List (Nat × qP) := [(0, oK (.int (nI 0)) 1), (1, oIs 1 2), (2, oK (.int (nI 97)) 4), (4, oIs 2 5), (5, oAl 0 6), (6, oCallV 12 mX12_look 0 9), (9, oIl 2 10), (10, oK (.int (nI 99)) 12), (12, oCallS mX12_in 3 15), (15, oIf1eq 50 18), (18, oIl 1 19), (19, oK (.int (nI 1)) 20), (20, oAl 0 21), (21, oCallV 12 mX12_look 0 24), (24, oK (.int (nI 97)) 26), (26, oSub 27), (27, oShl 28), (28, oOr 29), (29, oIs 1 30), (30, oAl 0 31), (31, oCallV 12 mX12_look 0 34), (34, oK (.int (nI 1)) 35), (35, oAdd 36), (36, oIs 2 37), (37, oAl 0 38), (38, oDup 39), (39, oGet 12 19 42), (42, oK (.int (nI 1)) 43), (43, oAdd 44), (44, oPutI 12 19 47), (47, oGo 5), (50, oIl 1 51), (51, oIf1eq 63 54), (54, oAl 0 55), (55, oCallV 12 mX12_look 0 58), (58, oK (.int (nI 93)) 60), (60, oIf2eq 68 63), (63, oAl 0 64), (64, oCallV 12 mX12_wrong 0 67), (67, oIret), (68, oAl 0 69), (69, oDup 70), (70, oGet 12 19 73), (73, oK (.int (nI 1)) 74), (74, oAdd 75), (75, oPutI 12 19 78), (78, oAl 0 79), (79, oK (.int (nI 1)) 80), (80, oIl 1 81), (81, oK (.int (-1)) 82), (82, oK (.int (-1)) 83), (83, oCallV 12 mX12_make 4 86), (86, oIret)]
def uX12_set : Nat → qP := q_tb lX12_set
set_option maxRecDepth 20000 in
theorem suX12_set : q_Snd mX12_set uX12_set := by
  refine q_tb_ok ?_
  unfold lX12_set
  refine q_fa (ok_iconst (by decide +kernel : decode cX12_set 0 = .ok (.iconst 0, 1)) rfl (by decide +kernel)) ?_
  refine q_fa (ok_istore_n (by decide +kernel : decode cX12_set 1 = .ok (.istore_n 1, 1)) rfl rfl (by decide)) ?_
  refine q_fa (ok_bipush (by decide +kernel : decode cX12_set 2 = .ok (.bipush 97, 2)) rfl (by decide +kernel)) ?_
  refine q_fa (ok_istore_n (by decide +kernel : decode cX12_set 4 = .ok (.istore_n 2, 1)) rfl rfl (by decide)) ?_
  refine q_fa (ok_aload_n (by decide +kernel : decode cX12_set 5 = .ok (.aload_n 0, 1)) rfl rfl) ?_
  refine q_fa (ok_callV (by decide +kernel : decode cX12_set 6 = .ok (.invokevirtual 195, 3)) rfl kX12_look.1 kX12_look.2.1 kX12_look.2.2.1 kX12_look.2.2.2.1 kX12_look.2.2.2.2 (rfl : vwCl[12]? = some (RX12, TX12, 58)) g1212 gs51 g1210) ?_
  refine q_fa (ok_iload_n (by decide +kernel : decode cX12_set 9 = .ok (.iload_n 2, 1)) rfl rfl) ?_
  refine q_fa (ok_bipush (by decide +kernel : decode cX12_set 10 = .ok (.bipush 99, 2)) rfl (by decide +kernel)) ?_
  refine q_fa (ok_callS (by decide +kernel : decode cX12_set 12 = .ok (.invokestatic 163, 3)) rfl kX12_in.1 kX12_in.2.1 kX12_in.2.2.1 kX12_in.2.2.2.1 kX12_in.2.2.2.2 g1185 g1184) ?_
  refine q_fa (ok_if1eq (by decide +kernel : decode cX12_set 15 = .ok (.ifCond .eq 35, 3)) (by decide) rfl) ?_
  refine q_fa (ok_iload_n (by decide +kernel : decode cX12_set 18 = .ok (.iload_n 1, 1)) rfl rfl) ?_
  refine q_fa (ok_iconst (by decide +kernel : decode cX12_set 19 = .ok (.iconst 1, 1)) rfl (by decide +kernel)) ?_
  refine q_fa (ok_aload_n (by decide +kernel : decode cX12_set 20 = .ok (.aload_n 0, 1)) rfl rfl) ?_
  refine q_fa (ok_callV (by decide +kernel : decode cX12_set 21 = .ok (.invokevirtual 195, 3)) rfl kX12_look.1 kX12_look.2.1 kX12_look.2.2.1 kX12_look.2.2.2.1 kX12_look.2.2.2.2 (rfl : vwCl[12]? = some (RX12, TX12, 58)) g1212 gs51 g1210) ?_
  refine q_fa (ok_bipush (by decide +kernel : decode cX12_set 24 = .ok (.bipush 97, 2)) rfl (by decide +kernel)) ?_
  refine q_fa (ok_isub (by decide +kernel : decode cX12_set 26 = .ok (.isub, 1)) rfl) ?_
  refine q_fa (ok_ishl (by decide +kernel : decode cX12_set 27 = .ok (.ishl, 1)) rfl) ?_
  refine q_fa (ok_ior (by decide +kernel : decode cX12_set 28 = .ok (.ior, 1)) rfl) ?_
  refine q_fa (ok_istore_n (by decide +kernel : decode cX12_set 29 = .ok (.istore_n 1, 1)) rfl rfl (by decide)) ?_
  refine q_fa (ok_aload_n (by decide +kernel : decode cX12_set 30 = .ok (.aload_n 0, 1)) rfl rfl) ?_
  refine q_fa (ok_callV (by decide +kernel : decode cX12_set 31 = .ok (.invokevirtual 195, 3)) rfl kX12_look.1 kX12_look.2.1 kX12_look.2.2.1 kX12_look.2.2.2.1 kX12_look.2.2.2.2 (rfl : vwCl[12]? = some (RX12, TX12, 58)) g1212 gs51 g1210) ?_
  refine q_fa (ok_iconst (by decide +kernel : decode cX12_set 34 = .ok (.iconst 1, 1)) rfl (by decide +kernel)) ?_
  refine q_fa (ok_iadd (by decide +kernel : decode cX12_set 35 = .ok (.iadd, 1)) rfl) ?_
  refine q_fa (ok_istore_n (by decide +kernel : decode cX12_set 36 = .ok (.istore_n 2, 1)) rfl rfl (by decide)) ?_
  refine q_fa (ok_aload_n (by decide +kernel : decode cX12_set 37 = .ok (.aload_n 0, 1)) rfl rfl) ?_
  refine q_fa (ok_dup (by decide +kernel : decode cX12_set 38 = .ok (.dup, 1)) rfl) ?_
  refine q_fa (ok_get (by decide +kernel : decode cX12_set 39 = .ok (.getfield 189, 3)) rfl (rfl : vwCl[12]? = some (RX12, TX12, 58)) inX12 (by decide) g1023) ?_
  refine q_fa (ok_iconst (by decide +kernel : decode cX12_set 42 = .ok (.iconst 1, 1)) rfl (by decide +kernel)) ?_
  refine q_fa (ok_iadd (by decide +kernel : decode cX12_set 43 = .ok (.iadd, 1)) rfl) ?_
  refine q_fa (ok_putI tyX12 (by decide +kernel : decode cX12_set 44 = .ok (.putfield 189, 3)) rfl (rfl : vwCl[12]? = some (RX12, TX12, 58)) inX12 tyX12_ok nmX12 (by decide) g1023 (Or.inl rfl) (by decide +kernel)) ?_
  refine q_fa (ok_goto (by decide +kernel : decode cX12_set 47 = .ok (.goto (-42), 3)) (by decide)) ?_
  refine q_fa (ok_iload_n (by decide +kernel : decode cX12_set 50 = .ok (.iload_n 1, 1)) rfl rfl) ?_
  refine q_fa (ok_if1eq (by decide +kernel : decode cX12_set 51 = .ok (.ifCond .eq 12, 3)) (by decide) rfl) ?_
  refine q_fa (ok_aload_n (by decide +kernel : decode cX12_set 54 = .ok (.aload_n 0, 1)) rfl rfl) ?_
  refine q_fa (ok_callV (by decide +kernel : decode cX12_set 55 = .ok (.invokevirtual 195, 3)) rfl kX12_look.1 kX12_look.2.1 kX12_look.2.2.1 kX12_look.2.2.2.1 kX12_look.2.2.2.2 (rfl : vwCl[12]? = some (RX12, TX12, 58)) g1212 gs51 g1210) ?_
  refine q_fa (ok_bipush (by decide +kernel : decode cX12_set 58 = .ok (.bipush 93, 2)) rfl (by decide +kernel)) ?_
  refine q_fa (ok_if2eq (by decide +kernel : decode cX12_set 60 = .ok (.if_icmp .eq 8, 3)) (by decide) rfl) ?_
  refine q_fa (ok_aload_n (by decide +kernel : decode cX12_set 63 = .ok (.aload_n 0, 1)) rfl rfl) ?_
  refine q_fa (ok_callV (by decide +kernel : decode cX12_set 64 = .ok (.invokevirtual 223, 3)) rfl kX12_wrong.1 kX12_wrong.2.1 kX12_wrong.2.2.1 kX12_wrong.2.2.2.1 kX12_wrong.2.2.2.2 (rfl : vwCl[12]? = some (RX12, TX12, 58)) g1231 gs55 g1229) ?_
  refine q_fa (ok_iret (by decide +kernel : decode cX12_set 67 = .ok (.ireturn, 1)) rfl) ?_
  refine q_fa (ok_aload_n (by decide +kernel : decode cX12_set 68 = .ok (.aload_n 0, 1)) rfl rfl) ?_
  refine q_fa (ok_dup (by decide +kernel : decode cX12_set 69 = .ok (.dup, 1)) rfl) ?_
  refine q_fa (ok_get (by decide +kernel : decode cX12_set 70 = .ok (.getfield 189, 3)) rfl (rfl : vwCl[12]? = some (RX12, TX12, 58)) inX12 (by decide) g1023) ?_
  refine q_fa (ok_iconst (by decide +kernel : decode cX12_set 73 = .ok (.iconst 1, 1)) rfl (by decide +kernel)) ?_
  refine q_fa (ok_iadd (by decide +kernel : decode cX12_set 74 = .ok (.iadd, 1)) rfl) ?_
  refine q_fa (ok_putI tyX12 (by decide +kernel : decode cX12_set 75 = .ok (.putfield 189, 3)) rfl (rfl : vwCl[12]? = some (RX12, TX12, 58)) inX12 tyX12_ok nmX12 (by decide) g1023 (Or.inl rfl) (by decide +kernel)) ?_
  refine q_fa (ok_aload_n (by decide +kernel : decode cX12_set 78 = .ok (.aload_n 0, 1)) rfl rfl) ?_
  refine q_fa (ok_iconst (by decide +kernel : decode cX12_set 79 = .ok (.iconst 1, 1)) rfl (by decide +kernel)) ?_
  refine q_fa (ok_iload_n (by decide +kernel : decode cX12_set 80 = .ok (.iload_n 1, 1)) rfl rfl) ?_
  refine q_fa (ok_iconst (by decide +kernel : decode cX12_set 81 = .ok (.iconst (-1), 1)) rfl (by decide +kernel)) ?_
  refine q_fa (ok_iconst (by decide +kernel : decode cX12_set 82 = .ok (.iconst (-1), 1)) rfl (by decide +kernel)) ?_
  refine q_fa (ok_callV (by decide +kernel : decode cX12_set 83 = .ok (.invokevirtual 178, 3)) rfl kX12_make.1 kX12_make.2.1 kX12_make.2.2.1 kX12_make.2.2.2.1 kX12_make.2.2.2.2 (rfl : vwCl[12]? = some (RX12, TX12, 58)) g1216 gs52 g1214) ?_
  refine q_fa (ok_iret (by decide +kernel : decode cX12_set 86 = .ok (.ireturn, 1)) rfl) ?_
  exact q_fa0
theorem exX12_set : ∃ t : Nat → qP, t = uX12_set := ⟨_, rfl⟩
noncomputable def tX12_set : Nat → qP := Classical.choose exX12_set
theorem teX12_set : tX12_set = uX12_set := Classical.choose_spec exX12_set
theorem sX12_set : q_Snd mX12_set tX12_set := by rw [teX12_set]; exact suX12_set
theorem tX12_set_0 : tX12_set 0 = oK (.int (nI 0)) 1 := (congrFun teX12_set 0).trans rfl
theorem tX12_set_1 : tX12_set 1 = oIs 1 2 := (congrFun teX12_set 1).trans rfl
theorem tX12_set_2 : tX12_set 2 = oK (.int (nI 97)) 4 := (congrFun teX12_set 2).trans rfl
theorem tX12_set_4 : tX12_set 4 = oIs 2 5 := (congrFun teX12_set 4).trans rfl
theorem tX12_set_5 : tX12_set 5 = oAl 0 6 := (congrFun teX12_set 5).trans rfl
theorem tX12_set_6 : tX12_set 6 = oCallV 12 mX12_look 0 9 := (congrFun teX12_set 6).trans rfl
theorem tX12_set_9 : tX12_set 9 = oIl 2 10 := (congrFun teX12_set 9).trans rfl
theorem tX12_set_10 : tX12_set 10 = oK (.int (nI 99)) 12 := (congrFun teX12_set 10).trans rfl
theorem tX12_set_12 : tX12_set 12 = oCallS mX12_in 3 15 := (congrFun teX12_set 12).trans rfl
theorem tX12_set_15 : tX12_set 15 = oIf1eq 50 18 := (congrFun teX12_set 15).trans rfl
theorem tX12_set_18 : tX12_set 18 = oIl 1 19 := (congrFun teX12_set 18).trans rfl
theorem tX12_set_19 : tX12_set 19 = oK (.int (nI 1)) 20 := (congrFun teX12_set 19).trans rfl
theorem tX12_set_20 : tX12_set 20 = oAl 0 21 := (congrFun teX12_set 20).trans rfl
theorem tX12_set_21 : tX12_set 21 = oCallV 12 mX12_look 0 24 := (congrFun teX12_set 21).trans rfl
theorem tX12_set_24 : tX12_set 24 = oK (.int (nI 97)) 26 := (congrFun teX12_set 24).trans rfl
theorem tX12_set_26 : tX12_set 26 = oSub 27 := (congrFun teX12_set 26).trans rfl
theorem tX12_set_27 : tX12_set 27 = oShl 28 := (congrFun teX12_set 27).trans rfl
theorem tX12_set_28 : tX12_set 28 = oOr 29 := (congrFun teX12_set 28).trans rfl
theorem tX12_set_29 : tX12_set 29 = oIs 1 30 := (congrFun teX12_set 29).trans rfl
theorem tX12_set_30 : tX12_set 30 = oAl 0 31 := (congrFun teX12_set 30).trans rfl
theorem tX12_set_31 : tX12_set 31 = oCallV 12 mX12_look 0 34 := (congrFun teX12_set 31).trans rfl
theorem tX12_set_34 : tX12_set 34 = oK (.int (nI 1)) 35 := (congrFun teX12_set 34).trans rfl
theorem tX12_set_35 : tX12_set 35 = oAdd 36 := (congrFun teX12_set 35).trans rfl
theorem tX12_set_36 : tX12_set 36 = oIs 2 37 := (congrFun teX12_set 36).trans rfl
theorem tX12_set_37 : tX12_set 37 = oAl 0 38 := (congrFun teX12_set 37).trans rfl
theorem tX12_set_38 : tX12_set 38 = oDup 39 := (congrFun teX12_set 38).trans rfl
theorem tX12_set_39 : tX12_set 39 = oGet 12 19 42 := (congrFun teX12_set 39).trans rfl
theorem tX12_set_42 : tX12_set 42 = oK (.int (nI 1)) 43 := (congrFun teX12_set 42).trans rfl
theorem tX12_set_43 : tX12_set 43 = oAdd 44 := (congrFun teX12_set 43).trans rfl
theorem tX12_set_44 : tX12_set 44 = oPutI 12 19 47 := (congrFun teX12_set 44).trans rfl
theorem tX12_set_47 : tX12_set 47 = oGo 5 := (congrFun teX12_set 47).trans rfl
theorem tX12_set_50 : tX12_set 50 = oIl 1 51 := (congrFun teX12_set 50).trans rfl
theorem tX12_set_51 : tX12_set 51 = oIf1eq 63 54 := (congrFun teX12_set 51).trans rfl
theorem tX12_set_54 : tX12_set 54 = oAl 0 55 := (congrFun teX12_set 54).trans rfl
theorem tX12_set_55 : tX12_set 55 = oCallV 12 mX12_look 0 58 := (congrFun teX12_set 55).trans rfl
theorem tX12_set_58 : tX12_set 58 = oK (.int (nI 93)) 60 := (congrFun teX12_set 58).trans rfl
theorem tX12_set_60 : tX12_set 60 = oIf2eq 68 63 := (congrFun teX12_set 60).trans rfl
theorem tX12_set_63 : tX12_set 63 = oAl 0 64 := (congrFun teX12_set 63).trans rfl
theorem tX12_set_64 : tX12_set 64 = oCallV 12 mX12_wrong 0 67 := (congrFun teX12_set 64).trans rfl
theorem tX12_set_67 : tX12_set 67 = oIret := (congrFun teX12_set 67).trans rfl
theorem tX12_set_68 : tX12_set 68 = oAl 0 69 := (congrFun teX12_set 68).trans rfl
theorem tX12_set_69 : tX12_set 69 = oDup 70 := (congrFun teX12_set 69).trans rfl
theorem tX12_set_70 : tX12_set 70 = oGet 12 19 73 := (congrFun teX12_set 70).trans rfl
theorem tX12_set_73 : tX12_set 73 = oK (.int (nI 1)) 74 := (congrFun teX12_set 73).trans rfl
theorem tX12_set_74 : tX12_set 74 = oAdd 75 := (congrFun teX12_set 74).trans rfl
theorem tX12_set_75 : tX12_set 75 = oPutI 12 19 78 := (congrFun teX12_set 75).trans rfl
theorem tX12_set_78 : tX12_set 78 = oAl 0 79 := (congrFun teX12_set 78).trans rfl
theorem tX12_set_79 : tX12_set 79 = oK (.int (nI 1)) 80 := (congrFun teX12_set 79).trans rfl
theorem tX12_set_80 : tX12_set 80 = oIl 1 81 := (congrFun teX12_set 80).trans rfl
theorem tX12_set_81 : tX12_set 81 = oK (.int (-1)) 82 := (congrFun teX12_set 81).trans rfl
theorem tX12_set_82 : tX12_set 82 = oK (.int (-1)) 83 := (congrFun teX12_set 82).trans rfl
theorem tX12_set_83 : tX12_set 83 = oCallV 12 mX12_make 4 86 := (congrFun teX12_set 83).trans rfl
theorem tX12_set_86 : tX12_set 86 = oIret := (congrFun teX12_set 86).trans rfl
def lX12_read : List (Nat × qP) := [(0, oIl 1 1), (1, oCallS mX12_isPlace 1 4), (4, oIf1ne 9 7), (7, oK (.int (-1)) 8), (8, oIret), (9, oAl 0 10), (10, oK (.int (nI 0)) 11), (11, oPutI 12 19 14), (14, oAl 0 15), (15, oK (.int (-1)) 16), (16, oPutI 12 20 19), (19, oAl 0 20), (20, oK (.int (nI 0)) 21), (21, oPutI 12 21 24), (24, oAl 0 25), (25, oK (.int (nI 6000)) 28), (28, oPutI 12 10 31), (31, oAl 0 32), (32, oCallV 12 mX12_either 0 35), (35, oIs 2 36), (36, oAl 0 37), (37, oGet 12 20 40), (40, oIf1ge 59 43), (43, oAl 0 44), (44, oGet 12 19 47), (47, oAl 0 48), (48, oGet 12 18 51), (51, oIf2ge 59 54), (54, oAl 0 55), (55, oCallV 12 mX12_wrong 0 58), (58, oIs 2 59), (59, oAl 0 60), (60, oK (.int (nI 0)) 61), (61, oPutI 12 18 64), (64, oAl 0 65), (65, oGet 12 20 68), (68, oIf1lt 79 71), (71, oK (.int (-100)) 73), (73, oAl 0 74), (74, oGet 12 20 77), (77, oSub 78), (78, oIret), (79, oAl 0 80), (80, oGet 12 8 83), (83, oIl 2 84), (84, oIald 85), (85, oK (.int (nI 12)) 87), (87, oIf2le 94 90), (90, oK (.int (-1000)) 93), (93, oIret), (94, oAl 0 95), (95, oIl 1 96), (96, oIl 2 97), (97, oCallV 12 mX12_put 2 100), (100, oAl 0 101), (101, oGet 12 7 104), (104, oIl 2 105), (105, oIald 106), (106, oIret)]
def uX12_read : Nat → qP := q_tb lX12_read
set_option maxRecDepth 20000 in
theorem suX12_read : q_Snd mX12_read uX12_read := by
  refine q_tb_ok ?_
  unfold lX12_read
  refine q_fa (ok_iload_n (by decide +kernel : decode cX12_read 0 = .ok (.iload_n 1, 1)) rfl rfl) ?_
  refine q_fa (ok_callS (by decide +kernel : decode cX12_read 1 = .ok (.invokestatic 167, 3)) rfl kX12_isPlace.1 kX12_isPlace.2.1 kX12_isPlace.2.2.1 kX12_isPlace.2.2.2.1 kX12_isPlace.2.2.2.2 g1192 g1191) ?_
  refine q_fa (ok_if1ne (by decide +kernel : decode cX12_read 4 = .ok (.ifCond .ne 5, 3)) (by decide) rfl) ?_
  refine q_fa (ok_iconst (by decide +kernel : decode cX12_read 7 = .ok (.iconst (-1), 1)) rfl (by decide +kernel)) ?_
  refine q_fa (ok_iret (by decide +kernel : decode cX12_read 8 = .ok (.ireturn, 1)) rfl) ?_
  refine q_fa (ok_aload_n (by decide +kernel : decode cX12_read 9 = .ok (.aload_n 0, 1)) rfl rfl) ?_
  refine q_fa (ok_iconst (by decide +kernel : decode cX12_read 10 = .ok (.iconst 0, 1)) rfl (by decide +kernel)) ?_
  refine q_fa (ok_putI tyX12 (by decide +kernel : decode cX12_read 11 = .ok (.putfield 189, 3)) rfl (rfl : vwCl[12]? = some (RX12, TX12, 58)) inX12 tyX12_ok nmX12 (by decide) g1023 (Or.inl rfl) (by decide +kernel)) ?_
  refine q_fa (ok_aload_n (by decide +kernel : decode cX12_read 14 = .ok (.aload_n 0, 1)) rfl rfl) ?_
  refine q_fa (ok_iconst (by decide +kernel : decode cX12_read 15 = .ok (.iconst (-1), 1)) rfl (by decide +kernel)) ?_
  refine q_fa (ok_putI tyX12 (by decide +kernel : decode cX12_read 16 = .ok (.putfield 192, 3)) rfl (rfl : vwCl[12]? = some (RX12, TX12, 58)) inX12 tyX12_ok nmX12 (by decide) g1024 (Or.inl rfl) (by decide +kernel)) ?_
  refine q_fa (ok_aload_n (by decide +kernel : decode cX12_read 19 = .ok (.aload_n 0, 1)) rfl rfl) ?_
  refine q_fa (ok_iconst (by decide +kernel : decode cX12_read 20 = .ok (.iconst 0, 1)) rfl (by decide +kernel)) ?_
  refine q_fa (ok_putI tyX12 (by decide +kernel : decode cX12_read 21 = .ok (.putfield 220, 3)) rfl (rfl : vwCl[12]? = some (RX12, TX12, 58)) inX12 tyX12_ok nmX12 (by decide) g1025 (Or.inl rfl) (by decide +kernel)) ?_
  refine q_fa (ok_aload_n (by decide +kernel : decode cX12_read 24 = .ok (.aload_n 0, 1)) rfl rfl) ?_
  refine q_fa (ok_sipush (by decide +kernel : decode cX12_read 25 = .ok (.sipush 6000, 3)) rfl (by decide +kernel)) ?_
  refine q_fa (ok_putI tyX12 (by decide +kernel : decode cX12_read 28 = .ok (.putfield 34, 3)) rfl (rfl : vwCl[12]? = some (RX12, TX12, 58)) inX12 tyX12_ok nmX12 (by decide) g1014 (Or.inl rfl) (by decide +kernel)) ?_
  refine q_fa (ok_aload_n (by decide +kernel : decode cX12_read 31 = .ok (.aload_n 0, 1)) rfl rfl) ?_
  refine q_fa (ok_callV (by decide +kernel : decode cX12_read 32 = .ok (.invokevirtual 201, 3)) rfl kX12_either.1 kX12_either.2.1 kX12_either.2.2.1 kX12_either.2.2.2.1 kX12_either.2.2.2.2 (rfl : vwCl[12]? = some (RX12, TX12, 58)) g1196 gs47 g1194) ?_
  refine q_fa (ok_istore_n (by decide +kernel : decode cX12_read 35 = .ok (.istore_n 2, 1)) rfl rfl (by decide)) ?_
  refine q_fa (ok_aload_n (by decide +kernel : decode cX12_read 36 = .ok (.aload_n 0, 1)) rfl rfl) ?_
  refine q_fa (ok_get (by decide +kernel : decode cX12_read 37 = .ok (.getfield 192, 3)) rfl (rfl : vwCl[12]? = some (RX12, TX12, 58)) inX12 (by decide) g1024) ?_
  refine q_fa (ok_if1ge (by decide +kernel : decode cX12_read 40 = .ok (.ifCond .ge 19, 3)) (by decide) rfl) ?_
  refine q_fa (ok_aload_n (by decide +kernel : decode cX12_read 43 = .ok (.aload_n 0, 1)) rfl rfl) ?_
  refine q_fa (ok_get (by decide +kernel : decode cX12_read 44 = .ok (.getfield 189, 3)) rfl (rfl : vwCl[12]? = some (RX12, TX12, 58)) inX12 (by decide) g1023) ?_
  refine q_fa (ok_aload_n (by decide +kernel : decode cX12_read 47 = .ok (.aload_n 0, 1)) rfl rfl) ?_
  refine q_fa (ok_get (by decide +kernel : decode cX12_read 48 = .ok (.getfield 186, 3)) rfl (rfl : vwCl[12]? = some (RX12, TX12, 58)) inX12 (by decide) g1022) ?_
  refine q_fa (ok_if2ge (by decide +kernel : decode cX12_read 51 = .ok (.if_icmp .ge 8, 3)) (by decide) rfl) ?_
  refine q_fa (ok_aload_n (by decide +kernel : decode cX12_read 54 = .ok (.aload_n 0, 1)) rfl rfl) ?_
  refine q_fa (ok_callV (by decide +kernel : decode cX12_read 55 = .ok (.invokevirtual 223, 3)) rfl kX12_wrong.1 kX12_wrong.2.1 kX12_wrong.2.2.1 kX12_wrong.2.2.2.1 kX12_wrong.2.2.2.2 (rfl : vwCl[12]? = some (RX12, TX12, 58)) g1231 gs55 g1229) ?_
  refine q_fa (ok_istore_n (by decide +kernel : decode cX12_read 58 = .ok (.istore_n 2, 1)) rfl rfl (by decide)) ?_
  refine q_fa (ok_aload_n (by decide +kernel : decode cX12_read 59 = .ok (.aload_n 0, 1)) rfl rfl) ?_
  refine q_fa (ok_iconst (by decide +kernel : decode cX12_read 60 = .ok (.iconst 0, 1)) rfl (by decide +kernel)) ?_
  refine q_fa (ok_putI tyX12 (by decide +kernel : decode cX12_read 61 = .ok (.putfield 186, 3)) rfl (rfl : vwCl[12]? = some (RX12, TX12, 58)) inX12 tyX12_ok nmX12 (by decide) g1022 (Or.inl rfl) (by decide +kernel)) ?_
  refine q_fa (ok_aload_n (by decide +kernel : decode cX12_read 64 = .ok (.aload_n 0, 1)) rfl rfl) ?_
  refine q_fa (ok_get (by decide +kernel : decode cX12_read 65 = .ok (.getfield 192, 3)) rfl (rfl : vwCl[12]? = some (RX12, TX12, 58)) inX12 (by decide) g1024) ?_
  refine q_fa (ok_if1lt (by decide +kernel : decode cX12_read 68 = .ok (.ifCond .lt 11, 3)) (by decide) rfl) ?_
  refine q_fa (ok_bipush (by decide +kernel : decode cX12_read 71 = .ok (.bipush (-100), 2)) rfl (by decide +kernel)) ?_
  refine q_fa (ok_aload_n (by decide +kernel : decode cX12_read 73 = .ok (.aload_n 0, 1)) rfl rfl) ?_
  refine q_fa (ok_get (by decide +kernel : decode cX12_read 74 = .ok (.getfield 192, 3)) rfl (rfl : vwCl[12]? = some (RX12, TX12, 58)) inX12 (by decide) g1024) ?_
  refine q_fa (ok_isub (by decide +kernel : decode cX12_read 77 = .ok (.isub, 1)) rfl) ?_
  refine q_fa (ok_iret (by decide +kernel : decode cX12_read 78 = .ok (.ireturn, 1)) rfl) ?_
  refine q_fa (ok_aload_n (by decide +kernel : decode cX12_read 79 = .ok (.aload_n 0, 1)) rfl rfl) ?_
  refine q_fa (ok_get (by decide +kernel : decode cX12_read 80 = .ok (.getfield 28, 3)) rfl (rfl : vwCl[12]? = some (RX12, TX12, 58)) inX12 (by decide) g1012) ?_
  refine q_fa (ok_iload_n (by decide +kernel : decode cX12_read 83 = .ok (.iload_n 2, 1)) rfl rfl) ?_
  refine q_fa (ok_iaload (by decide +kernel : decode cX12_read 84 = .ok (.iaload, 1)) rfl) ?_
  refine q_fa (ok_bipush (by decide +kernel : decode cX12_read 85 = .ok (.bipush 12, 2)) rfl (by decide +kernel)) ?_
  refine q_fa (ok_if2le (by decide +kernel : decode cX12_read 87 = .ok (.if_icmp .le 7, 3)) (by decide) rfl) ?_
  refine q_fa (ok_sipush (by decide +kernel : decode cX12_read 90 = .ok (.sipush (-1000), 3)) rfl (by decide +kernel)) ?_
  refine q_fa (ok_iret (by decide +kernel : decode cX12_read 93 = .ok (.ireturn, 1)) rfl) ?_
  refine q_fa (ok_aload_n (by decide +kernel : decode cX12_read 94 = .ok (.aload_n 0, 1)) rfl rfl) ?_
  refine q_fa (ok_iload_n (by decide +kernel : decode cX12_read 95 = .ok (.iload_n 1, 1)) rfl rfl) ?_
  refine q_fa (ok_iload_n (by decide +kernel : decode cX12_read 96 = .ok (.iload_n 2, 1)) rfl rfl) ?_
  refine q_fa (ok_callV (by decide +kernel : decode cX12_read 97 = .ok (.invokevirtual 226, 3)) rfl kX12_put.1 kX12_put.2.1 kX12_put.2.2.1 kX12_put.2.2.2.1 kX12_put.2.2.2.2 (rfl : vwCl[12]? = some (RX12, TX12, 58)) g1243 gs58 g1241) ?_
  refine q_fa (ok_aload_n (by decide +kernel : decode cX12_read 100 = .ok (.aload_n 0, 1)) rfl rfl) ?_
  refine q_fa (ok_get (by decide +kernel : decode cX12_read 101 = .ok (.getfield 25, 3)) rfl (rfl : vwCl[12]? = some (RX12, TX12, 58)) inX12 (by decide) g1011) ?_
  refine q_fa (ok_iload_n (by decide +kernel : decode cX12_read 104 = .ok (.iload_n 2, 1)) rfl rfl) ?_
  refine q_fa (ok_iaload (by decide +kernel : decode cX12_read 105 = .ok (.iaload, 1)) rfl) ?_
  refine q_fa (ok_iret (by decide +kernel : decode cX12_read 106 = .ok (.ireturn, 1)) rfl) ?_
  exact q_fa0
theorem exX12_read : ∃ t : Nat → qP, t = uX12_read := ⟨_, rfl⟩
noncomputable def tX12_read : Nat → qP := Classical.choose exX12_read
theorem teX12_read : tX12_read = uX12_read := Classical.choose_spec exX12_read
theorem sX12_read : q_Snd mX12_read tX12_read := by rw [teX12_read]; exact suX12_read
theorem tX12_read_0 : tX12_read 0 = oIl 1 1 := (congrFun teX12_read 0).trans rfl
theorem tX12_read_1 : tX12_read 1 = oCallS mX12_isPlace 1 4 := (congrFun teX12_read 1).trans rfl
theorem tX12_read_4 : tX12_read 4 = oIf1ne 9 7 := (congrFun teX12_read 4).trans rfl
theorem tX12_read_7 : tX12_read 7 = oK (.int (-1)) 8 := (congrFun teX12_read 7).trans rfl
theorem tX12_read_8 : tX12_read 8 = oIret := (congrFun teX12_read 8).trans rfl
theorem tX12_read_9 : tX12_read 9 = oAl 0 10 := (congrFun teX12_read 9).trans rfl
theorem tX12_read_10 : tX12_read 10 = oK (.int (nI 0)) 11 := (congrFun teX12_read 10).trans rfl
theorem tX12_read_11 : tX12_read 11 = oPutI 12 19 14 := (congrFun teX12_read 11).trans rfl
theorem tX12_read_14 : tX12_read 14 = oAl 0 15 := (congrFun teX12_read 14).trans rfl
theorem tX12_read_15 : tX12_read 15 = oK (.int (-1)) 16 := (congrFun teX12_read 15).trans rfl
theorem tX12_read_16 : tX12_read 16 = oPutI 12 20 19 := (congrFun teX12_read 16).trans rfl
theorem tX12_read_19 : tX12_read 19 = oAl 0 20 := (congrFun teX12_read 19).trans rfl
theorem tX12_read_20 : tX12_read 20 = oK (.int (nI 0)) 21 := (congrFun teX12_read 20).trans rfl
theorem tX12_read_21 : tX12_read 21 = oPutI 12 21 24 := (congrFun teX12_read 21).trans rfl
theorem tX12_read_24 : tX12_read 24 = oAl 0 25 := (congrFun teX12_read 24).trans rfl
theorem tX12_read_25 : tX12_read 25 = oK (.int (nI 6000)) 28 := (congrFun teX12_read 25).trans rfl
theorem tX12_read_28 : tX12_read 28 = oPutI 12 10 31 := (congrFun teX12_read 28).trans rfl
theorem tX12_read_31 : tX12_read 31 = oAl 0 32 := (congrFun teX12_read 31).trans rfl
theorem tX12_read_32 : tX12_read 32 = oCallV 12 mX12_either 0 35 := (congrFun teX12_read 32).trans rfl
theorem tX12_read_35 : tX12_read 35 = oIs 2 36 := (congrFun teX12_read 35).trans rfl
theorem tX12_read_36 : tX12_read 36 = oAl 0 37 := (congrFun teX12_read 36).trans rfl
theorem tX12_read_37 : tX12_read 37 = oGet 12 20 40 := (congrFun teX12_read 37).trans rfl
theorem tX12_read_40 : tX12_read 40 = oIf1ge 59 43 := (congrFun teX12_read 40).trans rfl
theorem tX12_read_43 : tX12_read 43 = oAl 0 44 := (congrFun teX12_read 43).trans rfl
theorem tX12_read_44 : tX12_read 44 = oGet 12 19 47 := (congrFun teX12_read 44).trans rfl
theorem tX12_read_47 : tX12_read 47 = oAl 0 48 := (congrFun teX12_read 47).trans rfl
theorem tX12_read_48 : tX12_read 48 = oGet 12 18 51 := (congrFun teX12_read 48).trans rfl
theorem tX12_read_51 : tX12_read 51 = oIf2ge 59 54 := (congrFun teX12_read 51).trans rfl
theorem tX12_read_54 : tX12_read 54 = oAl 0 55 := (congrFun teX12_read 54).trans rfl
theorem tX12_read_55 : tX12_read 55 = oCallV 12 mX12_wrong 0 58 := (congrFun teX12_read 55).trans rfl
theorem tX12_read_58 : tX12_read 58 = oIs 2 59 := (congrFun teX12_read 58).trans rfl
theorem tX12_read_59 : tX12_read 59 = oAl 0 60 := (congrFun teX12_read 59).trans rfl
theorem tX12_read_60 : tX12_read 60 = oK (.int (nI 0)) 61 := (congrFun teX12_read 60).trans rfl
theorem tX12_read_61 : tX12_read 61 = oPutI 12 18 64 := (congrFun teX12_read 61).trans rfl
theorem tX12_read_64 : tX12_read 64 = oAl 0 65 := (congrFun teX12_read 64).trans rfl
theorem tX12_read_65 : tX12_read 65 = oGet 12 20 68 := (congrFun teX12_read 65).trans rfl
theorem tX12_read_68 : tX12_read 68 = oIf1lt 79 71 := (congrFun teX12_read 68).trans rfl
theorem tX12_read_71 : tX12_read 71 = oK (.int (-100)) 73 := (congrFun teX12_read 71).trans rfl
theorem tX12_read_73 : tX12_read 73 = oAl 0 74 := (congrFun teX12_read 73).trans rfl
theorem tX12_read_74 : tX12_read 74 = oGet 12 20 77 := (congrFun teX12_read 74).trans rfl
theorem tX12_read_77 : tX12_read 77 = oSub 78 := (congrFun teX12_read 77).trans rfl
theorem tX12_read_78 : tX12_read 78 = oIret := (congrFun teX12_read 78).trans rfl
theorem tX12_read_79 : tX12_read 79 = oAl 0 80 := (congrFun teX12_read 79).trans rfl
theorem tX12_read_80 : tX12_read 80 = oGet 12 8 83 := (congrFun teX12_read 80).trans rfl
theorem tX12_read_83 : tX12_read 83 = oIl 2 84 := (congrFun teX12_read 83).trans rfl
theorem tX12_read_84 : tX12_read 84 = oIald 85 := (congrFun teX12_read 84).trans rfl
theorem tX12_read_85 : tX12_read 85 = oK (.int (nI 12)) 87 := (congrFun teX12_read 85).trans rfl
theorem tX12_read_87 : tX12_read 87 = oIf2le 94 90 := (congrFun teX12_read 87).trans rfl
theorem tX12_read_90 : tX12_read 90 = oK (.int (-1000)) 93 := (congrFun teX12_read 90).trans rfl
theorem tX12_read_93 : tX12_read 93 = oIret := (congrFun teX12_read 93).trans rfl
theorem tX12_read_94 : tX12_read 94 = oAl 0 95 := (congrFun teX12_read 94).trans rfl
theorem tX12_read_95 : tX12_read 95 = oIl 1 96 := (congrFun teX12_read 95).trans rfl
theorem tX12_read_96 : tX12_read 96 = oIl 2 97 := (congrFun teX12_read 96).trans rfl
theorem tX12_read_97 : tX12_read 97 = oCallV 12 mX12_put 2 100 := (congrFun teX12_read 97).trans rfl
theorem tX12_read_100 : tX12_read 100 = oAl 0 101 := (congrFun teX12_read 100).trans rfl
theorem tX12_read_101 : tX12_read 101 = oGet 12 7 104 := (congrFun teX12_read 101).trans rfl
theorem tX12_read_104 : tX12_read 104 = oIl 2 105 := (congrFun teX12_read 104).trans rfl
theorem tX12_read_105 : tX12_read 105 = oIald 106 := (congrFun teX12_read 105).trans rfl
theorem tX12_read_106 : tX12_read 106 = oIret := (congrFun teX12_read 106).trans rfl
def lX12_sign : List (Nat × qP) := [(0, oAl 0 1), (1, oGet 12 23 4), (4, oAl 0 5), (5, oGet 12 22 8), (8, oIl 1 9), (9, oIast 10), (10, oAl 0 11), (11, oDup 12), (12, oGet 12 22 15), (15, oK (.int (nI 1)) 16), (16, oAdd 17), (17, oPutI 12 22 20), (20, oVret)]
def uX12_sign : Nat → qP := q_tb lX12_sign
set_option maxRecDepth 20000 in
theorem suX12_sign : q_Snd mX12_sign uX12_sign := by
  refine q_tb_ok ?_
  unfold lX12_sign
  refine q_fa (ok_aload_n (by decide +kernel : decode cX12_sign 0 = .ok (.aload_n 0, 1)) rfl rfl) ?_
  refine q_fa (ok_get (by decide +kernel : decode cX12_sign 1 = .ok (.getfield 54, 3)) rfl (rfl : vwCl[12]? = some (RX12, TX12, 58)) inX12 (by decide) g1027) ?_
  refine q_fa (ok_aload_n (by decide +kernel : decode cX12_sign 4 = .ok (.aload_n 0, 1)) rfl rfl) ?_
  refine q_fa (ok_get (by decide +kernel : decode cX12_sign 5 = .ok (.getfield 230, 3)) rfl (rfl : vwCl[12]? = some (RX12, TX12, 58)) inX12 (by decide) g1026) ?_
  refine q_fa (ok_iload_n (by decide +kernel : decode cX12_sign 8 = .ok (.iload_n 1, 1)) rfl rfl) ?_
  refine q_fa (ok_iastore (by decide +kernel : decode cX12_sign 9 = .ok (.iastore, 1)) rfl) ?_
  refine q_fa (ok_aload_n (by decide +kernel : decode cX12_sign 10 = .ok (.aload_n 0, 1)) rfl rfl) ?_
  refine q_fa (ok_dup (by decide +kernel : decode cX12_sign 11 = .ok (.dup, 1)) rfl) ?_
  refine q_fa (ok_get (by decide +kernel : decode cX12_sign 12 = .ok (.getfield 230, 3)) rfl (rfl : vwCl[12]? = some (RX12, TX12, 58)) inX12 (by decide) g1026) ?_
  refine q_fa (ok_iconst (by decide +kernel : decode cX12_sign 15 = .ok (.iconst 1, 1)) rfl (by decide +kernel)) ?_
  refine q_fa (ok_iadd (by decide +kernel : decode cX12_sign 16 = .ok (.iadd, 1)) rfl) ?_
  refine q_fa (ok_putI tyX12 (by decide +kernel : decode cX12_sign 17 = .ok (.putfield 230, 3)) rfl (rfl : vwCl[12]? = some (RX12, TX12, 58)) inX12 tyX12_ok nmX12 (by decide) g1026 (Or.inl rfl) (by decide +kernel)) ?_
  refine q_fa (ok_vret (by decide +kernel : decode cX12_sign 20 = .ok (.return_, 1)) rfl) ?_
  exact q_fa0
theorem exX12_sign : ∃ t : Nat → qP, t = uX12_sign := ⟨_, rfl⟩
noncomputable def tX12_sign : Nat → qP := Classical.choose exX12_sign
theorem teX12_sign : tX12_sign = uX12_sign := Classical.choose_spec exX12_sign
theorem sX12_sign : q_Snd mX12_sign tX12_sign := by rw [teX12_sign]; exact suX12_sign
theorem tX12_sign_0 : tX12_sign 0 = oAl 0 1 := (congrFun teX12_sign 0).trans rfl
theorem tX12_sign_1 : tX12_sign 1 = oGet 12 23 4 := (congrFun teX12_sign 1).trans rfl
theorem tX12_sign_4 : tX12_sign 4 = oAl 0 5 := (congrFun teX12_sign 4).trans rfl
theorem tX12_sign_5 : tX12_sign 5 = oGet 12 22 8 := (congrFun teX12_sign 5).trans rfl
theorem tX12_sign_8 : tX12_sign 8 = oIl 1 9 := (congrFun teX12_sign 8).trans rfl
theorem tX12_sign_9 : tX12_sign 9 = oIast 10 := (congrFun teX12_sign 9).trans rfl
theorem tX12_sign_10 : tX12_sign 10 = oAl 0 11 := (congrFun teX12_sign 10).trans rfl
theorem tX12_sign_11 : tX12_sign 11 = oDup 12 := (congrFun teX12_sign 11).trans rfl
theorem tX12_sign_12 : tX12_sign 12 = oGet 12 22 15 := (congrFun teX12_sign 12).trans rfl
theorem tX12_sign_15 : tX12_sign 15 = oK (.int (nI 1)) 16 := (congrFun teX12_sign 15).trans rfl
theorem tX12_sign_16 : tX12_sign 16 = oAdd 17 := (congrFun teX12_sign 16).trans rfl
theorem tX12_sign_17 : tX12_sign 17 = oPutI 12 22 20 := (congrFun teX12_sign 17).trans rfl
theorem tX12_sign_20 : tX12_sign 20 = oVret := (congrFun teX12_sign 20).trans rfl
def lX12_sayIn : List (Nat × qP) := [(0, oIl 2 1), (1, oIf1eq 10 4), (4, oAl 0 5), (5, oK (.int (nI 40)) 7), (7, oCallV 12 mX12_sign 1 10), (10, oAl 0 11), (11, oIl 1 12), (12, oCallV 12 mX12_say0 1 15), (15, oIl 2 16), (16, oIf1eq 25 19), (19, oAl 0 20), (20, oK (.int (nI 41)) 22), (22, oCallV 12 mX12_sign 1 25), (25, oVret)]
def uX12_sayIn : Nat → qP := q_tb lX12_sayIn
set_option maxRecDepth 20000 in
theorem suX12_sayIn : q_Snd mX12_sayIn uX12_sayIn := by
  refine q_tb_ok ?_
  unfold lX12_sayIn
  refine q_fa (ok_iload_n (by decide +kernel : decode cX12_sayIn 0 = .ok (.iload_n 2, 1)) rfl rfl) ?_
  refine q_fa (ok_if1eq (by decide +kernel : decode cX12_sayIn 1 = .ok (.ifCond .eq 9, 3)) (by decide) rfl) ?_
  refine q_fa (ok_aload_n (by decide +kernel : decode cX12_sayIn 4 = .ok (.aload_n 0, 1)) rfl rfl) ?_
  refine q_fa (ok_bipush (by decide +kernel : decode cX12_sayIn 5 = .ok (.bipush 40, 2)) rfl (by decide +kernel)) ?_
  refine q_fa (ok_callV (by decide +kernel : decode cX12_sayIn 7 = .ok (.invokevirtual 233, 3)) rfl kX12_sign.1 kX12_sign.2.1 kX12_sign.2.2.1 kX12_sign.2.2.2.1 kX12_sign.2.2.2.2 (rfl : vwCl[12]? = some (RX12, TX12, 58)) g1271 gs64 g1269) ?_
  refine q_fa (ok_aload_n (by decide +kernel : decode cX12_sayIn 10 = .ok (.aload_n 0, 1)) rfl rfl) ?_
  refine q_fa (ok_iload_n (by decide +kernel : decode cX12_sayIn 11 = .ok (.iload_n 1, 1)) rfl rfl) ?_
  refine q_fa (ok_callV (by decide +kernel : decode cX12_sayIn 12 = .ok (.invokevirtual 236, 3)) rfl kX12_say0.1 kX12_say0.2.1 kX12_say0.2.2.1 kX12_say0.2.2.2.1 kX12_say0.2.2.2.2 (rfl : vwCl[12]? = some (RX12, TX12, 58)) g1267 gs63 g1265) ?_
  refine q_fa (ok_iload_n (by decide +kernel : decode cX12_sayIn 15 = .ok (.iload_n 2, 1)) rfl rfl) ?_
  refine q_fa (ok_if1eq (by decide +kernel : decode cX12_sayIn 16 = .ok (.ifCond .eq 9, 3)) (by decide) rfl) ?_
  refine q_fa (ok_aload_n (by decide +kernel : decode cX12_sayIn 19 = .ok (.aload_n 0, 1)) rfl rfl) ?_
  refine q_fa (ok_bipush (by decide +kernel : decode cX12_sayIn 20 = .ok (.bipush 41, 2)) rfl (by decide +kernel)) ?_
  refine q_fa (ok_callV (by decide +kernel : decode cX12_sayIn 22 = .ok (.invokevirtual 233, 3)) rfl kX12_sign.1 kX12_sign.2.1 kX12_sign.2.2.1 kX12_sign.2.2.2.1 kX12_sign.2.2.2.2 (rfl : vwCl[12]? = some (RX12, TX12, 58)) g1271 gs64 g1269) ?_
  refine q_fa (ok_vret (by decide +kernel : decode cX12_sayIn 25 = .ok (.return_, 1)) rfl) ?_
  exact q_fa0
theorem exX12_sayIn : ∃ t : Nat → qP, t = uX12_sayIn := ⟨_, rfl⟩
noncomputable def tX12_sayIn : Nat → qP := Classical.choose exX12_sayIn
theorem teX12_sayIn : tX12_sayIn = uX12_sayIn := Classical.choose_spec exX12_sayIn
theorem sX12_sayIn : q_Snd mX12_sayIn tX12_sayIn := by rw [teX12_sayIn]; exact suX12_sayIn
theorem tX12_sayIn_0 : tX12_sayIn 0 = oIl 2 1 := (congrFun teX12_sayIn 0).trans rfl
theorem tX12_sayIn_1 : tX12_sayIn 1 = oIf1eq 10 4 := (congrFun teX12_sayIn 1).trans rfl
theorem tX12_sayIn_4 : tX12_sayIn 4 = oAl 0 5 := (congrFun teX12_sayIn 4).trans rfl
theorem tX12_sayIn_5 : tX12_sayIn 5 = oK (.int (nI 40)) 7 := (congrFun teX12_sayIn 5).trans rfl
theorem tX12_sayIn_7 : tX12_sayIn 7 = oCallV 12 mX12_sign 1 10 := (congrFun teX12_sayIn 7).trans rfl
theorem tX12_sayIn_10 : tX12_sayIn 10 = oAl 0 11 := (congrFun teX12_sayIn 10).trans rfl
theorem tX12_sayIn_11 : tX12_sayIn 11 = oIl 1 12 := (congrFun teX12_sayIn 11).trans rfl
theorem tX12_sayIn_12 : tX12_sayIn 12 = oCallV 12 mX12_say0 1 15 := (congrFun teX12_sayIn 12).trans rfl
theorem tX12_sayIn_15 : tX12_sayIn 15 = oIl 2 16 := (congrFun teX12_sayIn 15).trans rfl
theorem tX12_sayIn_16 : tX12_sayIn 16 = oIf1eq 25 19 := (congrFun teX12_sayIn 16).trans rfl
theorem tX12_sayIn_19 : tX12_sayIn 19 = oAl 0 20 := (congrFun teX12_sayIn 19).trans rfl
theorem tX12_sayIn_20 : tX12_sayIn 20 = oK (.int (nI 41)) 22 := (congrFun teX12_sayIn 20).trans rfl
theorem tX12_sayIn_22 : tX12_sayIn 22 = oCallV 12 mX12_sign 1 25 := (congrFun teX12_sayIn 22).trans rfl
theorem tX12_sayIn_25 : tX12_sayIn 25 = oVret := (congrFun teX12_sayIn 25).trans rfl
def lX12_say0 : List (Nat × qP) := [(0, oAl 0 1), (1, oGet 12 3 4), (4, oIl 1 5), (5, oIald 6), (6, oIs 2 7), (7, oIl 2 8), (8, oIf1ne 27 11), (11, oAl 0 12), (12, oK (.int (nI 97)) 14), (14, oAl 0 15), (15, oGet 12 4 18), (18, oIl 1 19), (19, oIald 20), (20, oAdd 21), (21, oCallV 12 mX12_sign 1 24), (24, oGo 265), (27, oIl 2 28), (28, oK (.int (nI 1)) 29), (29, oIf2ne 82 32), (32, oAl 0 33), (33, oK (.int (nI 91)) 35), (35, oCallV 12 mX12_sign 1 38), (38, oK (.int (nI 0)) 39), (39, oIs 3 40), (40, oIl 3 41), (41, oK (.int (nI 3)) 42), (42, oIf2ge 73 45), (45, oAl 0 46), (46, oGet 12 4 49), (49, oIl 1 50), (50, oIald 51), (51, oIl 3 52), (52, oShr 53), (53, oK (.int (nI 1)) 54), (54, oAnd 55), (55, oK (.int (nI 1)) 56), (56, oIf2ne 67 59), (59, oAl 0 60), (60, oK (.int (nI 97)) 62), (62, oIl 3 63), (63, oAdd 64), (64, oCallV 12 mX12_sign 1 67), (67, oInc 3 (nI 1) 70), (70, oGo 40), (73, oAl 0 74), (74, oK (.int (nI 93)) 76), (76, oCallV 12 mX12_sign 1 79), (79, oGo 265), (82, oIl 2 83), (83, oK (.int (nI 2)) 84), (84, oIf2ne 150 87), (87, oAl 0 88), (88, oAl 0 89), (89, oGet 12 5 92), (92, oIl 1 93), (93, oIald 94), (94, oAl 0 95), (95, oGet 12 3 98), (98, oAl 0 99), (99, oGet 12 5 102), (102, oIl 1 103), (103, oIald 104), (104, oIald 105), (105, oK (.int (nI 3)) 106), (106, oIf2ne 113 109), (109, oK (.int (nI 1)) 110), (110, oGo 114), (113, oK (.int (nI 0)) 114), (114, oCallV 12 mX12_sayIn 2 117), (117, oAl 0 118), (118, oAl 0 119), (119, oGet 12 6 122), (122, oIl 1 123), (123, oIald 124), (124, oAl 0 125), (125, oGet 12 3 128), (128, oAl 0 129), (129, oGet 12 6 132), (132, oIl 1 133), (133, oIald 134), (134, oIald 135), (135, oK (.int (nI 3)) 136), (136, oIf2ne 143 139), (139, oK (.int (nI 1)) 140), (140, oGo 144), (143, oK (.int (nI 0)) 144), (144, oCallV 12 mX12_sayIn 2 147), (147, oGo 265), (150, oIl 2 151), (151, oK (.int (nI 3)) 152), (152, oIf2ne 204 155), (155, oAl 0 156), (156, oAl 0 157), (157, oGet 12 5 160), (160, oIl 1 161), (161, oIald 162), (162, oAl 0 163), (163, oGet 12 3 166), (166, oAl 0 167), (167, oGet 12 5 170), (170, oIl 1 171), (171, oIald 172), (172, oIald 173), (173, oK (.int (nI 3)) 174), (174, oIf2ne 181 177), (177, oK (.int (nI 1)) 178), (178, oGo 182), (181, oK (.int (nI 0)) 182), (182, oCallV 12 mX12_sayIn 2 185), (185, oAl 0 186), (186, oK (.int (nI 124)) 188), (188, oCallV 12 mX12_sign 1 191), (191, oAl 0 192), (192, oAl 0 193), (193, oGet 12 6 196), (196, oIl 1 197), (197, oIald 198), (198, oCallV 12 mX12_say0 1 201), (201, oGo 265), (204, oAl 0 205), (205, oAl 0 206), (206, oGet 12 5 209), (209, oIl 1 210), (210, oIald 211), (211, oAl 0 212), (212, oGet 12 3 215), (215, oAl 0 216), (216, oGet 12 5 219), (219, oIl 1 220), (220, oIald 221), (221, oIald 222), (222, oK (.int (nI 2)) 223), (223, oIf2eq 241 226), (226, oAl 0 227), (227, oGet 12 3 230), (230, oAl 0 231), (231, oGet 12 5 234), (234, oIl 1 235), (235, oIald 236), (236, oIald 237), (237, oK (.int (nI 3)) 238), (238, oIf2ne 245 241), (241, oK (.int (nI 1)) 242), (242, oGo 246), (245, oK (.int (nI 0)) 246), (246, oCallV 12 mX12_sayIn 2 249), (249, oAl 0 250), (250, oIl 2 251), (251, oK (.int (nI 4)) 252), (252, oIf2ne 260 255), (255, oK (.int (nI 43)) 257), (257, oGo 262), (260, oK (.int (nI 63)) 262), (262, oCallV 12 mX12_sign 1 265), (265, oVret)]
def uX12_say0 : Nat → qP := q_tb lX12_say0
set_option maxRecDepth 20000 in
theorem suX12_say0 : q_Snd mX12_say0 uX12_say0 := by
  refine q_tb_ok ?_
  unfold lX12_say0
  refine q_fa (ok_aload_n (by decide +kernel : decode cX12_say0 0 = .ok (.aload_n 0, 1)) rfl rfl) ?_
  refine q_fa (ok_get (by decide +kernel : decode cX12_say0 1 = .ok (.getfield 13, 3)) rfl (rfl : vwCl[12]? = some (RX12, TX12, 58)) inX12 (by decide) g1007) ?_
  refine q_fa (ok_iload_n (by decide +kernel : decode cX12_say0 4 = .ok (.iload_n 1, 1)) rfl rfl) ?_
  refine q_fa (ok_iaload (by decide +kernel : decode cX12_say0 5 = .ok (.iaload, 1)) rfl) ?_
  refine q_fa (ok_istore_n (by decide +kernel : decode cX12_say0 6 = .ok (.istore_n 2, 1)) rfl rfl (by decide)) ?_
  refine q_fa (ok_iload_n (by decide +kernel : decode cX12_say0 7 = .ok (.iload_n 2, 1)) rfl rfl) ?_
  refine q_fa (ok_if1ne (by decide +kernel : decode cX12_say0 8 = .ok (.ifCond .ne 19, 3)) (by decide) rfl) ?_
  refine q_fa (ok_aload_n (by decide +kernel : decode cX12_say0 11 = .ok (.aload_n 0, 1)) rfl rfl) ?_
  refine q_fa (ok_bipush (by decide +kernel : decode cX12_say0 12 = .ok (.bipush 97, 2)) rfl (by decide +kernel)) ?_
  refine q_fa (ok_aload_n (by decide +kernel : decode cX12_say0 14 = .ok (.aload_n 0, 1)) rfl rfl) ?_
  refine q_fa (ok_get (by decide +kernel : decode cX12_say0 15 = .ok (.getfield 16, 3)) rfl (rfl : vwCl[12]? = some (RX12, TX12, 58)) inX12 (by decide) g1008) ?_
  refine q_fa (ok_iload_n (by decide +kernel : decode cX12_say0 18 = .ok (.iload_n 1, 1)) rfl rfl) ?_
  refine q_fa (ok_iaload (by decide +kernel : decode cX12_say0 19 = .ok (.iaload, 1)) rfl) ?_
  refine q_fa (ok_iadd (by decide +kernel : decode cX12_say0 20 = .ok (.iadd, 1)) rfl) ?_
  refine q_fa (ok_callV (by decide +kernel : decode cX12_say0 21 = .ok (.invokevirtual 233, 3)) rfl kX12_sign.1 kX12_sign.2.1 kX12_sign.2.2.1 kX12_sign.2.2.2.1 kX12_sign.2.2.2.2 (rfl : vwCl[12]? = some (RX12, TX12, 58)) g1271 gs64 g1269) ?_
  refine q_fa (ok_goto (by decide +kernel : decode cX12_say0 24 = .ok (.goto 241, 3)) (by decide)) ?_
  refine q_fa (ok_iload_n (by decide +kernel : decode cX12_say0 27 = .ok (.iload_n 2, 1)) rfl rfl) ?_
  refine q_fa (ok_iconst (by decide +kernel : decode cX12_say0 28 = .ok (.iconst 1, 1)) rfl (by decide +kernel)) ?_
  refine q_fa (ok_if2ne (by decide +kernel : decode cX12_say0 29 = .ok (.if_icmp .ne 53, 3)) (by decide) rfl) ?_
  refine q_fa (ok_aload_n (by decide +kernel : decode cX12_say0 32 = .ok (.aload_n 0, 1)) rfl rfl) ?_
  refine q_fa (ok_bipush (by decide +kernel : decode cX12_say0 33 = .ok (.bipush 91, 2)) rfl (by decide +kernel)) ?_
  refine q_fa (ok_callV (by decide +kernel : decode cX12_say0 35 = .ok (.invokevirtual 233, 3)) rfl kX12_sign.1 kX12_sign.2.1 kX12_sign.2.2.1 kX12_sign.2.2.2.1 kX12_sign.2.2.2.2 (rfl : vwCl[12]? = some (RX12, TX12, 58)) g1271 gs64 g1269) ?_
  refine q_fa (ok_iconst (by decide +kernel : decode cX12_say0 38 = .ok (.iconst 0, 1)) rfl (by decide +kernel)) ?_
  refine q_fa (ok_istore_n (by decide +kernel : decode cX12_say0 39 = .ok (.istore_n 3, 1)) rfl rfl (by decide)) ?_
  refine q_fa (ok_iload_n (by decide +kernel : decode cX12_say0 40 = .ok (.iload_n 3, 1)) rfl rfl) ?_
  refine q_fa (ok_iconst (by decide +kernel : decode cX12_say0 41 = .ok (.iconst 3, 1)) rfl (by decide +kernel)) ?_
  refine q_fa (ok_if2ge (by decide +kernel : decode cX12_say0 42 = .ok (.if_icmp .ge 31, 3)) (by decide) rfl) ?_
  refine q_fa (ok_aload_n (by decide +kernel : decode cX12_say0 45 = .ok (.aload_n 0, 1)) rfl rfl) ?_
  refine q_fa (ok_get (by decide +kernel : decode cX12_say0 46 = .ok (.getfield 16, 3)) rfl (rfl : vwCl[12]? = some (RX12, TX12, 58)) inX12 (by decide) g1008) ?_
  refine q_fa (ok_iload_n (by decide +kernel : decode cX12_say0 49 = .ok (.iload_n 1, 1)) rfl rfl) ?_
  refine q_fa (ok_iaload (by decide +kernel : decode cX12_say0 50 = .ok (.iaload, 1)) rfl) ?_
  refine q_fa (ok_iload_n (by decide +kernel : decode cX12_say0 51 = .ok (.iload_n 3, 1)) rfl rfl) ?_
  refine q_fa (ok_ishr (by decide +kernel : decode cX12_say0 52 = .ok (.ishr, 1)) rfl) ?_
  refine q_fa (ok_iconst (by decide +kernel : decode cX12_say0 53 = .ok (.iconst 1, 1)) rfl (by decide +kernel)) ?_
  refine q_fa (ok_iand (by decide +kernel : decode cX12_say0 54 = .ok (.iand, 1)) rfl) ?_
  refine q_fa (ok_iconst (by decide +kernel : decode cX12_say0 55 = .ok (.iconst 1, 1)) rfl (by decide +kernel)) ?_
  refine q_fa (ok_if2ne (by decide +kernel : decode cX12_say0 56 = .ok (.if_icmp .ne 11, 3)) (by decide) rfl) ?_
  refine q_fa (ok_aload_n (by decide +kernel : decode cX12_say0 59 = .ok (.aload_n 0, 1)) rfl rfl) ?_
  refine q_fa (ok_bipush (by decide +kernel : decode cX12_say0 60 = .ok (.bipush 97, 2)) rfl (by decide +kernel)) ?_
  refine q_fa (ok_iload_n (by decide +kernel : decode cX12_say0 62 = .ok (.iload_n 3, 1)) rfl rfl) ?_
  refine q_fa (ok_iadd (by decide +kernel : decode cX12_say0 63 = .ok (.iadd, 1)) rfl) ?_
  refine q_fa (ok_callV (by decide +kernel : decode cX12_say0 64 = .ok (.invokevirtual 233, 3)) rfl kX12_sign.1 kX12_sign.2.1 kX12_sign.2.2.1 kX12_sign.2.2.2.1 kX12_sign.2.2.2.2 (rfl : vwCl[12]? = some (RX12, TX12, 58)) g1271 gs64 g1269) ?_
  refine q_fa (ok_iinc (by decide +kernel : decode cX12_say0 67 = .ok (.iinc 3 1, 3)) rfl (by decide +kernel) (by decide)) ?_
  refine q_fa (ok_goto (by decide +kernel : decode cX12_say0 70 = .ok (.goto (-30), 3)) (by decide)) ?_
  refine q_fa (ok_aload_n (by decide +kernel : decode cX12_say0 73 = .ok (.aload_n 0, 1)) rfl rfl) ?_
  refine q_fa (ok_bipush (by decide +kernel : decode cX12_say0 74 = .ok (.bipush 93, 2)) rfl (by decide +kernel)) ?_
  refine q_fa (ok_callV (by decide +kernel : decode cX12_say0 76 = .ok (.invokevirtual 233, 3)) rfl kX12_sign.1 kX12_sign.2.1 kX12_sign.2.2.1 kX12_sign.2.2.2.1 kX12_sign.2.2.2.2 (rfl : vwCl[12]? = some (RX12, TX12, 58)) g1271 gs64 g1269) ?_
  refine q_fa (ok_goto (by decide +kernel : decode cX12_say0 79 = .ok (.goto 186, 3)) (by decide)) ?_
  refine q_fa (ok_iload_n (by decide +kernel : decode cX12_say0 82 = .ok (.iload_n 2, 1)) rfl rfl) ?_
  refine q_fa (ok_iconst (by decide +kernel : decode cX12_say0 83 = .ok (.iconst 2, 1)) rfl (by decide +kernel)) ?_
  refine q_fa (ok_if2ne (by decide +kernel : decode cX12_say0 84 = .ok (.if_icmp .ne 66, 3)) (by decide) rfl) ?_
  refine q_fa (ok_aload_n (by decide +kernel : decode cX12_say0 87 = .ok (.aload_n 0, 1)) rfl rfl) ?_
  refine q_fa (ok_aload_n (by decide +kernel : decode cX12_say0 88 = .ok (.aload_n 0, 1)) rfl rfl) ?_
  refine q_fa (ok_get (by decide +kernel : decode cX12_say0 89 = .ok (.getfield 19, 3)) rfl (rfl : vwCl[12]? = some (RX12, TX12, 58)) inX12 (by decide) g1009) ?_
  refine q_fa (ok_iload_n (by decide +kernel : decode cX12_say0 92 = .ok (.iload_n 1, 1)) rfl rfl) ?_
  refine q_fa (ok_iaload (by decide +kernel : decode cX12_say0 93 = .ok (.iaload, 1)) rfl) ?_
  refine q_fa (ok_aload_n (by decide +kernel : decode cX12_say0 94 = .ok (.aload_n 0, 1)) rfl rfl) ?_
  refine q_fa (ok_get (by decide +kernel : decode cX12_say0 95 = .ok (.getfield 13, 3)) rfl (rfl : vwCl[12]? = some (RX12, TX12, 58)) inX12 (by decide) g1007) ?_
  refine q_fa (ok_aload_n (by decide +kernel : decode cX12_say0 98 = .ok (.aload_n 0, 1)) rfl rfl) ?_
  refine q_fa (ok_get (by decide +kernel : decode cX12_say0 99 = .ok (.getfield 19, 3)) rfl (rfl : vwCl[12]? = some (RX12, TX12, 58)) inX12 (by decide) g1009) ?_
  refine q_fa (ok_iload_n (by decide +kernel : decode cX12_say0 102 = .ok (.iload_n 1, 1)) rfl rfl) ?_
  refine q_fa (ok_iaload (by decide +kernel : decode cX12_say0 103 = .ok (.iaload, 1)) rfl) ?_
  refine q_fa (ok_iaload (by decide +kernel : decode cX12_say0 104 = .ok (.iaload, 1)) rfl) ?_
  refine q_fa (ok_iconst (by decide +kernel : decode cX12_say0 105 = .ok (.iconst 3, 1)) rfl (by decide +kernel)) ?_
  refine q_fa (ok_if2ne (by decide +kernel : decode cX12_say0 106 = .ok (.if_icmp .ne 7, 3)) (by decide) rfl) ?_
  refine q_fa (ok_iconst (by decide +kernel : decode cX12_say0 109 = .ok (.iconst 1, 1)) rfl (by decide +kernel)) ?_
  refine q_fa (ok_goto (by decide +kernel : decode cX12_say0 110 = .ok (.goto 4, 3)) (by decide)) ?_
  refine q_fa (ok_iconst (by decide +kernel : decode cX12_say0 113 = .ok (.iconst 0, 1)) rfl (by decide +kernel)) ?_
  refine q_fa (ok_callV (by decide +kernel : decode cX12_say0 114 = .ok (.invokevirtual 239, 3)) rfl kX12_sayIn.1 kX12_sayIn.2.1 kX12_sayIn.2.2.1 kX12_sayIn.2.2.2.1 kX12_sayIn.2.2.2.2 (rfl : vwCl[12]? = some (RX12, TX12, 58)) g1275 gs65 g1273) ?_
  refine q_fa (ok_aload_n (by decide +kernel : decode cX12_say0 117 = .ok (.aload_n 0, 1)) rfl rfl) ?_
  refine q_fa (ok_aload_n (by decide +kernel : decode cX12_say0 118 = .ok (.aload_n 0, 1)) rfl rfl) ?_
  refine q_fa (ok_get (by decide +kernel : decode cX12_say0 119 = .ok (.getfield 22, 3)) rfl (rfl : vwCl[12]? = some (RX12, TX12, 58)) inX12 (by decide) g1010) ?_
  refine q_fa (ok_iload_n (by decide +kernel : decode cX12_say0 122 = .ok (.iload_n 1, 1)) rfl rfl) ?_
  refine q_fa (ok_iaload (by decide +kernel : decode cX12_say0 123 = .ok (.iaload, 1)) rfl) ?_
  refine q_fa (ok_aload_n (by decide +kernel : decode cX12_say0 124 = .ok (.aload_n 0, 1)) rfl rfl) ?_
  refine q_fa (ok_get (by decide +kernel : decode cX12_say0 125 = .ok (.getfield 13, 3)) rfl (rfl : vwCl[12]? = some (RX12, TX12, 58)) inX12 (by decide) g1007) ?_
  refine q_fa (ok_aload_n (by decide +kernel : decode cX12_say0 128 = .ok (.aload_n 0, 1)) rfl rfl) ?_
  refine q_fa (ok_get (by decide +kernel : decode cX12_say0 129 = .ok (.getfield 22, 3)) rfl (rfl : vwCl[12]? = some (RX12, TX12, 58)) inX12 (by decide) g1010) ?_
  refine q_fa (ok_iload_n (by decide +kernel : decode cX12_say0 132 = .ok (.iload_n 1, 1)) rfl rfl) ?_
  refine q_fa (ok_iaload (by decide +kernel : decode cX12_say0 133 = .ok (.iaload, 1)) rfl) ?_
  refine q_fa (ok_iaload (by decide +kernel : decode cX12_say0 134 = .ok (.iaload, 1)) rfl) ?_
  refine q_fa (ok_iconst (by decide +kernel : decode cX12_say0 135 = .ok (.iconst 3, 1)) rfl (by decide +kernel)) ?_
  refine q_fa (ok_if2ne (by decide +kernel : decode cX12_say0 136 = .ok (.if_icmp .ne 7, 3)) (by decide) rfl) ?_
  refine q_fa (ok_iconst (by decide +kernel : decode cX12_say0 139 = .ok (.iconst 1, 1)) rfl (by decide +kernel)) ?_
  refine q_fa (ok_goto (by decide +kernel : decode cX12_say0 140 = .ok (.goto 4, 3)) (by decide)) ?_
  refine q_fa (ok_iconst (by decide +kernel : decode cX12_say0 143 = .ok (.iconst 0, 1)) rfl (by decide +kernel)) ?_
  refine q_fa (ok_callV (by decide +kernel : decode cX12_say0 144 = .ok (.invokevirtual 239, 3)) rfl kX12_sayIn.1 kX12_sayIn.2.1 kX12_sayIn.2.2.1 kX12_sayIn.2.2.2.1 kX12_sayIn.2.2.2.2 (rfl : vwCl[12]? = some (RX12, TX12, 58)) g1275 gs65 g1273) ?_
  refine q_fa (ok_goto (by decide +kernel : decode cX12_say0 147 = .ok (.goto 118, 3)) (by decide)) ?_
  refine q_fa (ok_iload_n (by decide +kernel : decode cX12_say0 150 = .ok (.iload_n 2, 1)) rfl rfl) ?_
  refine q_fa (ok_iconst (by decide +kernel : decode cX12_say0 151 = .ok (.iconst 3, 1)) rfl (by decide +kernel)) ?_
  refine q_fa (ok_if2ne (by decide +kernel : decode cX12_say0 152 = .ok (.if_icmp .ne 52, 3)) (by decide) rfl) ?_
  refine q_fa (ok_aload_n (by decide +kernel : decode cX12_say0 155 = .ok (.aload_n 0, 1)) rfl rfl) ?_
  refine q_fa (ok_aload_n (by decide +kernel : decode cX12_say0 156 = .ok (.aload_n 0, 1)) rfl rfl) ?_
  refine q_fa (ok_get (by decide +kernel : decode cX12_say0 157 = .ok (.getfield 19, 3)) rfl (rfl : vwCl[12]? = some (RX12, TX12, 58)) inX12 (by decide) g1009) ?_
  refine q_fa (ok_iload_n (by decide +kernel : decode cX12_say0 160 = .ok (.iload_n 1, 1)) rfl rfl) ?_
  refine q_fa (ok_iaload (by decide +kernel : decode cX12_say0 161 = .ok (.iaload, 1)) rfl) ?_
  refine q_fa (ok_aload_n (by decide +kernel : decode cX12_say0 162 = .ok (.aload_n 0, 1)) rfl rfl) ?_
  refine q_fa (ok_get (by decide +kernel : decode cX12_say0 163 = .ok (.getfield 13, 3)) rfl (rfl : vwCl[12]? = some (RX12, TX12, 58)) inX12 (by decide) g1007) ?_
  refine q_fa (ok_aload_n (by decide +kernel : decode cX12_say0 166 = .ok (.aload_n 0, 1)) rfl rfl) ?_
  refine q_fa (ok_get (by decide +kernel : decode cX12_say0 167 = .ok (.getfield 19, 3)) rfl (rfl : vwCl[12]? = some (RX12, TX12, 58)) inX12 (by decide) g1009) ?_
  refine q_fa (ok_iload_n (by decide +kernel : decode cX12_say0 170 = .ok (.iload_n 1, 1)) rfl rfl) ?_
  refine q_fa (ok_iaload (by decide +kernel : decode cX12_say0 171 = .ok (.iaload, 1)) rfl) ?_
  refine q_fa (ok_iaload (by decide +kernel : decode cX12_say0 172 = .ok (.iaload, 1)) rfl) ?_
  refine q_fa (ok_iconst (by decide +kernel : decode cX12_say0 173 = .ok (.iconst 3, 1)) rfl (by decide +kernel)) ?_
  refine q_fa (ok_if2ne (by decide +kernel : decode cX12_say0 174 = .ok (.if_icmp .ne 7, 3)) (by decide) rfl) ?_
  refine q_fa (ok_iconst (by decide +kernel : decode cX12_say0 177 = .ok (.iconst 1, 1)) rfl (by decide +kernel)) ?_
  refine q_fa (ok_goto (by decide +kernel : decode cX12_say0 178 = .ok (.goto 4, 3)) (by decide)) ?_
  refine q_fa (ok_iconst (by decide +kernel : decode cX12_say0 181 = .ok (.iconst 0, 1)) rfl (by decide +kernel)) ?_
  refine q_fa (ok_callV (by decide +kernel : decode cX12_say0 182 = .ok (.invokevirtual 239, 3)) rfl kX12_sayIn.1 kX12_sayIn.2.1 kX12_sayIn.2.2.1 kX12_sayIn.2.2.2.1 kX12_sayIn.2.2.2.2 (rfl : vwCl[12]? = some (RX12, TX12, 58)) g1275 gs65 g1273) ?_
  refine q_fa (ok_aload_n (by decide +kernel : decode cX12_say0 185 = .ok (.aload_n 0, 1)) rfl rfl) ?_
  refine q_fa (ok_bipush (by decide +kernel : decode cX12_say0 186 = .ok (.bipush 124, 2)) rfl (by decide +kernel)) ?_
  refine q_fa (ok_callV (by decide +kernel : decode cX12_say0 188 = .ok (.invokevirtual 233, 3)) rfl kX12_sign.1 kX12_sign.2.1 kX12_sign.2.2.1 kX12_sign.2.2.2.1 kX12_sign.2.2.2.2 (rfl : vwCl[12]? = some (RX12, TX12, 58)) g1271 gs64 g1269) ?_
  refine q_fa (ok_aload_n (by decide +kernel : decode cX12_say0 191 = .ok (.aload_n 0, 1)) rfl rfl) ?_
  refine q_fa (ok_aload_n (by decide +kernel : decode cX12_say0 192 = .ok (.aload_n 0, 1)) rfl rfl) ?_
  refine q_fa (ok_get (by decide +kernel : decode cX12_say0 193 = .ok (.getfield 22, 3)) rfl (rfl : vwCl[12]? = some (RX12, TX12, 58)) inX12 (by decide) g1010) ?_
  refine q_fa (ok_iload_n (by decide +kernel : decode cX12_say0 196 = .ok (.iload_n 1, 1)) rfl rfl) ?_
  refine q_fa (ok_iaload (by decide +kernel : decode cX12_say0 197 = .ok (.iaload, 1)) rfl) ?_
  refine q_fa (ok_callV (by decide +kernel : decode cX12_say0 198 = .ok (.invokevirtual 236, 3)) rfl kX12_say0.1 kX12_say0.2.1 kX12_say0.2.2.1 kX12_say0.2.2.2.1 kX12_say0.2.2.2.2 (rfl : vwCl[12]? = some (RX12, TX12, 58)) g1267 gs63 g1265) ?_
  refine q_fa (ok_goto (by decide +kernel : decode cX12_say0 201 = .ok (.goto 64, 3)) (by decide)) ?_
  refine q_fa (ok_aload_n (by decide +kernel : decode cX12_say0 204 = .ok (.aload_n 0, 1)) rfl rfl) ?_
  refine q_fa (ok_aload_n (by decide +kernel : decode cX12_say0 205 = .ok (.aload_n 0, 1)) rfl rfl) ?_
  refine q_fa (ok_get (by decide +kernel : decode cX12_say0 206 = .ok (.getfield 19, 3)) rfl (rfl : vwCl[12]? = some (RX12, TX12, 58)) inX12 (by decide) g1009) ?_
  refine q_fa (ok_iload_n (by decide +kernel : decode cX12_say0 209 = .ok (.iload_n 1, 1)) rfl rfl) ?_
  refine q_fa (ok_iaload (by decide +kernel : decode cX12_say0 210 = .ok (.iaload, 1)) rfl) ?_
  refine q_fa (ok_aload_n (by decide +kernel : decode cX12_say0 211 = .ok (.aload_n 0, 1)) rfl rfl) ?_
  refine q_fa (ok_get (by decide +kernel : decode cX12_say0 212 = .ok (.getfield 13, 3)) rfl (rfl : vwCl[12]? = some (RX12, TX12, 58)) inX12 (by decide) g1007) ?_
  refine q_fa (ok_aload_n (by decide +kernel : decode cX12_say0 215 = .ok (.aload_n 0, 1)) rfl rfl) ?_
  refine q_fa (ok_get (by decide +kernel : decode cX12_say0 216 = .ok (.getfield 19, 3)) rfl (rfl : vwCl[12]? = some (RX12, TX12, 58)) inX12 (by decide) g1009) ?_
  refine q_fa (ok_iload_n (by decide +kernel : decode cX12_say0 219 = .ok (.iload_n 1, 1)) rfl rfl) ?_
  refine q_fa (ok_iaload (by decide +kernel : decode cX12_say0 220 = .ok (.iaload, 1)) rfl) ?_
  refine q_fa (ok_iaload (by decide +kernel : decode cX12_say0 221 = .ok (.iaload, 1)) rfl) ?_
  refine q_fa (ok_iconst (by decide +kernel : decode cX12_say0 222 = .ok (.iconst 2, 1)) rfl (by decide +kernel)) ?_
  refine q_fa (ok_if2eq (by decide +kernel : decode cX12_say0 223 = .ok (.if_icmp .eq 18, 3)) (by decide) rfl) ?_
  refine q_fa (ok_aload_n (by decide +kernel : decode cX12_say0 226 = .ok (.aload_n 0, 1)) rfl rfl) ?_
  refine q_fa (ok_get (by decide +kernel : decode cX12_say0 227 = .ok (.getfield 13, 3)) rfl (rfl : vwCl[12]? = some (RX12, TX12, 58)) inX12 (by decide) g1007) ?_
  refine q_fa (ok_aload_n (by decide +kernel : decode cX12_say0 230 = .ok (.aload_n 0, 1)) rfl rfl) ?_
  refine q_fa (ok_get (by decide +kernel : decode cX12_say0 231 = .ok (.getfield 19, 3)) rfl (rfl : vwCl[12]? = some (RX12, TX12, 58)) inX12 (by decide) g1009) ?_
  refine q_fa (ok_iload_n (by decide +kernel : decode cX12_say0 234 = .ok (.iload_n 1, 1)) rfl rfl) ?_
  refine q_fa (ok_iaload (by decide +kernel : decode cX12_say0 235 = .ok (.iaload, 1)) rfl) ?_
  refine q_fa (ok_iaload (by decide +kernel : decode cX12_say0 236 = .ok (.iaload, 1)) rfl) ?_
  refine q_fa (ok_iconst (by decide +kernel : decode cX12_say0 237 = .ok (.iconst 3, 1)) rfl (by decide +kernel)) ?_
  refine q_fa (ok_if2ne (by decide +kernel : decode cX12_say0 238 = .ok (.if_icmp .ne 7, 3)) (by decide) rfl) ?_
  refine q_fa (ok_iconst (by decide +kernel : decode cX12_say0 241 = .ok (.iconst 1, 1)) rfl (by decide +kernel)) ?_
  refine q_fa (ok_goto (by decide +kernel : decode cX12_say0 242 = .ok (.goto 4, 3)) (by decide)) ?_
  refine q_fa (ok_iconst (by decide +kernel : decode cX12_say0 245 = .ok (.iconst 0, 1)) rfl (by decide +kernel)) ?_
  refine q_fa (ok_callV (by decide +kernel : decode cX12_say0 246 = .ok (.invokevirtual 239, 3)) rfl kX12_sayIn.1 kX12_sayIn.2.1 kX12_sayIn.2.2.1 kX12_sayIn.2.2.2.1 kX12_sayIn.2.2.2.2 (rfl : vwCl[12]? = some (RX12, TX12, 58)) g1275 gs65 g1273) ?_
  refine q_fa (ok_aload_n (by decide +kernel : decode cX12_say0 249 = .ok (.aload_n 0, 1)) rfl rfl) ?_
  refine q_fa (ok_iload_n (by decide +kernel : decode cX12_say0 250 = .ok (.iload_n 2, 1)) rfl rfl) ?_
  refine q_fa (ok_iconst (by decide +kernel : decode cX12_say0 251 = .ok (.iconst 4, 1)) rfl (by decide +kernel)) ?_
  refine q_fa (ok_if2ne (by decide +kernel : decode cX12_say0 252 = .ok (.if_icmp .ne 8, 3)) (by decide) rfl) ?_
  refine q_fa (ok_bipush (by decide +kernel : decode cX12_say0 255 = .ok (.bipush 43, 2)) rfl (by decide +kernel)) ?_
  refine q_fa (ok_goto (by decide +kernel : decode cX12_say0 257 = .ok (.goto 5, 3)) (by decide)) ?_
  refine q_fa (ok_bipush (by decide +kernel : decode cX12_say0 260 = .ok (.bipush 63, 2)) rfl (by decide +kernel)) ?_
  refine q_fa (ok_callV (by decide +kernel : decode cX12_say0 262 = .ok (.invokevirtual 233, 3)) rfl kX12_sign.1 kX12_sign.2.1 kX12_sign.2.2.1 kX12_sign.2.2.2.1 kX12_sign.2.2.2.2 (rfl : vwCl[12]? = some (RX12, TX12, 58)) g1271 gs64 g1269) ?_
  refine q_fa (ok_vret (by decide +kernel : decode cX12_say0 265 = .ok (.return_, 1)) rfl) ?_
  exact q_fa0
theorem exX12_say0 : ∃ t : Nat → qP, t = uX12_say0 := ⟨_, rfl⟩
noncomputable def tX12_say0 : Nat → qP := Classical.choose exX12_say0
theorem teX12_say0 : tX12_say0 = uX12_say0 := Classical.choose_spec exX12_say0
theorem sX12_say0 : q_Snd mX12_say0 tX12_say0 := by rw [teX12_say0]; exact suX12_say0
theorem tX12_say0_0 : tX12_say0 0 = oAl 0 1 := (congrFun teX12_say0 0).trans rfl
theorem tX12_say0_1 : tX12_say0 1 = oGet 12 3 4 := (congrFun teX12_say0 1).trans rfl
theorem tX12_say0_4 : tX12_say0 4 = oIl 1 5 := (congrFun teX12_say0 4).trans rfl
theorem tX12_say0_5 : tX12_say0 5 = oIald 6 := (congrFun teX12_say0 5).trans rfl
theorem tX12_say0_6 : tX12_say0 6 = oIs 2 7 := (congrFun teX12_say0 6).trans rfl
theorem tX12_say0_7 : tX12_say0 7 = oIl 2 8 := (congrFun teX12_say0 7).trans rfl
theorem tX12_say0_8 : tX12_say0 8 = oIf1ne 27 11 := (congrFun teX12_say0 8).trans rfl
theorem tX12_say0_11 : tX12_say0 11 = oAl 0 12 := (congrFun teX12_say0 11).trans rfl
theorem tX12_say0_12 : tX12_say0 12 = oK (.int (nI 97)) 14 := (congrFun teX12_say0 12).trans rfl
theorem tX12_say0_14 : tX12_say0 14 = oAl 0 15 := (congrFun teX12_say0 14).trans rfl
theorem tX12_say0_15 : tX12_say0 15 = oGet 12 4 18 := (congrFun teX12_say0 15).trans rfl
theorem tX12_say0_18 : tX12_say0 18 = oIl 1 19 := (congrFun teX12_say0 18).trans rfl
theorem tX12_say0_19 : tX12_say0 19 = oIald 20 := (congrFun teX12_say0 19).trans rfl
theorem tX12_say0_20 : tX12_say0 20 = oAdd 21 := (congrFun teX12_say0 20).trans rfl
theorem tX12_say0_21 : tX12_say0 21 = oCallV 12 mX12_sign 1 24 := (congrFun teX12_say0 21).trans rfl
theorem tX12_say0_24 : tX12_say0 24 = oGo 265 := (congrFun teX12_say0 24).trans rfl
theorem tX12_say0_27 : tX12_say0 27 = oIl 2 28 := (congrFun teX12_say0 27).trans rfl
theorem tX12_say0_28 : tX12_say0 28 = oK (.int (nI 1)) 29 := (congrFun teX12_say0 28).trans rfl
theorem tX12_say0_29 : tX12_say0 29 = oIf2ne 82 32 := (congrFun teX12_say0 29).trans rfl
theorem tX12_say0_32 : tX12_say0 32 = oAl 0 33 := (congrFun teX12_say0 32).trans rfl
theorem tX12_say0_33 : tX12_say0 33 = oK (.int (nI 91)) 35 := (congrFun teX12_say0 33).trans rfl
theorem tX12_say0_35 : tX12_say0 35 = oCallV 12 mX12_sign 1 38 := (congrFun teX12_say0 35).trans rfl
theorem tX12_say0_38 : tX12_say0 38 = oK (.int (nI 0)) 39 := (congrFun teX12_say0 38).trans rfl
theorem tX12_say0_39 : tX12_say0 39 = oIs 3 40 := (congrFun teX12_say0 39).trans rfl
theorem tX12_say0_40 : tX12_say0 40 = oIl 3 41 := (congrFun teX12_say0 40).trans rfl
theorem tX12_say0_41 : tX12_say0 41 = oK (.int (nI 3)) 42 := (congrFun teX12_say0 41).trans rfl
theorem tX12_say0_42 : tX12_say0 42 = oIf2ge 73 45 := (congrFun teX12_say0 42).trans rfl
theorem tX12_say0_45 : tX12_say0 45 = oAl 0 46 := (congrFun teX12_say0 45).trans rfl
theorem tX12_say0_46 : tX12_say0 46 = oGet 12 4 49 := (congrFun teX12_say0 46).trans rfl
theorem tX12_say0_49 : tX12_say0 49 = oIl 1 50 := (congrFun teX12_say0 49).trans rfl
theorem tX12_say0_50 : tX12_say0 50 = oIald 51 := (congrFun teX12_say0 50).trans rfl
theorem tX12_say0_51 : tX12_say0 51 = oIl 3 52 := (congrFun teX12_say0 51).trans rfl
theorem tX12_say0_52 : tX12_say0 52 = oShr 53 := (congrFun teX12_say0 52).trans rfl
theorem tX12_say0_53 : tX12_say0 53 = oK (.int (nI 1)) 54 := (congrFun teX12_say0 53).trans rfl
theorem tX12_say0_54 : tX12_say0 54 = oAnd 55 := (congrFun teX12_say0 54).trans rfl
theorem tX12_say0_55 : tX12_say0 55 = oK (.int (nI 1)) 56 := (congrFun teX12_say0 55).trans rfl
theorem tX12_say0_56 : tX12_say0 56 = oIf2ne 67 59 := (congrFun teX12_say0 56).trans rfl
theorem tX12_say0_59 : tX12_say0 59 = oAl 0 60 := (congrFun teX12_say0 59).trans rfl
theorem tX12_say0_60 : tX12_say0 60 = oK (.int (nI 97)) 62 := (congrFun teX12_say0 60).trans rfl
theorem tX12_say0_62 : tX12_say0 62 = oIl 3 63 := (congrFun teX12_say0 62).trans rfl
theorem tX12_say0_63 : tX12_say0 63 = oAdd 64 := (congrFun teX12_say0 63).trans rfl
theorem tX12_say0_64 : tX12_say0 64 = oCallV 12 mX12_sign 1 67 := (congrFun teX12_say0 64).trans rfl
theorem tX12_say0_67 : tX12_say0 67 = oInc 3 (nI 1) 70 := (congrFun teX12_say0 67).trans rfl
theorem tX12_say0_70 : tX12_say0 70 = oGo 40 := (congrFun teX12_say0 70).trans rfl
theorem tX12_say0_73 : tX12_say0 73 = oAl 0 74 := (congrFun teX12_say0 73).trans rfl
theorem tX12_say0_74 : tX12_say0 74 = oK (.int (nI 93)) 76 := (congrFun teX12_say0 74).trans rfl
theorem tX12_say0_76 : tX12_say0 76 = oCallV 12 mX12_sign 1 79 := (congrFun teX12_say0 76).trans rfl
theorem tX12_say0_79 : tX12_say0 79 = oGo 265 := (congrFun teX12_say0 79).trans rfl
theorem tX12_say0_82 : tX12_say0 82 = oIl 2 83 := (congrFun teX12_say0 82).trans rfl
theorem tX12_say0_83 : tX12_say0 83 = oK (.int (nI 2)) 84 := (congrFun teX12_say0 83).trans rfl
theorem tX12_say0_84 : tX12_say0 84 = oIf2ne 150 87 := (congrFun teX12_say0 84).trans rfl
theorem tX12_say0_87 : tX12_say0 87 = oAl 0 88 := (congrFun teX12_say0 87).trans rfl
theorem tX12_say0_88 : tX12_say0 88 = oAl 0 89 := (congrFun teX12_say0 88).trans rfl
theorem tX12_say0_89 : tX12_say0 89 = oGet 12 5 92 := (congrFun teX12_say0 89).trans rfl
theorem tX12_say0_92 : tX12_say0 92 = oIl 1 93 := (congrFun teX12_say0 92).trans rfl
theorem tX12_say0_93 : tX12_say0 93 = oIald 94 := (congrFun teX12_say0 93).trans rfl
theorem tX12_say0_94 : tX12_say0 94 = oAl 0 95 := (congrFun teX12_say0 94).trans rfl
theorem tX12_say0_95 : tX12_say0 95 = oGet 12 3 98 := (congrFun teX12_say0 95).trans rfl
theorem tX12_say0_98 : tX12_say0 98 = oAl 0 99 := (congrFun teX12_say0 98).trans rfl
theorem tX12_say0_99 : tX12_say0 99 = oGet 12 5 102 := (congrFun teX12_say0 99).trans rfl
theorem tX12_say0_102 : tX12_say0 102 = oIl 1 103 := (congrFun teX12_say0 102).trans rfl
theorem tX12_say0_103 : tX12_say0 103 = oIald 104 := (congrFun teX12_say0 103).trans rfl
theorem tX12_say0_104 : tX12_say0 104 = oIald 105 := (congrFun teX12_say0 104).trans rfl
theorem tX12_say0_105 : tX12_say0 105 = oK (.int (nI 3)) 106 := (congrFun teX12_say0 105).trans rfl
theorem tX12_say0_106 : tX12_say0 106 = oIf2ne 113 109 := (congrFun teX12_say0 106).trans rfl
theorem tX12_say0_109 : tX12_say0 109 = oK (.int (nI 1)) 110 := (congrFun teX12_say0 109).trans rfl
theorem tX12_say0_110 : tX12_say0 110 = oGo 114 := (congrFun teX12_say0 110).trans rfl
theorem tX12_say0_113 : tX12_say0 113 = oK (.int (nI 0)) 114 := (congrFun teX12_say0 113).trans rfl
theorem tX12_say0_114 : tX12_say0 114 = oCallV 12 mX12_sayIn 2 117 := (congrFun teX12_say0 114).trans rfl
theorem tX12_say0_117 : tX12_say0 117 = oAl 0 118 := (congrFun teX12_say0 117).trans rfl
theorem tX12_say0_118 : tX12_say0 118 = oAl 0 119 := (congrFun teX12_say0 118).trans rfl
theorem tX12_say0_119 : tX12_say0 119 = oGet 12 6 122 := (congrFun teX12_say0 119).trans rfl
theorem tX12_say0_122 : tX12_say0 122 = oIl 1 123 := (congrFun teX12_say0 122).trans rfl
theorem tX12_say0_123 : tX12_say0 123 = oIald 124 := (congrFun teX12_say0 123).trans rfl
theorem tX12_say0_124 : tX12_say0 124 = oAl 0 125 := (congrFun teX12_say0 124).trans rfl
theorem tX12_say0_125 : tX12_say0 125 = oGet 12 3 128 := (congrFun teX12_say0 125).trans rfl
theorem tX12_say0_128 : tX12_say0 128 = oAl 0 129 := (congrFun teX12_say0 128).trans rfl
theorem tX12_say0_129 : tX12_say0 129 = oGet 12 6 132 := (congrFun teX12_say0 129).trans rfl
theorem tX12_say0_132 : tX12_say0 132 = oIl 1 133 := (congrFun teX12_say0 132).trans rfl
theorem tX12_say0_133 : tX12_say0 133 = oIald 134 := (congrFun teX12_say0 133).trans rfl
theorem tX12_say0_134 : tX12_say0 134 = oIald 135 := (congrFun teX12_say0 134).trans rfl
theorem tX12_say0_135 : tX12_say0 135 = oK (.int (nI 3)) 136 := (congrFun teX12_say0 135).trans rfl
theorem tX12_say0_136 : tX12_say0 136 = oIf2ne 143 139 := (congrFun teX12_say0 136).trans rfl
theorem tX12_say0_139 : tX12_say0 139 = oK (.int (nI 1)) 140 := (congrFun teX12_say0 139).trans rfl
theorem tX12_say0_140 : tX12_say0 140 = oGo 144 := (congrFun teX12_say0 140).trans rfl
theorem tX12_say0_143 : tX12_say0 143 = oK (.int (nI 0)) 144 := (congrFun teX12_say0 143).trans rfl
theorem tX12_say0_144 : tX12_say0 144 = oCallV 12 mX12_sayIn 2 147 := (congrFun teX12_say0 144).trans rfl
theorem tX12_say0_147 : tX12_say0 147 = oGo 265 := (congrFun teX12_say0 147).trans rfl
theorem tX12_say0_150 : tX12_say0 150 = oIl 2 151 := (congrFun teX12_say0 150).trans rfl
theorem tX12_say0_151 : tX12_say0 151 = oK (.int (nI 3)) 152 := (congrFun teX12_say0 151).trans rfl
theorem tX12_say0_152 : tX12_say0 152 = oIf2ne 204 155 := (congrFun teX12_say0 152).trans rfl
theorem tX12_say0_155 : tX12_say0 155 = oAl 0 156 := (congrFun teX12_say0 155).trans rfl
theorem tX12_say0_156 : tX12_say0 156 = oAl 0 157 := (congrFun teX12_say0 156).trans rfl
theorem tX12_say0_157 : tX12_say0 157 = oGet 12 5 160 := (congrFun teX12_say0 157).trans rfl
theorem tX12_say0_160 : tX12_say0 160 = oIl 1 161 := (congrFun teX12_say0 160).trans rfl
theorem tX12_say0_161 : tX12_say0 161 = oIald 162 := (congrFun teX12_say0 161).trans rfl
theorem tX12_say0_162 : tX12_say0 162 = oAl 0 163 := (congrFun teX12_say0 162).trans rfl
theorem tX12_say0_163 : tX12_say0 163 = oGet 12 3 166 := (congrFun teX12_say0 163).trans rfl
theorem tX12_say0_166 : tX12_say0 166 = oAl 0 167 := (congrFun teX12_say0 166).trans rfl
theorem tX12_say0_167 : tX12_say0 167 = oGet 12 5 170 := (congrFun teX12_say0 167).trans rfl
theorem tX12_say0_170 : tX12_say0 170 = oIl 1 171 := (congrFun teX12_say0 170).trans rfl
theorem tX12_say0_171 : tX12_say0 171 = oIald 172 := (congrFun teX12_say0 171).trans rfl
theorem tX12_say0_172 : tX12_say0 172 = oIald 173 := (congrFun teX12_say0 172).trans rfl
theorem tX12_say0_173 : tX12_say0 173 = oK (.int (nI 3)) 174 := (congrFun teX12_say0 173).trans rfl
theorem tX12_say0_174 : tX12_say0 174 = oIf2ne 181 177 := (congrFun teX12_say0 174).trans rfl
theorem tX12_say0_177 : tX12_say0 177 = oK (.int (nI 1)) 178 := (congrFun teX12_say0 177).trans rfl
theorem tX12_say0_178 : tX12_say0 178 = oGo 182 := (congrFun teX12_say0 178).trans rfl
theorem tX12_say0_181 : tX12_say0 181 = oK (.int (nI 0)) 182 := (congrFun teX12_say0 181).trans rfl
theorem tX12_say0_182 : tX12_say0 182 = oCallV 12 mX12_sayIn 2 185 := (congrFun teX12_say0 182).trans rfl
theorem tX12_say0_185 : tX12_say0 185 = oAl 0 186 := (congrFun teX12_say0 185).trans rfl
theorem tX12_say0_186 : tX12_say0 186 = oK (.int (nI 124)) 188 := (congrFun teX12_say0 186).trans rfl
theorem tX12_say0_188 : tX12_say0 188 = oCallV 12 mX12_sign 1 191 := (congrFun teX12_say0 188).trans rfl
theorem tX12_say0_191 : tX12_say0 191 = oAl 0 192 := (congrFun teX12_say0 191).trans rfl
theorem tX12_say0_192 : tX12_say0 192 = oAl 0 193 := (congrFun teX12_say0 192).trans rfl
theorem tX12_say0_193 : tX12_say0 193 = oGet 12 6 196 := (congrFun teX12_say0 193).trans rfl
theorem tX12_say0_196 : tX12_say0 196 = oIl 1 197 := (congrFun teX12_say0 196).trans rfl
theorem tX12_say0_197 : tX12_say0 197 = oIald 198 := (congrFun teX12_say0 197).trans rfl
theorem tX12_say0_198 : tX12_say0 198 = oCallV 12 mX12_say0 1 201 := (congrFun teX12_say0 198).trans rfl
theorem tX12_say0_201 : tX12_say0 201 = oGo 265 := (congrFun teX12_say0 201).trans rfl
theorem tX12_say0_204 : tX12_say0 204 = oAl 0 205 := (congrFun teX12_say0 204).trans rfl
theorem tX12_say0_205 : tX12_say0 205 = oAl 0 206 := (congrFun teX12_say0 205).trans rfl
theorem tX12_say0_206 : tX12_say0 206 = oGet 12 5 209 := (congrFun teX12_say0 206).trans rfl
theorem tX12_say0_209 : tX12_say0 209 = oIl 1 210 := (congrFun teX12_say0 209).trans rfl
theorem tX12_say0_210 : tX12_say0 210 = oIald 211 := (congrFun teX12_say0 210).trans rfl
theorem tX12_say0_211 : tX12_say0 211 = oAl 0 212 := (congrFun teX12_say0 211).trans rfl
theorem tX12_say0_212 : tX12_say0 212 = oGet 12 3 215 := (congrFun teX12_say0 212).trans rfl
theorem tX12_say0_215 : tX12_say0 215 = oAl 0 216 := (congrFun teX12_say0 215).trans rfl
theorem tX12_say0_216 : tX12_say0 216 = oGet 12 5 219 := (congrFun teX12_say0 216).trans rfl
theorem tX12_say0_219 : tX12_say0 219 = oIl 1 220 := (congrFun teX12_say0 219).trans rfl
theorem tX12_say0_220 : tX12_say0 220 = oIald 221 := (congrFun teX12_say0 220).trans rfl
theorem tX12_say0_221 : tX12_say0 221 = oIald 222 := (congrFun teX12_say0 221).trans rfl
theorem tX12_say0_222 : tX12_say0 222 = oK (.int (nI 2)) 223 := (congrFun teX12_say0 222).trans rfl
theorem tX12_say0_223 : tX12_say0 223 = oIf2eq 241 226 := (congrFun teX12_say0 223).trans rfl
theorem tX12_say0_226 : tX12_say0 226 = oAl 0 227 := (congrFun teX12_say0 226).trans rfl
theorem tX12_say0_227 : tX12_say0 227 = oGet 12 3 230 := (congrFun teX12_say0 227).trans rfl
theorem tX12_say0_230 : tX12_say0 230 = oAl 0 231 := (congrFun teX12_say0 230).trans rfl
theorem tX12_say0_231 : tX12_say0 231 = oGet 12 5 234 := (congrFun teX12_say0 231).trans rfl
theorem tX12_say0_234 : tX12_say0 234 = oIl 1 235 := (congrFun teX12_say0 234).trans rfl
theorem tX12_say0_235 : tX12_say0 235 = oIald 236 := (congrFun teX12_say0 235).trans rfl
theorem tX12_say0_236 : tX12_say0 236 = oIald 237 := (congrFun teX12_say0 236).trans rfl
theorem tX12_say0_237 : tX12_say0 237 = oK (.int (nI 3)) 238 := (congrFun teX12_say0 237).trans rfl
theorem tX12_say0_238 : tX12_say0 238 = oIf2ne 245 241 := (congrFun teX12_say0 238).trans rfl
theorem tX12_say0_241 : tX12_say0 241 = oK (.int (nI 1)) 242 := (congrFun teX12_say0 241).trans rfl
theorem tX12_say0_242 : tX12_say0 242 = oGo 246 := (congrFun teX12_say0 242).trans rfl
theorem tX12_say0_245 : tX12_say0 245 = oK (.int (nI 0)) 246 := (congrFun teX12_say0 245).trans rfl
theorem tX12_say0_246 : tX12_say0 246 = oCallV 12 mX12_sayIn 2 249 := (congrFun teX12_say0 246).trans rfl
theorem tX12_say0_249 : tX12_say0 249 = oAl 0 250 := (congrFun teX12_say0 249).trans rfl
theorem tX12_say0_250 : tX12_say0 250 = oIl 2 251 := (congrFun teX12_say0 250).trans rfl
theorem tX12_say0_251 : tX12_say0 251 = oK (.int (nI 4)) 252 := (congrFun teX12_say0 251).trans rfl
theorem tX12_say0_252 : tX12_say0 252 = oIf2ne 260 255 := (congrFun teX12_say0 252).trans rfl
theorem tX12_say0_255 : tX12_say0 255 = oK (.int (nI 43)) 257 := (congrFun teX12_say0 255).trans rfl
theorem tX12_say0_257 : tX12_say0 257 = oGo 262 := (congrFun teX12_say0 257).trans rfl
theorem tX12_say0_260 : tX12_say0 260 = oK (.int (nI 63)) 262 := (congrFun teX12_say0 260).trans rfl
theorem tX12_say0_262 : tX12_say0 262 = oCallV 12 mX12_sign 1 265 := (congrFun teX12_say0 262).trans rfl
theorem tX12_say0_265 : tX12_say0 265 = oVret := (congrFun teX12_say0 265).trans rfl
def lX12_say : List (Nat × qP) := [(0, oAl 0 1), (1, oIl 1 2), (2, oCallV 12 mX12_has 1 5), (5, oIf1ne 10 8), (8, oK (.int (-1)) 9), (9, oIret), (10, oAl 0 11), (11, oK (.int (nI 6000)) 14), (14, oPutI 12 10 17), (17, oAl 0 18), (18, oK (.int (nI 0)) 19), (19, oPutI 12 22 22), (22, oAl 0 23), (23, oAl 0 24), (24, oIl 1 25), (25, oCallV 12 mX12_treeOf 1 28), (28, oCallV 12 mX12_say0 1 31), (31, oIl 2 32), (32, oK (.int (-1)) 33), (33, oIf2ne 43 36), (36, oAl 0 37), (37, oGet 12 22 40), (40, oGo 67), (43, oIl 2 44), (44, oK (.int (nI 0)) 45), (45, oAl 0 46), (46, oGet 12 22 49), (49, oK (.int (nI 1)) 50), (50, oSub 51), (51, oCallS mX12_in 3 54), (54, oIf1eq 66 57), (57, oAl 0 58), (58, oGet 12 23 61), (61, oIl 2 62), (62, oIald 63), (63, oGo 67), (66, oK (.int (-1)) 67), (67, oIret)]
def uX12_say : Nat → qP := q_tb lX12_say
set_option maxRecDepth 20000 in
theorem suX12_say : q_Snd mX12_say uX12_say := by
  refine q_tb_ok ?_
  unfold lX12_say
  refine q_fa (ok_aload_n (by decide +kernel : decode cX12_say 0 = .ok (.aload_n 0, 1)) rfl rfl) ?_
  refine q_fa (ok_iload_n (by decide +kernel : decode cX12_say 1 = .ok (.iload_n 1, 1)) rfl rfl) ?_
  refine q_fa (ok_callV (by decide +kernel : decode cX12_say 2 = .ok (.invokevirtual 243, 3)) rfl kX12_has.1 kX12_has.2.1 kX12_has.2.2.1 kX12_has.2.2.2.1 kX12_has.2.2.2.2 (rfl : vwCl[12]? = some (RX12, TX12, 58)) g1255 gs60 g1253) ?_
  refine q_fa (ok_if1ne (by decide +kernel : decode cX12_say 5 = .ok (.ifCond .ne 5, 3)) (by decide) rfl) ?_
  refine q_fa (ok_iconst (by decide +kernel : decode cX12_say 8 = .ok (.iconst (-1), 1)) rfl (by decide +kernel)) ?_
  refine q_fa (ok_iret (by decide +kernel : decode cX12_say 9 = .ok (.ireturn, 1)) rfl) ?_
  refine q_fa (ok_aload_n (by decide +kernel : decode cX12_say 10 = .ok (.aload_n 0, 1)) rfl rfl) ?_
  refine q_fa (ok_sipush (by decide +kernel : decode cX12_say 11 = .ok (.sipush 6000, 3)) rfl (by decide +kernel)) ?_
  refine q_fa (ok_putI tyX12 (by decide +kernel : decode cX12_say 14 = .ok (.putfield 34, 3)) rfl (rfl : vwCl[12]? = some (RX12, TX12, 58)) inX12 tyX12_ok nmX12 (by decide) g1014 (Or.inl rfl) (by decide +kernel)) ?_
  refine q_fa (ok_aload_n (by decide +kernel : decode cX12_say 17 = .ok (.aload_n 0, 1)) rfl rfl) ?_
  refine q_fa (ok_iconst (by decide +kernel : decode cX12_say 18 = .ok (.iconst 0, 1)) rfl (by decide +kernel)) ?_
  refine q_fa (ok_putI tyX12 (by decide +kernel : decode cX12_say 19 = .ok (.putfield 230, 3)) rfl (rfl : vwCl[12]? = some (RX12, TX12, 58)) inX12 tyX12_ok nmX12 (by decide) g1026 (Or.inl rfl) (by decide +kernel)) ?_
  refine q_fa (ok_aload_n (by decide +kernel : decode cX12_say 22 = .ok (.aload_n 0, 1)) rfl rfl) ?_
  refine q_fa (ok_aload_n (by decide +kernel : decode cX12_say 23 = .ok (.aload_n 0, 1)) rfl rfl) ?_
  refine q_fa (ok_iload_n (by decide +kernel : decode cX12_say 24 = .ok (.iload_n 1, 1)) rfl rfl) ?_
  refine q_fa (ok_callV (by decide +kernel : decode cX12_say 25 = .ok (.invokevirtual 246, 3)) rfl kX12_treeOf.1 kX12_treeOf.2.1 kX12_treeOf.2.2.1 kX12_treeOf.2.2.2.1 kX12_treeOf.2.2.2.2 (rfl : vwCl[12]? = some (RX12, TX12, 58)) g1259 gs61 g1257) ?_
  refine q_fa (ok_callV (by decide +kernel : decode cX12_say 28 = .ok (.invokevirtual 236, 3)) rfl kX12_say0.1 kX12_say0.2.1 kX12_say0.2.2.1 kX12_say0.2.2.2.1 kX12_say0.2.2.2.2 (rfl : vwCl[12]? = some (RX12, TX12, 58)) g1267 gs63 g1265) ?_
  refine q_fa (ok_iload_n (by decide +kernel : decode cX12_say 31 = .ok (.iload_n 2, 1)) rfl rfl) ?_
  refine q_fa (ok_iconst (by decide +kernel : decode cX12_say 32 = .ok (.iconst (-1), 1)) rfl (by decide +kernel)) ?_
  refine q_fa (ok_if2ne (by decide +kernel : decode cX12_say 33 = .ok (.if_icmp .ne 10, 3)) (by decide) rfl) ?_
  refine q_fa (ok_aload_n (by decide +kernel : decode cX12_say 36 = .ok (.aload_n 0, 1)) rfl rfl) ?_
  refine q_fa (ok_get (by decide +kernel : decode cX12_say 37 = .ok (.getfield 230, 3)) rfl (rfl : vwCl[12]? = some (RX12, TX12, 58)) inX12 (by decide) g1026) ?_
  refine q_fa (ok_goto (by decide +kernel : decode cX12_say 40 = .ok (.goto 27, 3)) (by decide)) ?_
  refine q_fa (ok_iload_n (by decide +kernel : decode cX12_say 43 = .ok (.iload_n 2, 1)) rfl rfl) ?_
  refine q_fa (ok_iconst (by decide +kernel : decode cX12_say 44 = .ok (.iconst 0, 1)) rfl (by decide +kernel)) ?_
  refine q_fa (ok_aload_n (by decide +kernel : decode cX12_say 45 = .ok (.aload_n 0, 1)) rfl rfl) ?_
  refine q_fa (ok_get (by decide +kernel : decode cX12_say 46 = .ok (.getfield 230, 3)) rfl (rfl : vwCl[12]? = some (RX12, TX12, 58)) inX12 (by decide) g1026) ?_
  refine q_fa (ok_iconst (by decide +kernel : decode cX12_say 49 = .ok (.iconst 1, 1)) rfl (by decide +kernel)) ?_
  refine q_fa (ok_isub (by decide +kernel : decode cX12_say 50 = .ok (.isub, 1)) rfl) ?_
  refine q_fa (ok_callS (by decide +kernel : decode cX12_say 51 = .ok (.invokestatic 163, 3)) rfl kX12_in.1 kX12_in.2.1 kX12_in.2.2.1 kX12_in.2.2.2.1 kX12_in.2.2.2.2 g1185 g1184) ?_
  refine q_fa (ok_if1eq (by decide +kernel : decode cX12_say 54 = .ok (.ifCond .eq 12, 3)) (by decide) rfl) ?_
  refine q_fa (ok_aload_n (by decide +kernel : decode cX12_say 57 = .ok (.aload_n 0, 1)) rfl rfl) ?_
  refine q_fa (ok_get (by decide +kernel : decode cX12_say 58 = .ok (.getfield 54, 3)) rfl (rfl : vwCl[12]? = some (RX12, TX12, 58)) inX12 (by decide) g1027) ?_
  refine q_fa (ok_iload_n (by decide +kernel : decode cX12_say 61 = .ok (.iload_n 2, 1)) rfl rfl) ?_
  refine q_fa (ok_iaload (by decide +kernel : decode cX12_say 62 = .ok (.iaload, 1)) rfl) ?_
  refine q_fa (ok_goto (by decide +kernel : decode cX12_say 63 = .ok (.goto 4, 3)) (by decide)) ?_
  refine q_fa (ok_iconst (by decide +kernel : decode cX12_say 66 = .ok (.iconst (-1), 1)) rfl (by decide +kernel)) ?_
  refine q_fa (ok_iret (by decide +kernel : decode cX12_say 67 = .ok (.ireturn, 1)) rfl) ?_
  exact q_fa0
theorem exX12_say : ∃ t : Nat → qP, t = uX12_say := ⟨_, rfl⟩
noncomputable def tX12_say : Nat → qP := Classical.choose exX12_say
theorem teX12_say : tX12_say = uX12_say := Classical.choose_spec exX12_say
theorem sX12_say : q_Snd mX12_say tX12_say := by rw [teX12_say]; exact suX12_say
theorem tX12_say_0 : tX12_say 0 = oAl 0 1 := (congrFun teX12_say 0).trans rfl
theorem tX12_say_1 : tX12_say 1 = oIl 1 2 := (congrFun teX12_say 1).trans rfl
theorem tX12_say_2 : tX12_say 2 = oCallV 12 mX12_has 1 5 := (congrFun teX12_say 2).trans rfl
theorem tX12_say_5 : tX12_say 5 = oIf1ne 10 8 := (congrFun teX12_say 5).trans rfl
theorem tX12_say_8 : tX12_say 8 = oK (.int (-1)) 9 := (congrFun teX12_say 8).trans rfl
theorem tX12_say_9 : tX12_say 9 = oIret := (congrFun teX12_say 9).trans rfl
theorem tX12_say_10 : tX12_say 10 = oAl 0 11 := (congrFun teX12_say 10).trans rfl
theorem tX12_say_11 : tX12_say 11 = oK (.int (nI 6000)) 14 := (congrFun teX12_say 11).trans rfl
theorem tX12_say_14 : tX12_say 14 = oPutI 12 10 17 := (congrFun teX12_say 14).trans rfl
theorem tX12_say_17 : tX12_say 17 = oAl 0 18 := (congrFun teX12_say 17).trans rfl
theorem tX12_say_18 : tX12_say 18 = oK (.int (nI 0)) 19 := (congrFun teX12_say 18).trans rfl
theorem tX12_say_19 : tX12_say 19 = oPutI 12 22 22 := (congrFun teX12_say 19).trans rfl
theorem tX12_say_22 : tX12_say 22 = oAl 0 23 := (congrFun teX12_say 22).trans rfl
theorem tX12_say_23 : tX12_say 23 = oAl 0 24 := (congrFun teX12_say 23).trans rfl
theorem tX12_say_24 : tX12_say 24 = oIl 1 25 := (congrFun teX12_say 24).trans rfl
theorem tX12_say_25 : tX12_say 25 = oCallV 12 mX12_treeOf 1 28 := (congrFun teX12_say 25).trans rfl
theorem tX12_say_28 : tX12_say 28 = oCallV 12 mX12_say0 1 31 := (congrFun teX12_say 28).trans rfl
theorem tX12_say_31 : tX12_say 31 = oIl 2 32 := (congrFun teX12_say 31).trans rfl
theorem tX12_say_32 : tX12_say 32 = oK (.int (-1)) 33 := (congrFun teX12_say 32).trans rfl
theorem tX12_say_33 : tX12_say 33 = oIf2ne 43 36 := (congrFun teX12_say 33).trans rfl
theorem tX12_say_36 : tX12_say 36 = oAl 0 37 := (congrFun teX12_say 36).trans rfl
theorem tX12_say_37 : tX12_say 37 = oGet 12 22 40 := (congrFun teX12_say 37).trans rfl
theorem tX12_say_40 : tX12_say 40 = oGo 67 := (congrFun teX12_say 40).trans rfl
theorem tX12_say_43 : tX12_say 43 = oIl 2 44 := (congrFun teX12_say 43).trans rfl
theorem tX12_say_44 : tX12_say 44 = oK (.int (nI 0)) 45 := (congrFun teX12_say 44).trans rfl
theorem tX12_say_45 : tX12_say 45 = oAl 0 46 := (congrFun teX12_say 45).trans rfl
theorem tX12_say_46 : tX12_say 46 = oGet 12 22 49 := (congrFun teX12_say 46).trans rfl
theorem tX12_say_49 : tX12_say 49 = oK (.int (nI 1)) 50 := (congrFun teX12_say 49).trans rfl
theorem tX12_say_50 : tX12_say 50 = oSub 51 := (congrFun teX12_say 50).trans rfl
theorem tX12_say_51 : tX12_say 51 = oCallS mX12_in 3 54 := (congrFun teX12_say 51).trans rfl
theorem tX12_say_54 : tX12_say 54 = oIf1eq 66 57 := (congrFun teX12_say 54).trans rfl
theorem tX12_say_57 : tX12_say 57 = oAl 0 58 := (congrFun teX12_say 57).trans rfl
theorem tX12_say_58 : tX12_say 58 = oGet 12 23 61 := (congrFun teX12_say 58).trans rfl
theorem tX12_say_61 : tX12_say 61 = oIl 2 62 := (congrFun teX12_say 61).trans rfl
theorem tX12_say_62 : tX12_say 62 = oIald 63 := (congrFun teX12_say 62).trans rfl
theorem tX12_say_63 : tX12_say 63 = oGo 67 := (congrFun teX12_say 63).trans rfl
theorem tX12_say_66 : tX12_say 66 = oK (.int (-1)) 67 := (congrFun teX12_say 66).trans rfl
theorem tX12_say_67 : tX12_say 67 = oIret := (congrFun teX12_say 67).trans rfl
def lX12_drop : List (Nat × qP) := [(0, oAl 0 1), (1, oIl 1 2), (2, oCallV 12 mX12_has 1 5), (5, oIf1ne 10 8), (8, oK (.int (-1)) 9), (9, oIret), (10, oAl 0 11), (11, oGet 12 13 14), (14, oIl 1 15), (15, oK (.int (nI 0)) 16), (16, oIast 17), (17, oK (.int (nI 1)) 18), (18, oIret)]
def uX12_drop : Nat → qP := q_tb lX12_drop
set_option maxRecDepth 20000 in
theorem suX12_drop : q_Snd mX12_drop uX12_drop := by
  refine q_tb_ok ?_
  unfold lX12_drop
  refine q_fa (ok_aload_n (by decide +kernel : decode cX12_drop 0 = .ok (.aload_n 0, 1)) rfl rfl) ?_
  refine q_fa (ok_iload_n (by decide +kernel : decode cX12_drop 1 = .ok (.iload_n 1, 1)) rfl rfl) ?_
  refine q_fa (ok_callV (by decide +kernel : decode cX12_drop 2 = .ok (.invokevirtual 243, 3)) rfl kX12_has.1 kX12_has.2.1 kX12_has.2.2.1 kX12_has.2.2.2.1 kX12_has.2.2.2.2 (rfl : vwCl[12]? = some (RX12, TX12, 58)) g1255 gs60 g1253) ?_
  refine q_fa (ok_if1ne (by decide +kernel : decode cX12_drop 5 = .ok (.ifCond .ne 5, 3)) (by decide) rfl) ?_
  refine q_fa (ok_iconst (by decide +kernel : decode cX12_drop 8 = .ok (.iconst (-1), 1)) rfl (by decide +kernel)) ?_
  refine q_fa (ok_iret (by decide +kernel : decode cX12_drop 9 = .ok (.ireturn, 1)) rfl) ?_
  refine q_fa (ok_aload_n (by decide +kernel : decode cX12_drop 10 = .ok (.aload_n 0, 1)) rfl rfl) ?_
  refine q_fa (ok_get (by decide +kernel : decode cX12_drop 11 = .ok (.getfield 41, 3)) rfl (rfl : vwCl[12]? = some (RX12, TX12, 58)) inX12 (by decide) g1017) ?_
  refine q_fa (ok_iload_n (by decide +kernel : decode cX12_drop 14 = .ok (.iload_n 1, 1)) rfl rfl) ?_
  refine q_fa (ok_iconst (by decide +kernel : decode cX12_drop 15 = .ok (.iconst 0, 1)) rfl (by decide +kernel)) ?_
  refine q_fa (ok_iastore (by decide +kernel : decode cX12_drop 16 = .ok (.iastore, 1)) rfl) ?_
  refine q_fa (ok_iconst (by decide +kernel : decode cX12_drop 17 = .ok (.iconst 1, 1)) rfl (by decide +kernel)) ?_
  refine q_fa (ok_iret (by decide +kernel : decode cX12_drop 18 = .ok (.ireturn, 1)) rfl) ?_
  exact q_fa0
theorem exX12_drop : ∃ t : Nat → qP, t = uX12_drop := ⟨_, rfl⟩
noncomputable def tX12_drop : Nat → qP := Classical.choose exX12_drop
theorem teX12_drop : tX12_drop = uX12_drop := Classical.choose_spec exX12_drop
theorem sX12_drop : q_Snd mX12_drop tX12_drop := by rw [teX12_drop]; exact suX12_drop
theorem tX12_drop_0 : tX12_drop 0 = oAl 0 1 := (congrFun teX12_drop 0).trans rfl
theorem tX12_drop_1 : tX12_drop 1 = oIl 1 2 := (congrFun teX12_drop 1).trans rfl
theorem tX12_drop_2 : tX12_drop 2 = oCallV 12 mX12_has 1 5 := (congrFun teX12_drop 2).trans rfl
theorem tX12_drop_5 : tX12_drop 5 = oIf1ne 10 8 := (congrFun teX12_drop 5).trans rfl
theorem tX12_drop_8 : tX12_drop 8 = oK (.int (-1)) 9 := (congrFun teX12_drop 8).trans rfl
theorem tX12_drop_9 : tX12_drop 9 = oIret := (congrFun teX12_drop 9).trans rfl
theorem tX12_drop_10 : tX12_drop 10 = oAl 0 11 := (congrFun teX12_drop 10).trans rfl
theorem tX12_drop_11 : tX12_drop 11 = oGet 12 13 14 := (congrFun teX12_drop 11).trans rfl
theorem tX12_drop_14 : tX12_drop 14 = oIl 1 15 := (congrFun teX12_drop 14).trans rfl
theorem tX12_drop_15 : tX12_drop 15 = oK (.int (nI 0)) 16 := (congrFun teX12_drop 15).trans rfl
theorem tX12_drop_16 : tX12_drop 16 = oIast 17 := (congrFun teX12_drop 16).trans rfl
theorem tX12_drop_17 : tX12_drop 17 = oK (.int (nI 1)) 18 := (congrFun teX12_drop 17).trans rfl
theorem tX12_drop_18 : tX12_drop 18 = oIret := (congrFun teX12_drop 18).trans rfl
def lX12_find0 : List (Nat × qP) := [(0, oAl 0 1), (1, oGet 12 5 4), (4, oIl 1 5), (5, oIald 6), (6, oIf1ge 13 9), (9, oK (.int (-1)) 10), (10, oGo 23), (13, oAl 0 14), (14, oAl 0 15), (15, oGet 12 5 18), (18, oIl 1 19), (19, oIald 20), (20, oCallV 12 mX12_find0 1 23), (23, oIs 2 24), (24, oAl 0 25), (25, oGet 12 6 28), (28, oIl 1 29), (29, oIald 30), (30, oIf1ge 37 33), (33, oK (.int (-1)) 34), (34, oGo 47), (37, oAl 0 38), (38, oAl 0 39), (39, oGet 12 6 42), (42, oIl 1 43), (43, oIald 44), (44, oCallV 12 mX12_find0 1 47), (47, oIs 3 48), (48, oAl 0 49), (49, oGet 12 12 52), (52, oAl 0 53), (53, oGet 12 7 56), (56, oIl 1 57), (57, oIald 58), (58, oIald 59), (59, oIs 4 61), (61, oAl 0 62), (62, oGet 12 3 65), (65, oIl 4 67), (67, oIald 68), (68, oAl 0 69), (69, oGet 12 3 72), (72, oIl 1 73), (73, oIald 74), (74, oIf2ne 115 77), (77, oAl 0 78), (78, oGet 12 4 81), (81, oIl 4 83), (83, oIald 84), (84, oAl 0 85), (85, oGet 12 4 88), (88, oIl 1 89), (89, oIald 90), (90, oIf2ne 115 93), (93, oAl 0 94), (94, oGet 12 5 97), (97, oIl 4 99), (99, oIald 100), (100, oIl 2 101), (101, oIf2ne 115 104), (104, oAl 0 105), (105, oGet 12 6 108), (108, oIl 4 110), (110, oIald 111), (111, oIl 3 112), (112, oIf2eq 121 115), (115, oInc 4 (nI 1) 118), (118, oGo 61), (121, oIl 4 123), (123, oIret)]
def uX12_find0 : Nat → qP := q_tb lX12_find0
set_option maxRecDepth 20000 in
theorem suX12_find0 : q_Snd mX12_find0 uX12_find0 := by
  refine q_tb_ok ?_
  unfold lX12_find0
  refine q_fa (ok_aload_n (by decide +kernel : decode cX12_find0 0 = .ok (.aload_n 0, 1)) rfl rfl) ?_
  refine q_fa (ok_get (by decide +kernel : decode cX12_find0 1 = .ok (.getfield 19, 3)) rfl (rfl : vwCl[12]? = some (RX12, TX12, 58)) inX12 (by decide) g1009) ?_
  refine q_fa (ok_iload_n (by decide +kernel : decode cX12_find0 4 = .ok (.iload_n 1, 1)) rfl rfl) ?_
  refine q_fa (ok_iaload (by decide +kernel : decode cX12_find0 5 = .ok (.iaload, 1)) rfl) ?_
  refine q_fa (ok_if1ge (by decide +kernel : decode cX12_find0 6 = .ok (.ifCond .ge 7, 3)) (by decide) rfl) ?_
  refine q_fa (ok_iconst (by decide +kernel : decode cX12_find0 9 = .ok (.iconst (-1), 1)) rfl (by decide +kernel)) ?_
  refine q_fa (ok_goto (by decide +kernel : decode cX12_find0 10 = .ok (.goto 13, 3)) (by decide)) ?_
  refine q_fa (ok_aload_n (by decide +kernel : decode cX12_find0 13 = .ok (.aload_n 0, 1)) rfl rfl) ?_
  refine q_fa (ok_aload_n (by decide +kernel : decode cX12_find0 14 = .ok (.aload_n 0, 1)) rfl rfl) ?_
  refine q_fa (ok_get (by decide +kernel : decode cX12_find0 15 = .ok (.getfield 19, 3)) rfl (rfl : vwCl[12]? = some (RX12, TX12, 58)) inX12 (by decide) g1009) ?_
  refine q_fa (ok_iload_n (by decide +kernel : decode cX12_find0 18 = .ok (.iload_n 1, 1)) rfl rfl) ?_
  refine q_fa (ok_iaload (by decide +kernel : decode cX12_find0 19 = .ok (.iaload, 1)) rfl) ?_
  refine q_fa (ok_callV (by decide +kernel : decode cX12_find0 20 = .ok (.invokevirtual 249, 3)) rfl kX12_find0.1 kX12_find0.2.1 kX12_find0.2.2.1 kX12_find0.2.2.2.1 kX12_find0.2.2.2.2 (rfl : vwCl[12]? = some (RX12, TX12, 58)) g1295 gs68 g1293) ?_
  refine q_fa (ok_istore_n (by decide +kernel : decode cX12_find0 23 = .ok (.istore_n 2, 1)) rfl rfl (by decide)) ?_
  refine q_fa (ok_aload_n (by decide +kernel : decode cX12_find0 24 = .ok (.aload_n 0, 1)) rfl rfl) ?_
  refine q_fa (ok_get (by decide +kernel : decode cX12_find0 25 = .ok (.getfield 22, 3)) rfl (rfl : vwCl[12]? = some (RX12, TX12, 58)) inX12 (by decide) g1010) ?_
  refine q_fa (ok_iload_n (by decide +kernel : decode cX12_find0 28 = .ok (.iload_n 1, 1)) rfl rfl) ?_
  refine q_fa (ok_iaload (by decide +kernel : decode cX12_find0 29 = .ok (.iaload, 1)) rfl) ?_
  refine q_fa (ok_if1ge (by decide +kernel : decode cX12_find0 30 = .ok (.ifCond .ge 7, 3)) (by decide) rfl) ?_
  refine q_fa (ok_iconst (by decide +kernel : decode cX12_find0 33 = .ok (.iconst (-1), 1)) rfl (by decide +kernel)) ?_
  refine q_fa (ok_goto (by decide +kernel : decode cX12_find0 34 = .ok (.goto 13, 3)) (by decide)) ?_
  refine q_fa (ok_aload_n (by decide +kernel : decode cX12_find0 37 = .ok (.aload_n 0, 1)) rfl rfl) ?_
  refine q_fa (ok_aload_n (by decide +kernel : decode cX12_find0 38 = .ok (.aload_n 0, 1)) rfl rfl) ?_
  refine q_fa (ok_get (by decide +kernel : decode cX12_find0 39 = .ok (.getfield 22, 3)) rfl (rfl : vwCl[12]? = some (RX12, TX12, 58)) inX12 (by decide) g1010) ?_
  refine q_fa (ok_iload_n (by decide +kernel : decode cX12_find0 42 = .ok (.iload_n 1, 1)) rfl rfl) ?_
  refine q_fa (ok_iaload (by decide +kernel : decode cX12_find0 43 = .ok (.iaload, 1)) rfl) ?_
  refine q_fa (ok_callV (by decide +kernel : decode cX12_find0 44 = .ok (.invokevirtual 249, 3)) rfl kX12_find0.1 kX12_find0.2.1 kX12_find0.2.2.1 kX12_find0.2.2.2.1 kX12_find0.2.2.2.2 (rfl : vwCl[12]? = some (RX12, TX12, 58)) g1295 gs68 g1293) ?_
  refine q_fa (ok_istore_n (by decide +kernel : decode cX12_find0 47 = .ok (.istore_n 3, 1)) rfl rfl (by decide)) ?_
  refine q_fa (ok_aload_n (by decide +kernel : decode cX12_find0 48 = .ok (.aload_n 0, 1)) rfl rfl) ?_
  refine q_fa (ok_get (by decide +kernel : decode cX12_find0 49 = .ok (.getfield 38, 3)) rfl (rfl : vwCl[12]? = some (RX12, TX12, 58)) inX12 (by decide) g1016) ?_
  refine q_fa (ok_aload_n (by decide +kernel : decode cX12_find0 52 = .ok (.aload_n 0, 1)) rfl rfl) ?_
  refine q_fa (ok_get (by decide +kernel : decode cX12_find0 53 = .ok (.getfield 25, 3)) rfl (rfl : vwCl[12]? = some (RX12, TX12, 58)) inX12 (by decide) g1011) ?_
  refine q_fa (ok_iload_n (by decide +kernel : decode cX12_find0 56 = .ok (.iload_n 1, 1)) rfl rfl) ?_
  refine q_fa (ok_iaload (by decide +kernel : decode cX12_find0 57 = .ok (.iaload, 1)) rfl) ?_
  refine q_fa (ok_iaload (by decide +kernel : decode cX12_find0 58 = .ok (.iaload, 1)) rfl) ?_
  refine q_fa (ok_istore (by decide +kernel : decode cX12_find0 59 = .ok (.istore 4, 2)) rfl (by decide)) ?_
  refine q_fa (ok_aload_n (by decide +kernel : decode cX12_find0 61 = .ok (.aload_n 0, 1)) rfl rfl) ?_
  refine q_fa (ok_get (by decide +kernel : decode cX12_find0 62 = .ok (.getfield 13, 3)) rfl (rfl : vwCl[12]? = some (RX12, TX12, 58)) inX12 (by decide) g1007) ?_
  refine q_fa (ok_iload (by decide +kernel : decode cX12_find0 65 = .ok (.iload 4, 2)) rfl) ?_
  refine q_fa (ok_iaload (by decide +kernel : decode cX12_find0 67 = .ok (.iaload, 1)) rfl) ?_
  refine q_fa (ok_aload_n (by decide +kernel : decode cX12_find0 68 = .ok (.aload_n 0, 1)) rfl rfl) ?_
  refine q_fa (ok_get (by decide +kernel : decode cX12_find0 69 = .ok (.getfield 13, 3)) rfl (rfl : vwCl[12]? = some (RX12, TX12, 58)) inX12 (by decide) g1007) ?_
  refine q_fa (ok_iload_n (by decide +kernel : decode cX12_find0 72 = .ok (.iload_n 1, 1)) rfl rfl) ?_
  refine q_fa (ok_iaload (by decide +kernel : decode cX12_find0 73 = .ok (.iaload, 1)) rfl) ?_
  refine q_fa (ok_if2ne (by decide +kernel : decode cX12_find0 74 = .ok (.if_icmp .ne 41, 3)) (by decide) rfl) ?_
  refine q_fa (ok_aload_n (by decide +kernel : decode cX12_find0 77 = .ok (.aload_n 0, 1)) rfl rfl) ?_
  refine q_fa (ok_get (by decide +kernel : decode cX12_find0 78 = .ok (.getfield 16, 3)) rfl (rfl : vwCl[12]? = some (RX12, TX12, 58)) inX12 (by decide) g1008) ?_
  refine q_fa (ok_iload (by decide +kernel : decode cX12_find0 81 = .ok (.iload 4, 2)) rfl) ?_
  refine q_fa (ok_iaload (by decide +kernel : decode cX12_find0 83 = .ok (.iaload, 1)) rfl) ?_
  refine q_fa (ok_aload_n (by decide +kernel : decode cX12_find0 84 = .ok (.aload_n 0, 1)) rfl rfl) ?_
  refine q_fa (ok_get (by decide +kernel : decode cX12_find0 85 = .ok (.getfield 16, 3)) rfl (rfl : vwCl[12]? = some (RX12, TX12, 58)) inX12 (by decide) g1008) ?_
  refine q_fa (ok_iload_n (by decide +kernel : decode cX12_find0 88 = .ok (.iload_n 1, 1)) rfl rfl) ?_
  refine q_fa (ok_iaload (by decide +kernel : decode cX12_find0 89 = .ok (.iaload, 1)) rfl) ?_
  refine q_fa (ok_if2ne (by decide +kernel : decode cX12_find0 90 = .ok (.if_icmp .ne 25, 3)) (by decide) rfl) ?_
  refine q_fa (ok_aload_n (by decide +kernel : decode cX12_find0 93 = .ok (.aload_n 0, 1)) rfl rfl) ?_
  refine q_fa (ok_get (by decide +kernel : decode cX12_find0 94 = .ok (.getfield 19, 3)) rfl (rfl : vwCl[12]? = some (RX12, TX12, 58)) inX12 (by decide) g1009) ?_
  refine q_fa (ok_iload (by decide +kernel : decode cX12_find0 97 = .ok (.iload 4, 2)) rfl) ?_
  refine q_fa (ok_iaload (by decide +kernel : decode cX12_find0 99 = .ok (.iaload, 1)) rfl) ?_
  refine q_fa (ok_iload_n (by decide +kernel : decode cX12_find0 100 = .ok (.iload_n 2, 1)) rfl rfl) ?_
  refine q_fa (ok_if2ne (by decide +kernel : decode cX12_find0 101 = .ok (.if_icmp .ne 14, 3)) (by decide) rfl) ?_
  refine q_fa (ok_aload_n (by decide +kernel : decode cX12_find0 104 = .ok (.aload_n 0, 1)) rfl rfl) ?_
  refine q_fa (ok_get (by decide +kernel : decode cX12_find0 105 = .ok (.getfield 22, 3)) rfl (rfl : vwCl[12]? = some (RX12, TX12, 58)) inX12 (by decide) g1010) ?_
  refine q_fa (ok_iload (by decide +kernel : decode cX12_find0 108 = .ok (.iload 4, 2)) rfl) ?_
  refine q_fa (ok_iaload (by decide +kernel : decode cX12_find0 110 = .ok (.iaload, 1)) rfl) ?_
  refine q_fa (ok_iload_n (by decide +kernel : decode cX12_find0 111 = .ok (.iload_n 3, 1)) rfl rfl) ?_
  refine q_fa (ok_if2eq (by decide +kernel : decode cX12_find0 112 = .ok (.if_icmp .eq 9, 3)) (by decide) rfl) ?_
  refine q_fa (ok_iinc (by decide +kernel : decode cX12_find0 115 = .ok (.iinc 4 1, 3)) rfl (by decide +kernel) (by decide)) ?_
  refine q_fa (ok_goto (by decide +kernel : decode cX12_find0 118 = .ok (.goto (-57), 3)) (by decide)) ?_
  refine q_fa (ok_iload (by decide +kernel : decode cX12_find0 121 = .ok (.iload 4, 2)) rfl) ?_
  refine q_fa (ok_iret (by decide +kernel : decode cX12_find0 123 = .ok (.ireturn, 1)) rfl) ?_
  exact q_fa0
theorem exX12_find0 : ∃ t : Nat → qP, t = uX12_find0 := ⟨_, rfl⟩
noncomputable def tX12_find0 : Nat → qP := Classical.choose exX12_find0
theorem teX12_find0 : tX12_find0 = uX12_find0 := Classical.choose_spec exX12_find0
theorem sX12_find0 : q_Snd mX12_find0 tX12_find0 := by rw [teX12_find0]; exact suX12_find0
theorem tX12_find0_0 : tX12_find0 0 = oAl 0 1 := (congrFun teX12_find0 0).trans rfl
theorem tX12_find0_1 : tX12_find0 1 = oGet 12 5 4 := (congrFun teX12_find0 1).trans rfl
theorem tX12_find0_4 : tX12_find0 4 = oIl 1 5 := (congrFun teX12_find0 4).trans rfl
theorem tX12_find0_5 : tX12_find0 5 = oIald 6 := (congrFun teX12_find0 5).trans rfl
theorem tX12_find0_6 : tX12_find0 6 = oIf1ge 13 9 := (congrFun teX12_find0 6).trans rfl
theorem tX12_find0_9 : tX12_find0 9 = oK (.int (-1)) 10 := (congrFun teX12_find0 9).trans rfl
theorem tX12_find0_10 : tX12_find0 10 = oGo 23 := (congrFun teX12_find0 10).trans rfl
theorem tX12_find0_13 : tX12_find0 13 = oAl 0 14 := (congrFun teX12_find0 13).trans rfl
theorem tX12_find0_14 : tX12_find0 14 = oAl 0 15 := (congrFun teX12_find0 14).trans rfl
theorem tX12_find0_15 : tX12_find0 15 = oGet 12 5 18 := (congrFun teX12_find0 15).trans rfl
theorem tX12_find0_18 : tX12_find0 18 = oIl 1 19 := (congrFun teX12_find0 18).trans rfl
theorem tX12_find0_19 : tX12_find0 19 = oIald 20 := (congrFun teX12_find0 19).trans rfl
theorem tX12_find0_20 : tX12_find0 20 = oCallV 12 mX12_find0 1 23 := (congrFun teX12_find0 20).trans rfl
theorem tX12_find0_23 : tX12_find0 23 = oIs 2 24 := (congrFun teX12_find0 23).trans rfl
theorem tX12_find0_24 : tX12_find0 24 = oAl 0 25 := (congrFun teX12_find0 24).trans rfl
theorem tX12_find0_25 : tX12_find0 25 = oGet 12 6 28 := (congrFun teX12_find0 25).trans rfl
theorem tX12_find0_28 : tX12_find0 28 = oIl 1 29 := (congrFun teX12_find0 28).trans rfl
theorem tX12_find0_29 : tX12_find0 29 = oIald 30 := (congrFun teX12_find0 29).trans rfl
theorem tX12_find0_30 : tX12_find0 30 = oIf1ge 37 33 := (congrFun teX12_find0 30).trans rfl
theorem tX12_find0_33 : tX12_find0 33 = oK (.int (-1)) 34 := (congrFun teX12_find0 33).trans rfl
theorem tX12_find0_34 : tX12_find0 34 = oGo 47 := (congrFun teX12_find0 34).trans rfl
theorem tX12_find0_37 : tX12_find0 37 = oAl 0 38 := (congrFun teX12_find0 37).trans rfl
theorem tX12_find0_38 : tX12_find0 38 = oAl 0 39 := (congrFun teX12_find0 38).trans rfl
theorem tX12_find0_39 : tX12_find0 39 = oGet 12 6 42 := (congrFun teX12_find0 39).trans rfl
theorem tX12_find0_42 : tX12_find0 42 = oIl 1 43 := (congrFun teX12_find0 42).trans rfl
theorem tX12_find0_43 : tX12_find0 43 = oIald 44 := (congrFun teX12_find0 43).trans rfl
theorem tX12_find0_44 : tX12_find0 44 = oCallV 12 mX12_find0 1 47 := (congrFun teX12_find0 44).trans rfl
theorem tX12_find0_47 : tX12_find0 47 = oIs 3 48 := (congrFun teX12_find0 47).trans rfl
theorem tX12_find0_48 : tX12_find0 48 = oAl 0 49 := (congrFun teX12_find0 48).trans rfl
theorem tX12_find0_49 : tX12_find0 49 = oGet 12 12 52 := (congrFun teX12_find0 49).trans rfl
theorem tX12_find0_52 : tX12_find0 52 = oAl 0 53 := (congrFun teX12_find0 52).trans rfl
theorem tX12_find0_53 : tX12_find0 53 = oGet 12 7 56 := (congrFun teX12_find0 53).trans rfl
theorem tX12_find0_56 : tX12_find0 56 = oIl 1 57 := (congrFun teX12_find0 56).trans rfl
theorem tX12_find0_57 : tX12_find0 57 = oIald 58 := (congrFun teX12_find0 57).trans rfl
theorem tX12_find0_58 : tX12_find0 58 = oIald 59 := (congrFun teX12_find0 58).trans rfl
theorem tX12_find0_59 : tX12_find0 59 = oIs 4 61 := (congrFun teX12_find0 59).trans rfl
theorem tX12_find0_61 : tX12_find0 61 = oAl 0 62 := (congrFun teX12_find0 61).trans rfl
theorem tX12_find0_62 : tX12_find0 62 = oGet 12 3 65 := (congrFun teX12_find0 62).trans rfl
theorem tX12_find0_65 : tX12_find0 65 = oIl 4 67 := (congrFun teX12_find0 65).trans rfl
theorem tX12_find0_67 : tX12_find0 67 = oIald 68 := (congrFun teX12_find0 67).trans rfl
theorem tX12_find0_68 : tX12_find0 68 = oAl 0 69 := (congrFun teX12_find0 68).trans rfl
theorem tX12_find0_69 : tX12_find0 69 = oGet 12 3 72 := (congrFun teX12_find0 69).trans rfl
theorem tX12_find0_72 : tX12_find0 72 = oIl 1 73 := (congrFun teX12_find0 72).trans rfl
theorem tX12_find0_73 : tX12_find0 73 = oIald 74 := (congrFun teX12_find0 73).trans rfl
theorem tX12_find0_74 : tX12_find0 74 = oIf2ne 115 77 := (congrFun teX12_find0 74).trans rfl
theorem tX12_find0_77 : tX12_find0 77 = oAl 0 78 := (congrFun teX12_find0 77).trans rfl
theorem tX12_find0_78 : tX12_find0 78 = oGet 12 4 81 := (congrFun teX12_find0 78).trans rfl
theorem tX12_find0_81 : tX12_find0 81 = oIl 4 83 := (congrFun teX12_find0 81).trans rfl
theorem tX12_find0_83 : tX12_find0 83 = oIald 84 := (congrFun teX12_find0 83).trans rfl
theorem tX12_find0_84 : tX12_find0 84 = oAl 0 85 := (congrFun teX12_find0 84).trans rfl
theorem tX12_find0_85 : tX12_find0 85 = oGet 12 4 88 := (congrFun teX12_find0 85).trans rfl
theorem tX12_find0_88 : tX12_find0 88 = oIl 1 89 := (congrFun teX12_find0 88).trans rfl
theorem tX12_find0_89 : tX12_find0 89 = oIald 90 := (congrFun teX12_find0 89).trans rfl
theorem tX12_find0_90 : tX12_find0 90 = oIf2ne 115 93 := (congrFun teX12_find0 90).trans rfl
theorem tX12_find0_93 : tX12_find0 93 = oAl 0 94 := (congrFun teX12_find0 93).trans rfl
theorem tX12_find0_94 : tX12_find0 94 = oGet 12 5 97 := (congrFun teX12_find0 94).trans rfl
theorem tX12_find0_97 : tX12_find0 97 = oIl 4 99 := (congrFun teX12_find0 97).trans rfl
theorem tX12_find0_99 : tX12_find0 99 = oIald 100 := (congrFun teX12_find0 99).trans rfl
theorem tX12_find0_100 : tX12_find0 100 = oIl 2 101 := (congrFun teX12_find0 100).trans rfl
theorem tX12_find0_101 : tX12_find0 101 = oIf2ne 115 104 := (congrFun teX12_find0 101).trans rfl
theorem tX12_find0_104 : tX12_find0 104 = oAl 0 105 := (congrFun teX12_find0 104).trans rfl
theorem tX12_find0_105 : tX12_find0 105 = oGet 12 6 108 := (congrFun teX12_find0 105).trans rfl
theorem tX12_find0_108 : tX12_find0 108 = oIl 4 110 := (congrFun teX12_find0 108).trans rfl
theorem tX12_find0_110 : tX12_find0 110 = oIald 111 := (congrFun teX12_find0 110).trans rfl
theorem tX12_find0_111 : tX12_find0 111 = oIl 3 112 := (congrFun teX12_find0 111).trans rfl
theorem tX12_find0_112 : tX12_find0 112 = oIf2eq 121 115 := (congrFun teX12_find0 112).trans rfl
theorem tX12_find0_115 : tX12_find0 115 = oInc 4 (nI 1) 118 := (congrFun teX12_find0 115).trans rfl
theorem tX12_find0_118 : tX12_find0 118 = oGo 61 := (congrFun teX12_find0 118).trans rfl
theorem tX12_find0_121 : tX12_find0 121 = oIl 4 123 := (congrFun teX12_find0 121).trans rfl
theorem tX12_find0_123 : tX12_find0 123 = oIret := (congrFun teX12_find0 123).trans rfl
def lX12_about : List (Nat × qP) := [(0, oAl 0 1), (1, oIl 1 2), (2, oCallV 12 mX12_has 1 5), (5, oIf1eq 17 8), (8, oIl 2 9), (9, oK (.int (nI 0)) 10), (10, oK (.int (nI 3)) 11), (11, oCallS mX12_in 3 14), (14, oIf1ne 19 17), (17, oK (.int (-1)) 18), (18, oIret), (19, oAl 0 20), (20, oCallV 12 mX12_lay 0 23), (23, oAl 0 24), (24, oK (.int (nI 6000)) 27), (27, oPutI 12 10 30), (30, oAl 0 31), (31, oIl 1 32), (32, oCallV 12 mX12_treeOf 1 35), (35, oIs 3 36), (36, oIl 2 37), (37, oK (.int (nI 2)) 38), (38, oIf2ge 61 41), (41, oIl 2 42), (42, oIf1ne 54 45), (45, oAl 0 46), (46, oGet 12 7 49), (49, oIl 3 50), (50, oIald 51), (51, oGo 60), (54, oAl 0 55), (55, oGet 12 8 58), (58, oIl 3 59), (59, oIald 60), (60, oIret), (61, oAl 0 62), (62, oGet 12 7 65), (65, oIl 3 66), (66, oIald 67), (67, oK (.int (nI 10)) 69), (69, oIf2le 75 72), (72, oK (.int (-2)) 74), (74, oIret), (75, oIl 2 76), (76, oK (.int (nI 2)) 77), (77, oIf2ne 108 80), (80, oAl 0 81), (81, oGet 12 12 84), (84, oAl 0 85), (85, oGet 12 7 88), (88, oIl 3 89), (89, oIald 90), (90, oK (.int (nI 1)) 91), (91, oAdd 92), (92, oIald 93), (93, oAl 0 94), (94, oGet 12 12 97), (97, oAl 0 98), (98, oGet 12 7 101), (101, oIl 3 102), (102, oIald 103), (103, oIald 104), (104, oSub 105), (105, oGo 125), (108, oAl 0 109), (109, oIl 3 110), (110, oCallV 12 mX12_find0 1 113), (113, oAl 0 114), (114, oGet 12 12 117), (117, oAl 0 118), (118, oGet 12 7 121), (121, oIl 3 122), (122, oIald 123), (123, oIald 124), (124, oSub 125), (125, oIret)]
def uX12_about : Nat → qP := q_tb lX12_about
set_option maxRecDepth 20000 in
theorem suX12_about : q_Snd mX12_about uX12_about := by
  refine q_tb_ok ?_
  unfold lX12_about
  refine q_fa (ok_aload_n (by decide +kernel : decode cX12_about 0 = .ok (.aload_n 0, 1)) rfl rfl) ?_
  refine q_fa (ok_iload_n (by decide +kernel : decode cX12_about 1 = .ok (.iload_n 1, 1)) rfl rfl) ?_
  refine q_fa (ok_callV (by decide +kernel : decode cX12_about 2 = .ok (.invokevirtual 243, 3)) rfl kX12_has.1 kX12_has.2.1 kX12_has.2.2.1 kX12_has.2.2.2.1 kX12_has.2.2.2.2 (rfl : vwCl[12]? = some (RX12, TX12, 58)) g1255 gs60 g1253) ?_
  refine q_fa (ok_if1eq (by decide +kernel : decode cX12_about 5 = .ok (.ifCond .eq 12, 3)) (by decide) rfl) ?_
  refine q_fa (ok_iload_n (by decide +kernel : decode cX12_about 8 = .ok (.iload_n 2, 1)) rfl rfl) ?_
  refine q_fa (ok_iconst (by decide +kernel : decode cX12_about 9 = .ok (.iconst 0, 1)) rfl (by decide +kernel)) ?_
  refine q_fa (ok_iconst (by decide +kernel : decode cX12_about 10 = .ok (.iconst 3, 1)) rfl (by decide +kernel)) ?_
  refine q_fa (ok_callS (by decide +kernel : decode cX12_about 11 = .ok (.invokestatic 163, 3)) rfl kX12_in.1 kX12_in.2.1 kX12_in.2.2.1 kX12_in.2.2.2.1 kX12_in.2.2.2.2 g1185 g1184) ?_
  refine q_fa (ok_if1ne (by decide +kernel : decode cX12_about 14 = .ok (.ifCond .ne 5, 3)) (by decide) rfl) ?_
  refine q_fa (ok_iconst (by decide +kernel : decode cX12_about 17 = .ok (.iconst (-1), 1)) rfl (by decide +kernel)) ?_
  refine q_fa (ok_iret (by decide +kernel : decode cX12_about 18 = .ok (.ireturn, 1)) rfl) ?_
  refine q_fa (ok_aload_n (by decide +kernel : decode cX12_about 19 = .ok (.aload_n 0, 1)) rfl rfl) ?_
  refine q_fa (ok_callV (by decide +kernel : decode cX12_about 20 = .ok (.invokevirtual 252, 3)) rfl kX12_lay.1 kX12_lay.2.1 kX12_lay.2.2.1 kX12_lay.2.2.2.1 kX12_lay.2.2.2.2 (rfl : vwCl[12]? = some (RX12, TX12, 58)) g1287 gs66 g1285) ?_
  refine q_fa (ok_aload_n (by decide +kernel : decode cX12_about 23 = .ok (.aload_n 0, 1)) rfl rfl) ?_
  refine q_fa (ok_sipush (by decide +kernel : decode cX12_about 24 = .ok (.sipush 6000, 3)) rfl (by decide +kernel)) ?_
  refine q_fa (ok_putI tyX12 (by decide +kernel : decode cX12_about 27 = .ok (.putfield 34, 3)) rfl (rfl : vwCl[12]? = some (RX12, TX12, 58)) inX12 tyX12_ok nmX12 (by decide) g1014 (Or.inl rfl) (by decide +kernel)) ?_
  refine q_fa (ok_aload_n (by decide +kernel : decode cX12_about 30 = .ok (.aload_n 0, 1)) rfl rfl) ?_
  refine q_fa (ok_iload_n (by decide +kernel : decode cX12_about 31 = .ok (.iload_n 1, 1)) rfl rfl) ?_
  refine q_fa (ok_callV (by decide +kernel : decode cX12_about 32 = .ok (.invokevirtual 246, 3)) rfl kX12_treeOf.1 kX12_treeOf.2.1 kX12_treeOf.2.2.1 kX12_treeOf.2.2.2.1 kX12_treeOf.2.2.2.2 (rfl : vwCl[12]? = some (RX12, TX12, 58)) g1259 gs61 g1257) ?_
  refine q_fa (ok_istore_n (by decide +kernel : decode cX12_about 35 = .ok (.istore_n 3, 1)) rfl rfl (by decide)) ?_
  refine q_fa (ok_iload_n (by decide +kernel : decode cX12_about 36 = .ok (.iload_n 2, 1)) rfl rfl) ?_
  refine q_fa (ok_iconst (by decide +kernel : decode cX12_about 37 = .ok (.iconst 2, 1)) rfl (by decide +kernel)) ?_
  refine q_fa (ok_if2ge (by decide +kernel : decode cX12_about 38 = .ok (.if_icmp .ge 23, 3)) (by decide) rfl) ?_
  refine q_fa (ok_iload_n (by decide +kernel : decode cX12_about 41 = .ok (.iload_n 2, 1)) rfl rfl) ?_
  refine q_fa (ok_if1ne (by decide +kernel : decode cX12_about 42 = .ok (.ifCond .ne 12, 3)) (by decide) rfl) ?_
  refine q_fa (ok_aload_n (by decide +kernel : decode cX12_about 45 = .ok (.aload_n 0, 1)) rfl rfl) ?_
  refine q_fa (ok_get (by decide +kernel : decode cX12_about 46 = .ok (.getfield 25, 3)) rfl (rfl : vwCl[12]? = some (RX12, TX12, 58)) inX12 (by decide) g1011) ?_
  refine q_fa (ok_iload_n (by decide +kernel : decode cX12_about 49 = .ok (.iload_n 3, 1)) rfl rfl) ?_
  refine q_fa (ok_iaload (by decide +kernel : decode cX12_about 50 = .ok (.iaload, 1)) rfl) ?_
  refine q_fa (ok_goto (by decide +kernel : decode cX12_about 51 = .ok (.goto 9, 3)) (by decide)) ?_
  refine q_fa (ok_aload_n (by decide +kernel : decode cX12_about 54 = .ok (.aload_n 0, 1)) rfl rfl) ?_
  refine q_fa (ok_get (by decide +kernel : decode cX12_about 55 = .ok (.getfield 28, 3)) rfl (rfl : vwCl[12]? = some (RX12, TX12, 58)) inX12 (by decide) g1012) ?_
  refine q_fa (ok_iload_n (by decide +kernel : decode cX12_about 58 = .ok (.iload_n 3, 1)) rfl rfl) ?_
  refine q_fa (ok_iaload (by decide +kernel : decode cX12_about 59 = .ok (.iaload, 1)) rfl) ?_
  refine q_fa (ok_iret (by decide +kernel : decode cX12_about 60 = .ok (.ireturn, 1)) rfl) ?_
  refine q_fa (ok_aload_n (by decide +kernel : decode cX12_about 61 = .ok (.aload_n 0, 1)) rfl rfl) ?_
  refine q_fa (ok_get (by decide +kernel : decode cX12_about 62 = .ok (.getfield 25, 3)) rfl (rfl : vwCl[12]? = some (RX12, TX12, 58)) inX12 (by decide) g1011) ?_
  refine q_fa (ok_iload_n (by decide +kernel : decode cX12_about 65 = .ok (.iload_n 3, 1)) rfl rfl) ?_
  refine q_fa (ok_iaload (by decide +kernel : decode cX12_about 66 = .ok (.iaload, 1)) rfl) ?_
  refine q_fa (ok_bipush (by decide +kernel : decode cX12_about 67 = .ok (.bipush 10, 2)) rfl (by decide +kernel)) ?_
  refine q_fa (ok_if2le (by decide +kernel : decode cX12_about 69 = .ok (.if_icmp .le 6, 3)) (by decide) rfl) ?_
  refine q_fa (ok_bipush (by decide +kernel : decode cX12_about 72 = .ok (.bipush (-2), 2)) rfl (by decide +kernel)) ?_
  refine q_fa (ok_iret (by decide +kernel : decode cX12_about 74 = .ok (.ireturn, 1)) rfl) ?_
  refine q_fa (ok_iload_n (by decide +kernel : decode cX12_about 75 = .ok (.iload_n 2, 1)) rfl rfl) ?_
  refine q_fa (ok_iconst (by decide +kernel : decode cX12_about 76 = .ok (.iconst 2, 1)) rfl (by decide +kernel)) ?_
  refine q_fa (ok_if2ne (by decide +kernel : decode cX12_about 77 = .ok (.if_icmp .ne 31, 3)) (by decide) rfl) ?_
  refine q_fa (ok_aload_n (by decide +kernel : decode cX12_about 80 = .ok (.aload_n 0, 1)) rfl rfl) ?_
  refine q_fa (ok_get (by decide +kernel : decode cX12_about 81 = .ok (.getfield 38, 3)) rfl (rfl : vwCl[12]? = some (RX12, TX12, 58)) inX12 (by decide) g1016) ?_
  refine q_fa (ok_aload_n (by decide +kernel : decode cX12_about 84 = .ok (.aload_n 0, 1)) rfl rfl) ?_
  refine q_fa (ok_get (by decide +kernel : decode cX12_about 85 = .ok (.getfield 25, 3)) rfl (rfl : vwCl[12]? = some (RX12, TX12, 58)) inX12 (by decide) g1011) ?_
  refine q_fa (ok_iload_n (by decide +kernel : decode cX12_about 88 = .ok (.iload_n 3, 1)) rfl rfl) ?_
  refine q_fa (ok_iaload (by decide +kernel : decode cX12_about 89 = .ok (.iaload, 1)) rfl) ?_
  refine q_fa (ok_iconst (by decide +kernel : decode cX12_about 90 = .ok (.iconst 1, 1)) rfl (by decide +kernel)) ?_
  refine q_fa (ok_iadd (by decide +kernel : decode cX12_about 91 = .ok (.iadd, 1)) rfl) ?_
  refine q_fa (ok_iaload (by decide +kernel : decode cX12_about 92 = .ok (.iaload, 1)) rfl) ?_
  refine q_fa (ok_aload_n (by decide +kernel : decode cX12_about 93 = .ok (.aload_n 0, 1)) rfl rfl) ?_
  refine q_fa (ok_get (by decide +kernel : decode cX12_about 94 = .ok (.getfield 38, 3)) rfl (rfl : vwCl[12]? = some (RX12, TX12, 58)) inX12 (by decide) g1016) ?_
  refine q_fa (ok_aload_n (by decide +kernel : decode cX12_about 97 = .ok (.aload_n 0, 1)) rfl rfl) ?_
  refine q_fa (ok_get (by decide +kernel : decode cX12_about 98 = .ok (.getfield 25, 3)) rfl (rfl : vwCl[12]? = some (RX12, TX12, 58)) inX12 (by decide) g1011) ?_
  refine q_fa (ok_iload_n (by decide +kernel : decode cX12_about 101 = .ok (.iload_n 3, 1)) rfl rfl) ?_
  refine q_fa (ok_iaload (by decide +kernel : decode cX12_about 102 = .ok (.iaload, 1)) rfl) ?_
  refine q_fa (ok_iaload (by decide +kernel : decode cX12_about 103 = .ok (.iaload, 1)) rfl) ?_
  refine q_fa (ok_isub (by decide +kernel : decode cX12_about 104 = .ok (.isub, 1)) rfl) ?_
  refine q_fa (ok_goto (by decide +kernel : decode cX12_about 105 = .ok (.goto 20, 3)) (by decide)) ?_
  refine q_fa (ok_aload_n (by decide +kernel : decode cX12_about 108 = .ok (.aload_n 0, 1)) rfl rfl) ?_
  refine q_fa (ok_iload_n (by decide +kernel : decode cX12_about 109 = .ok (.iload_n 3, 1)) rfl rfl) ?_
  refine q_fa (ok_callV (by decide +kernel : decode cX12_about 110 = .ok (.invokevirtual 249, 3)) rfl kX12_find0.1 kX12_find0.2.1 kX12_find0.2.2.1 kX12_find0.2.2.2.1 kX12_find0.2.2.2.2 (rfl : vwCl[12]? = some (RX12, TX12, 58)) g1295 gs68 g1293) ?_
  refine q_fa (ok_aload_n (by decide +kernel : decode cX12_about 113 = .ok (.aload_n 0, 1)) rfl rfl) ?_
  refine q_fa (ok_get (by decide +kernel : decode cX12_about 114 = .ok (.getfield 38, 3)) rfl (rfl : vwCl[12]? = some (RX12, TX12, 58)) inX12 (by decide) g1016) ?_
  refine q_fa (ok_aload_n (by decide +kernel : decode cX12_about 117 = .ok (.aload_n 0, 1)) rfl rfl) ?_
  refine q_fa (ok_get (by decide +kernel : decode cX12_about 118 = .ok (.getfield 25, 3)) rfl (rfl : vwCl[12]? = some (RX12, TX12, 58)) inX12 (by decide) g1011) ?_
  refine q_fa (ok_iload_n (by decide +kernel : decode cX12_about 121 = .ok (.iload_n 3, 1)) rfl rfl) ?_
  refine q_fa (ok_iaload (by decide +kernel : decode cX12_about 122 = .ok (.iaload, 1)) rfl) ?_
  refine q_fa (ok_iaload (by decide +kernel : decode cX12_about 123 = .ok (.iaload, 1)) rfl) ?_
  refine q_fa (ok_isub (by decide +kernel : decode cX12_about 124 = .ok (.isub, 1)) rfl) ?_
  refine q_fa (ok_iret (by decide +kernel : decode cX12_about 125 = .ok (.ireturn, 1)) rfl) ?_
  exact q_fa0
theorem exX12_about : ∃ t : Nat → qP, t = uX12_about := ⟨_, rfl⟩
noncomputable def tX12_about : Nat → qP := Classical.choose exX12_about
theorem teX12_about : tX12_about = uX12_about := Classical.choose_spec exX12_about
theorem sX12_about : q_Snd mX12_about tX12_about := by rw [teX12_about]; exact suX12_about
theorem tX12_about_0 : tX12_about 0 = oAl 0 1 := (congrFun teX12_about 0).trans rfl
theorem tX12_about_1 : tX12_about 1 = oIl 1 2 := (congrFun teX12_about 1).trans rfl
theorem tX12_about_2 : tX12_about 2 = oCallV 12 mX12_has 1 5 := (congrFun teX12_about 2).trans rfl
theorem tX12_about_5 : tX12_about 5 = oIf1eq 17 8 := (congrFun teX12_about 5).trans rfl
theorem tX12_about_8 : tX12_about 8 = oIl 2 9 := (congrFun teX12_about 8).trans rfl
theorem tX12_about_9 : tX12_about 9 = oK (.int (nI 0)) 10 := (congrFun teX12_about 9).trans rfl
theorem tX12_about_10 : tX12_about 10 = oK (.int (nI 3)) 11 := (congrFun teX12_about 10).trans rfl
theorem tX12_about_11 : tX12_about 11 = oCallS mX12_in 3 14 := (congrFun teX12_about 11).trans rfl
theorem tX12_about_14 : tX12_about 14 = oIf1ne 19 17 := (congrFun teX12_about 14).trans rfl
theorem tX12_about_17 : tX12_about 17 = oK (.int (-1)) 18 := (congrFun teX12_about 17).trans rfl
theorem tX12_about_18 : tX12_about 18 = oIret := (congrFun teX12_about 18).trans rfl
theorem tX12_about_19 : tX12_about 19 = oAl 0 20 := (congrFun teX12_about 19).trans rfl
theorem tX12_about_20 : tX12_about 20 = oCallV 12 mX12_lay 0 23 := (congrFun teX12_about 20).trans rfl
theorem tX12_about_23 : tX12_about 23 = oAl 0 24 := (congrFun teX12_about 23).trans rfl
theorem tX12_about_24 : tX12_about 24 = oK (.int (nI 6000)) 27 := (congrFun teX12_about 24).trans rfl
theorem tX12_about_27 : tX12_about 27 = oPutI 12 10 30 := (congrFun teX12_about 27).trans rfl
theorem tX12_about_30 : tX12_about 30 = oAl 0 31 := (congrFun teX12_about 30).trans rfl
theorem tX12_about_31 : tX12_about 31 = oIl 1 32 := (congrFun teX12_about 31).trans rfl
theorem tX12_about_32 : tX12_about 32 = oCallV 12 mX12_treeOf 1 35 := (congrFun teX12_about 32).trans rfl
theorem tX12_about_35 : tX12_about 35 = oIs 3 36 := (congrFun teX12_about 35).trans rfl
theorem tX12_about_36 : tX12_about 36 = oIl 2 37 := (congrFun teX12_about 36).trans rfl
theorem tX12_about_37 : tX12_about 37 = oK (.int (nI 2)) 38 := (congrFun teX12_about 37).trans rfl
theorem tX12_about_38 : tX12_about 38 = oIf2ge 61 41 := (congrFun teX12_about 38).trans rfl
theorem tX12_about_41 : tX12_about 41 = oIl 2 42 := (congrFun teX12_about 41).trans rfl
theorem tX12_about_42 : tX12_about 42 = oIf1ne 54 45 := (congrFun teX12_about 42).trans rfl
theorem tX12_about_45 : tX12_about 45 = oAl 0 46 := (congrFun teX12_about 45).trans rfl
theorem tX12_about_46 : tX12_about 46 = oGet 12 7 49 := (congrFun teX12_about 46).trans rfl
theorem tX12_about_49 : tX12_about 49 = oIl 3 50 := (congrFun teX12_about 49).trans rfl
theorem tX12_about_50 : tX12_about 50 = oIald 51 := (congrFun teX12_about 50).trans rfl
theorem tX12_about_51 : tX12_about 51 = oGo 60 := (congrFun teX12_about 51).trans rfl
theorem tX12_about_54 : tX12_about 54 = oAl 0 55 := (congrFun teX12_about 54).trans rfl
theorem tX12_about_55 : tX12_about 55 = oGet 12 8 58 := (congrFun teX12_about 55).trans rfl
theorem tX12_about_58 : tX12_about 58 = oIl 3 59 := (congrFun teX12_about 58).trans rfl
theorem tX12_about_59 : tX12_about 59 = oIald 60 := (congrFun teX12_about 59).trans rfl
theorem tX12_about_60 : tX12_about 60 = oIret := (congrFun teX12_about 60).trans rfl
theorem tX12_about_61 : tX12_about 61 = oAl 0 62 := (congrFun teX12_about 61).trans rfl
theorem tX12_about_62 : tX12_about 62 = oGet 12 7 65 := (congrFun teX12_about 62).trans rfl
theorem tX12_about_65 : tX12_about 65 = oIl 3 66 := (congrFun teX12_about 65).trans rfl
theorem tX12_about_66 : tX12_about 66 = oIald 67 := (congrFun teX12_about 66).trans rfl
theorem tX12_about_67 : tX12_about 67 = oK (.int (nI 10)) 69 := (congrFun teX12_about 67).trans rfl
theorem tX12_about_69 : tX12_about 69 = oIf2le 75 72 := (congrFun teX12_about 69).trans rfl
theorem tX12_about_72 : tX12_about 72 = oK (.int (-2)) 74 := (congrFun teX12_about 72).trans rfl
theorem tX12_about_74 : tX12_about 74 = oIret := (congrFun teX12_about 74).trans rfl
theorem tX12_about_75 : tX12_about 75 = oIl 2 76 := (congrFun teX12_about 75).trans rfl
theorem tX12_about_76 : tX12_about 76 = oK (.int (nI 2)) 77 := (congrFun teX12_about 76).trans rfl
theorem tX12_about_77 : tX12_about 77 = oIf2ne 108 80 := (congrFun teX12_about 77).trans rfl
theorem tX12_about_80 : tX12_about 80 = oAl 0 81 := (congrFun teX12_about 80).trans rfl
theorem tX12_about_81 : tX12_about 81 = oGet 12 12 84 := (congrFun teX12_about 81).trans rfl
theorem tX12_about_84 : tX12_about 84 = oAl 0 85 := (congrFun teX12_about 84).trans rfl
theorem tX12_about_85 : tX12_about 85 = oGet 12 7 88 := (congrFun teX12_about 85).trans rfl
theorem tX12_about_88 : tX12_about 88 = oIl 3 89 := (congrFun teX12_about 88).trans rfl
theorem tX12_about_89 : tX12_about 89 = oIald 90 := (congrFun teX12_about 89).trans rfl
theorem tX12_about_90 : tX12_about 90 = oK (.int (nI 1)) 91 := (congrFun teX12_about 90).trans rfl
theorem tX12_about_91 : tX12_about 91 = oAdd 92 := (congrFun teX12_about 91).trans rfl
theorem tX12_about_92 : tX12_about 92 = oIald 93 := (congrFun teX12_about 92).trans rfl
theorem tX12_about_93 : tX12_about 93 = oAl 0 94 := (congrFun teX12_about 93).trans rfl
theorem tX12_about_94 : tX12_about 94 = oGet 12 12 97 := (congrFun teX12_about 94).trans rfl
theorem tX12_about_97 : tX12_about 97 = oAl 0 98 := (congrFun teX12_about 97).trans rfl
theorem tX12_about_98 : tX12_about 98 = oGet 12 7 101 := (congrFun teX12_about 98).trans rfl
theorem tX12_about_101 : tX12_about 101 = oIl 3 102 := (congrFun teX12_about 101).trans rfl
theorem tX12_about_102 : tX12_about 102 = oIald 103 := (congrFun teX12_about 102).trans rfl
theorem tX12_about_103 : tX12_about 103 = oIald 104 := (congrFun teX12_about 103).trans rfl
theorem tX12_about_104 : tX12_about 104 = oSub 105 := (congrFun teX12_about 104).trans rfl
theorem tX12_about_105 : tX12_about 105 = oGo 125 := (congrFun teX12_about 105).trans rfl
theorem tX12_about_108 : tX12_about 108 = oAl 0 109 := (congrFun teX12_about 108).trans rfl
theorem tX12_about_109 : tX12_about 109 = oIl 3 110 := (congrFun teX12_about 109).trans rfl
theorem tX12_about_110 : tX12_about 110 = oCallV 12 mX12_find0 1 113 := (congrFun teX12_about 110).trans rfl
theorem tX12_about_113 : tX12_about 113 = oAl 0 114 := (congrFun teX12_about 113).trans rfl
theorem tX12_about_114 : tX12_about 114 = oGet 12 12 117 := (congrFun teX12_about 114).trans rfl
theorem tX12_about_117 : tX12_about 117 = oAl 0 118 := (congrFun teX12_about 117).trans rfl
theorem tX12_about_118 : tX12_about 118 = oGet 12 7 121 := (congrFun teX12_about 118).trans rfl
theorem tX12_about_121 : tX12_about 121 = oIl 3 122 := (congrFun teX12_about 121).trans rfl
theorem tX12_about_122 : tX12_about 122 = oIald 123 := (congrFun teX12_about 122).trans rfl
theorem tX12_about_123 : tX12_about 123 = oIald 124 := (congrFun teX12_about 123).trans rfl
theorem tX12_about_124 : tX12_about 124 = oSub 125 := (congrFun teX12_about 124).trans rfl
theorem tX12_about_125 : tX12_about 125 = oIret := (congrFun teX12_about 125).trans rfl
def lX12_nth : List (Nat × qP) := [(0, oIl 1 1), (1, oCallS mX12_isPlace 1 4), (4, oIf1eq 17 7), (7, oIl 2 8), (8, oK (.int (nI 2)) 9), (9, oK (.int (nI 10)) 11), (11, oCallS mX12_in 3 14), (14, oIf1ne 19 17), (17, oK (.int (-1)) 18), (18, oIret), (19, oAl 0 20), (20, oCallV 12 mX12_lay 0 23), (23, oIl 3 24), (24, oK (.int (nI 0)) 25), (25, oAl 0 26), (26, oGet 12 12 29), (29, oIl 2 30), (30, oK (.int (nI 1)) 31), (31, oAdd 32), (32, oIald 33), (33, oAl 0 34), (34, oGet 12 12 37), (37, oIl 2 38), (38, oIald 39), (39, oSub 40), (40, oK (.int (nI 1)) 41), (41, oSub 42), (42, oCallS mX12_in 3 45), (45, oIf1ne 50 48), (48, oK (.int (-1)) 49), (49, oIret), (50, oAl 0 51), (51, oIl 1 52), (52, oAl 0 53), (53, oGet 12 12 56), (56, oIl 2 57), (57, oIald 58), (58, oIl 3 59), (59, oAdd 60), (60, oCallV 12 mX12_put 2 63), (63, oAl 0 64), (64, oGet 12 13 67), (67, oIl 1 68), (68, oIald 69), (69, oIret)]
def uX12_nth : Nat → qP := q_tb lX12_nth
set_option maxRecDepth 20000 in
theorem suX12_nth : q_Snd mX12_nth uX12_nth := by
  refine q_tb_ok ?_
  unfold lX12_nth
  refine q_fa (ok_iload_n (by decide +kernel : decode cX12_nth 0 = .ok (.iload_n 1, 1)) rfl rfl) ?_
  refine q_fa (ok_callS (by decide +kernel : decode cX12_nth 1 = .ok (.invokestatic 167, 3)) rfl kX12_isPlace.1 kX12_isPlace.2.1 kX12_isPlace.2.2.1 kX12_isPlace.2.2.2.1 kX12_isPlace.2.2.2.2 g1192 g1191) ?_
  refine q_fa (ok_if1eq (by decide +kernel : decode cX12_nth 4 = .ok (.ifCond .eq 13, 3)) (by decide) rfl) ?_
  refine q_fa (ok_iload_n (by decide +kernel : decode cX12_nth 7 = .ok (.iload_n 2, 1)) rfl rfl) ?_
  refine q_fa (ok_iconst (by decide +kernel : decode cX12_nth 8 = .ok (.iconst 2, 1)) rfl (by decide +kernel)) ?_
  refine q_fa (ok_bipush (by decide +kernel : decode cX12_nth 9 = .ok (.bipush 10, 2)) rfl (by decide +kernel)) ?_
  refine q_fa (ok_callS (by decide +kernel : decode cX12_nth 11 = .ok (.invokestatic 163, 3)) rfl kX12_in.1 kX12_in.2.1 kX12_in.2.2.1 kX12_in.2.2.2.1 kX12_in.2.2.2.2 g1185 g1184) ?_
  refine q_fa (ok_if1ne (by decide +kernel : decode cX12_nth 14 = .ok (.ifCond .ne 5, 3)) (by decide) rfl) ?_
  refine q_fa (ok_iconst (by decide +kernel : decode cX12_nth 17 = .ok (.iconst (-1), 1)) rfl (by decide +kernel)) ?_
  refine q_fa (ok_iret (by decide +kernel : decode cX12_nth 18 = .ok (.ireturn, 1)) rfl) ?_
  refine q_fa (ok_aload_n (by decide +kernel : decode cX12_nth 19 = .ok (.aload_n 0, 1)) rfl rfl) ?_
  refine q_fa (ok_callV (by decide +kernel : decode cX12_nth 20 = .ok (.invokevirtual 252, 3)) rfl kX12_lay.1 kX12_lay.2.1 kX12_lay.2.2.1 kX12_lay.2.2.2.1 kX12_lay.2.2.2.2 (rfl : vwCl[12]? = some (RX12, TX12, 58)) g1287 gs66 g1285) ?_
  refine q_fa (ok_iload_n (by decide +kernel : decode cX12_nth 23 = .ok (.iload_n 3, 1)) rfl rfl) ?_
  refine q_fa (ok_iconst (by decide +kernel : decode cX12_nth 24 = .ok (.iconst 0, 1)) rfl (by decide +kernel)) ?_
  refine q_fa (ok_aload_n (by decide +kernel : decode cX12_nth 25 = .ok (.aload_n 0, 1)) rfl rfl) ?_
  refine q_fa (ok_get (by decide +kernel : decode cX12_nth 26 = .ok (.getfield 38, 3)) rfl (rfl : vwCl[12]? = some (RX12, TX12, 58)) inX12 (by decide) g1016) ?_
  refine q_fa (ok_iload_n (by decide +kernel : decode cX12_nth 29 = .ok (.iload_n 2, 1)) rfl rfl) ?_
  refine q_fa (ok_iconst (by decide +kernel : decode cX12_nth 30 = .ok (.iconst 1, 1)) rfl (by decide +kernel)) ?_
  refine q_fa (ok_iadd (by decide +kernel : decode cX12_nth 31 = .ok (.iadd, 1)) rfl) ?_
  refine q_fa (ok_iaload (by decide +kernel : decode cX12_nth 32 = .ok (.iaload, 1)) rfl) ?_
  refine q_fa (ok_aload_n (by decide +kernel : decode cX12_nth 33 = .ok (.aload_n 0, 1)) rfl rfl) ?_
  refine q_fa (ok_get (by decide +kernel : decode cX12_nth 34 = .ok (.getfield 38, 3)) rfl (rfl : vwCl[12]? = some (RX12, TX12, 58)) inX12 (by decide) g1016) ?_
  refine q_fa (ok_iload_n (by decide +kernel : decode cX12_nth 37 = .ok (.iload_n 2, 1)) rfl rfl) ?_
  refine q_fa (ok_iaload (by decide +kernel : decode cX12_nth 38 = .ok (.iaload, 1)) rfl) ?_
  refine q_fa (ok_isub (by decide +kernel : decode cX12_nth 39 = .ok (.isub, 1)) rfl) ?_
  refine q_fa (ok_iconst (by decide +kernel : decode cX12_nth 40 = .ok (.iconst 1, 1)) rfl (by decide +kernel)) ?_
  refine q_fa (ok_isub (by decide +kernel : decode cX12_nth 41 = .ok (.isub, 1)) rfl) ?_
  refine q_fa (ok_callS (by decide +kernel : decode cX12_nth 42 = .ok (.invokestatic 163, 3)) rfl kX12_in.1 kX12_in.2.1 kX12_in.2.2.1 kX12_in.2.2.2.1 kX12_in.2.2.2.2 g1185 g1184) ?_
  refine q_fa (ok_if1ne (by decide +kernel : decode cX12_nth 45 = .ok (.ifCond .ne 5, 3)) (by decide) rfl) ?_
  refine q_fa (ok_iconst (by decide +kernel : decode cX12_nth 48 = .ok (.iconst (-1), 1)) rfl (by decide +kernel)) ?_
  refine q_fa (ok_iret (by decide +kernel : decode cX12_nth 49 = .ok (.ireturn, 1)) rfl) ?_
  refine q_fa (ok_aload_n (by decide +kernel : decode cX12_nth 50 = .ok (.aload_n 0, 1)) rfl rfl) ?_
  refine q_fa (ok_iload_n (by decide +kernel : decode cX12_nth 51 = .ok (.iload_n 1, 1)) rfl rfl) ?_
  refine q_fa (ok_aload_n (by decide +kernel : decode cX12_nth 52 = .ok (.aload_n 0, 1)) rfl rfl) ?_
  refine q_fa (ok_get (by decide +kernel : decode cX12_nth 53 = .ok (.getfield 38, 3)) rfl (rfl : vwCl[12]? = some (RX12, TX12, 58)) inX12 (by decide) g1016) ?_
  refine q_fa (ok_iload_n (by decide +kernel : decode cX12_nth 56 = .ok (.iload_n 2, 1)) rfl rfl) ?_
  refine q_fa (ok_iaload (by decide +kernel : decode cX12_nth 57 = .ok (.iaload, 1)) rfl) ?_
  refine q_fa (ok_iload_n (by decide +kernel : decode cX12_nth 58 = .ok (.iload_n 3, 1)) rfl rfl) ?_
  refine q_fa (ok_iadd (by decide +kernel : decode cX12_nth 59 = .ok (.iadd, 1)) rfl) ?_
  refine q_fa (ok_callV (by decide +kernel : decode cX12_nth 60 = .ok (.invokevirtual 226, 3)) rfl kX12_put.1 kX12_put.2.1 kX12_put.2.2.1 kX12_put.2.2.2.1 kX12_put.2.2.2.2 (rfl : vwCl[12]? = some (RX12, TX12, 58)) g1243 gs58 g1241) ?_
  refine q_fa (ok_aload_n (by decide +kernel : decode cX12_nth 63 = .ok (.aload_n 0, 1)) rfl rfl) ?_
  refine q_fa (ok_get (by decide +kernel : decode cX12_nth 64 = .ok (.getfield 41, 3)) rfl (rfl : vwCl[12]? = some (RX12, TX12, 58)) inX12 (by decide) g1017) ?_
  refine q_fa (ok_iload_n (by decide +kernel : decode cX12_nth 67 = .ok (.iload_n 1, 1)) rfl rfl) ?_
  refine q_fa (ok_iaload (by decide +kernel : decode cX12_nth 68 = .ok (.iaload, 1)) rfl) ?_
  refine q_fa (ok_iret (by decide +kernel : decode cX12_nth 69 = .ok (.ireturn, 1)) rfl) ?_
  exact q_fa0
theorem exX12_nth : ∃ t : Nat → qP, t = uX12_nth := ⟨_, rfl⟩
noncomputable def tX12_nth : Nat → qP := Classical.choose exX12_nth
theorem teX12_nth : tX12_nth = uX12_nth := Classical.choose_spec exX12_nth
theorem sX12_nth : q_Snd mX12_nth tX12_nth := by rw [teX12_nth]; exact suX12_nth
theorem tX12_nth_0 : tX12_nth 0 = oIl 1 1 := (congrFun teX12_nth 0).trans rfl
theorem tX12_nth_1 : tX12_nth 1 = oCallS mX12_isPlace 1 4 := (congrFun teX12_nth 1).trans rfl
theorem tX12_nth_4 : tX12_nth 4 = oIf1eq 17 7 := (congrFun teX12_nth 4).trans rfl
theorem tX12_nth_7 : tX12_nth 7 = oIl 2 8 := (congrFun teX12_nth 7).trans rfl
theorem tX12_nth_8 : tX12_nth 8 = oK (.int (nI 2)) 9 := (congrFun teX12_nth 8).trans rfl
theorem tX12_nth_9 : tX12_nth 9 = oK (.int (nI 10)) 11 := (congrFun teX12_nth 9).trans rfl
theorem tX12_nth_11 : tX12_nth 11 = oCallS mX12_in 3 14 := (congrFun teX12_nth 11).trans rfl
theorem tX12_nth_14 : tX12_nth 14 = oIf1ne 19 17 := (congrFun teX12_nth 14).trans rfl
theorem tX12_nth_17 : tX12_nth 17 = oK (.int (-1)) 18 := (congrFun teX12_nth 17).trans rfl
theorem tX12_nth_18 : tX12_nth 18 = oIret := (congrFun teX12_nth 18).trans rfl
theorem tX12_nth_19 : tX12_nth 19 = oAl 0 20 := (congrFun teX12_nth 19).trans rfl
theorem tX12_nth_20 : tX12_nth 20 = oCallV 12 mX12_lay 0 23 := (congrFun teX12_nth 20).trans rfl
theorem tX12_nth_23 : tX12_nth 23 = oIl 3 24 := (congrFun teX12_nth 23).trans rfl
theorem tX12_nth_24 : tX12_nth 24 = oK (.int (nI 0)) 25 := (congrFun teX12_nth 24).trans rfl
theorem tX12_nth_25 : tX12_nth 25 = oAl 0 26 := (congrFun teX12_nth 25).trans rfl
theorem tX12_nth_26 : tX12_nth 26 = oGet 12 12 29 := (congrFun teX12_nth 26).trans rfl
theorem tX12_nth_29 : tX12_nth 29 = oIl 2 30 := (congrFun teX12_nth 29).trans rfl
theorem tX12_nth_30 : tX12_nth 30 = oK (.int (nI 1)) 31 := (congrFun teX12_nth 30).trans rfl
theorem tX12_nth_31 : tX12_nth 31 = oAdd 32 := (congrFun teX12_nth 31).trans rfl
theorem tX12_nth_32 : tX12_nth 32 = oIald 33 := (congrFun teX12_nth 32).trans rfl
theorem tX12_nth_33 : tX12_nth 33 = oAl 0 34 := (congrFun teX12_nth 33).trans rfl
theorem tX12_nth_34 : tX12_nth 34 = oGet 12 12 37 := (congrFun teX12_nth 34).trans rfl
theorem tX12_nth_37 : tX12_nth 37 = oIl 2 38 := (congrFun teX12_nth 37).trans rfl
theorem tX12_nth_38 : tX12_nth 38 = oIald 39 := (congrFun teX12_nth 38).trans rfl
theorem tX12_nth_39 : tX12_nth 39 = oSub 40 := (congrFun teX12_nth 39).trans rfl
theorem tX12_nth_40 : tX12_nth 40 = oK (.int (nI 1)) 41 := (congrFun teX12_nth 40).trans rfl
theorem tX12_nth_41 : tX12_nth 41 = oSub 42 := (congrFun teX12_nth 41).trans rfl
theorem tX12_nth_42 : tX12_nth 42 = oCallS mX12_in 3 45 := (congrFun teX12_nth 42).trans rfl
theorem tX12_nth_45 : tX12_nth 45 = oIf1ne 50 48 := (congrFun teX12_nth 45).trans rfl
theorem tX12_nth_48 : tX12_nth 48 = oK (.int (-1)) 49 := (congrFun teX12_nth 48).trans rfl
theorem tX12_nth_49 : tX12_nth 49 = oIret := (congrFun teX12_nth 49).trans rfl
theorem tX12_nth_50 : tX12_nth 50 = oAl 0 51 := (congrFun teX12_nth 50).trans rfl
theorem tX12_nth_51 : tX12_nth 51 = oIl 1 52 := (congrFun teX12_nth 51).trans rfl
theorem tX12_nth_52 : tX12_nth 52 = oAl 0 53 := (congrFun teX12_nth 52).trans rfl
theorem tX12_nth_53 : tX12_nth 53 = oGet 12 12 56 := (congrFun teX12_nth 53).trans rfl
theorem tX12_nth_56 : tX12_nth 56 = oIl 2 57 := (congrFun teX12_nth 56).trans rfl
theorem tX12_nth_57 : tX12_nth 57 = oIald 58 := (congrFun teX12_nth 57).trans rfl
theorem tX12_nth_58 : tX12_nth 58 = oIl 3 59 := (congrFun teX12_nth 58).trans rfl
theorem tX12_nth_59 : tX12_nth 59 = oAdd 60 := (congrFun teX12_nth 59).trans rfl
theorem tX12_nth_60 : tX12_nth 60 = oCallV 12 mX12_put 2 63 := (congrFun teX12_nth 60).trans rfl
theorem tX12_nth_63 : tX12_nth 63 = oAl 0 64 := (congrFun teX12_nth 63).trans rfl
theorem tX12_nth_64 : tX12_nth 64 = oGet 12 13 67 := (congrFun teX12_nth 64).trans rfl
theorem tX12_nth_67 : tX12_nth 67 = oIl 1 68 := (congrFun teX12_nth 67).trans rfl
theorem tX12_nth_68 : tX12_nth 68 = oIald 69 := (congrFun teX12_nth 68).trans rfl
theorem tX12_nth_69 : tX12_nth 69 = oIret := (congrFun teX12_nth 69).trans rfl
