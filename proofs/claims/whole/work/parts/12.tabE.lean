def lX12_fits : List (Nat × qP) := [(0, oAl 0 1), (1, oIl 1 2), (2, oCallV 12 mX12_has 1 5), (5, oIf1eq 18 8), (8, oAl 0 9), (9, oIl 2 10), (10, oK (.int (nI 12)) 12), (12, oCallV 12 mX12_take 2 15), (15, oIf1ne 20 18), (18, oK (.int (-1)) 19), (19, oIret), (20, oAl 0 21), (21, oK (.int (nI 6000)) 24), (24, oPutI 12 10 27), (27, oAl 0 28), (28, oAl 0 29), (29, oIl 1 30), (30, oCallV 12 mX12_treeOf 1 33), (33, oCallV 12 mX12_isFit 1 36), (36, oIf1eq 43 39), (39, oK (.int (nI 1)) 40), (40, oGo 44), (43, oK (.int (nI 0)) 44), (44, oIret)]
def uX12_fits : Nat → qP := q_tb lX12_fits
set_option maxRecDepth 20000 in
theorem suX12_fits : q_Snd mX12_fits uX12_fits := by
  refine q_tb_ok ?_
  unfold lX12_fits
  refine q_fa (ok_aload_n (by decide +kernel : decode cX12_fits 0 = .ok (.aload_n 0, 1)) rfl rfl) ?_
  refine q_fa (ok_iload_n (by decide +kernel : decode cX12_fits 1 = .ok (.iload_n 1, 1)) rfl rfl) ?_
  refine q_fa (ok_callV (by decide +kernel : decode cX12_fits 2 = .ok (.invokevirtual 243, 3)) rfl kX12_has.1 kX12_has.2.1 kX12_has.2.2.1 kX12_has.2.2.2.1 kX12_has.2.2.2.2 (rfl : vwCl[12]? = some (RX12, TX12, 58)) g1255 gs60 g1253) ?_
  refine q_fa (ok_if1eq (by decide +kernel : decode cX12_fits 5 = .ok (.ifCond .eq 13, 3)) (by decide) rfl) ?_
  refine q_fa (ok_aload_n (by decide +kernel : decode cX12_fits 8 = .ok (.aload_n 0, 1)) rfl rfl) ?_
  refine q_fa (ok_iload_n (by decide +kernel : decode cX12_fits 9 = .ok (.iload_n 2, 1)) rfl rfl) ?_
  refine q_fa (ok_bipush (by decide +kernel : decode cX12_fits 10 = .ok (.bipush 12, 2)) rfl (by decide +kernel)) ?_
  refine q_fa (ok_callV (by decide +kernel : decode cX12_fits 12 = .ok (.invokevirtual 255, 3)) rfl kX12_take.1 kX12_take.2.1 kX12_take.2.2.1 kX12_take.2.2.2.1 kX12_take.2.2.2.2 (rfl : vwCl[12]? = some (RX12, TX12, 58)) g1307 gs69 g1305) ?_
  refine q_fa (ok_if1ne (by decide +kernel : decode cX12_fits 15 = .ok (.ifCond .ne 5, 3)) (by decide) rfl) ?_
  refine q_fa (ok_iconst (by decide +kernel : decode cX12_fits 18 = .ok (.iconst (-1), 1)) rfl (by decide +kernel)) ?_
  refine q_fa (ok_iret (by decide +kernel : decode cX12_fits 19 = .ok (.ireturn, 1)) rfl) ?_
  refine q_fa (ok_aload_n (by decide +kernel : decode cX12_fits 20 = .ok (.aload_n 0, 1)) rfl rfl) ?_
  refine q_fa (ok_sipush (by decide +kernel : decode cX12_fits 21 = .ok (.sipush 6000, 3)) rfl (by decide +kernel)) ?_
  refine q_fa (ok_putI tyX12 (by decide +kernel : decode cX12_fits 24 = .ok (.putfield 34, 3)) rfl (rfl : vwCl[12]? = some (RX12, TX12, 58)) inX12 tyX12_ok nmX12 (by decide) g1014 (Or.inl rfl) (by decide +kernel)) ?_
  refine q_fa (ok_aload_n (by decide +kernel : decode cX12_fits 27 = .ok (.aload_n 0, 1)) rfl rfl) ?_
  refine q_fa (ok_aload_n (by decide +kernel : decode cX12_fits 28 = .ok (.aload_n 0, 1)) rfl rfl) ?_
  refine q_fa (ok_iload_n (by decide +kernel : decode cX12_fits 29 = .ok (.iload_n 1, 1)) rfl rfl) ?_
  refine q_fa (ok_callV (by decide +kernel : decode cX12_fits 30 = .ok (.invokevirtual 246, 3)) rfl kX12_treeOf.1 kX12_treeOf.2.1 kX12_treeOf.2.2.1 kX12_treeOf.2.2.2.1 kX12_treeOf.2.2.2.2 (rfl : vwCl[12]? = some (RX12, TX12, 58)) g1259 gs61 g1257) ?_
  refine q_fa (ok_callV (by decide +kernel : decode cX12_fits 33 = .ok (.invokevirtual 259, 3)) rfl kX12_isFit.1 kX12_isFit.2.1 kX12_isFit.2.2.1 kX12_isFit.2.2.2.1 kX12_isFit.2.2.2.2 (rfl : vwCl[12]? = some (RX12, TX12, 58)) g1311 gs70 g1309) ?_
  refine q_fa (ok_if1eq (by decide +kernel : decode cX12_fits 36 = .ok (.ifCond .eq 7, 3)) (by decide) rfl) ?_
  refine q_fa (ok_iconst (by decide +kernel : decode cX12_fits 39 = .ok (.iconst 1, 1)) rfl (by decide +kernel)) ?_
  refine q_fa (ok_goto (by decide +kernel : decode cX12_fits 40 = .ok (.goto 4, 3)) (by decide)) ?_
  refine q_fa (ok_iconst (by decide +kernel : decode cX12_fits 43 = .ok (.iconst 0, 1)) rfl (by decide +kernel)) ?_
  refine q_fa (ok_iret (by decide +kernel : decode cX12_fits 44 = .ok (.ireturn, 1)) rfl) ?_
  exact q_fa0
theorem exX12_fits : ∃ t : Nat → qP, t = uX12_fits := ⟨_, rfl⟩
noncomputable def tX12_fits : Nat → qP := Classical.choose exX12_fits
theorem teX12_fits : tX12_fits = uX12_fits := Classical.choose_spec exX12_fits
theorem sX12_fits : q_Snd mX12_fits tX12_fits := by rw [teX12_fits]; exact suX12_fits
theorem tX12_fits_0 : tX12_fits 0 = oAl 0 1 := (congrFun teX12_fits 0).trans rfl
theorem tX12_fits_1 : tX12_fits 1 = oIl 1 2 := (congrFun teX12_fits 1).trans rfl
theorem tX12_fits_2 : tX12_fits 2 = oCallV 12 mX12_has 1 5 := (congrFun teX12_fits 2).trans rfl
theorem tX12_fits_5 : tX12_fits 5 = oIf1eq 18 8 := (congrFun teX12_fits 5).trans rfl
theorem tX12_fits_8 : tX12_fits 8 = oAl 0 9 := (congrFun teX12_fits 8).trans rfl
theorem tX12_fits_9 : tX12_fits 9 = oIl 2 10 := (congrFun teX12_fits 9).trans rfl
theorem tX12_fits_10 : tX12_fits 10 = oK (.int (nI 12)) 12 := (congrFun teX12_fits 10).trans rfl
theorem tX12_fits_12 : tX12_fits 12 = oCallV 12 mX12_take 2 15 := (congrFun teX12_fits 12).trans rfl
theorem tX12_fits_15 : tX12_fits 15 = oIf1ne 20 18 := (congrFun teX12_fits 15).trans rfl
theorem tX12_fits_18 : tX12_fits 18 = oK (.int (-1)) 19 := (congrFun teX12_fits 18).trans rfl
theorem tX12_fits_19 : tX12_fits 19 = oIret := (congrFun teX12_fits 19).trans rfl
theorem tX12_fits_20 : tX12_fits 20 = oAl 0 21 := (congrFun teX12_fits 20).trans rfl
theorem tX12_fits_21 : tX12_fits 21 = oK (.int (nI 6000)) 24 := (congrFun teX12_fits 21).trans rfl
theorem tX12_fits_24 : tX12_fits 24 = oPutI 12 10 27 := (congrFun teX12_fits 24).trans rfl
theorem tX12_fits_27 : tX12_fits 27 = oAl 0 28 := (congrFun teX12_fits 27).trans rfl
theorem tX12_fits_28 : tX12_fits 28 = oAl 0 29 := (congrFun teX12_fits 28).trans rfl
theorem tX12_fits_29 : tX12_fits 29 = oIl 1 30 := (congrFun teX12_fits 29).trans rfl
theorem tX12_fits_30 : tX12_fits 30 = oCallV 12 mX12_treeOf 1 33 := (congrFun teX12_fits 30).trans rfl
theorem tX12_fits_33 : tX12_fits 33 = oCallV 12 mX12_isFit 1 36 := (congrFun teX12_fits 33).trans rfl
theorem tX12_fits_36 : tX12_fits 36 = oIf1eq 43 39 := (congrFun teX12_fits 36).trans rfl
theorem tX12_fits_39 : tX12_fits 39 = oK (.int (nI 1)) 40 := (congrFun teX12_fits 39).trans rfl
theorem tX12_fits_40 : tX12_fits 40 = oGo 44 := (congrFun teX12_fits 40).trans rfl
theorem tX12_fits_43 : tX12_fits 43 = oK (.int (nI 0)) 44 := (congrFun teX12_fits 43).trans rfl
theorem tX12_fits_44 : tX12_fits 44 = oIret := (congrFun teX12_fits 44).trans rfl
def lX12_out : List (Nat × qP) := [(0, oAl 0 1), (1, oIl 1 2), (2, oCallV 12 mX12_has 1 5), (5, oIf1eq 18 8), (8, oAl 0 9), (9, oIl 2 10), (10, oK (.int (nI 12)) 12), (12, oCallV 12 mX12_take 2 15), (15, oIf1ne 20 18), (18, oK (.int (-1)) 19), (19, oIret), (20, oAl 0 21), (21, oK (.int (nI 6000)) 24), (24, oPutI 12 10 27), (27, oAl 0 28), (28, oAl 0 29), (29, oIl 1 30), (30, oCallV 12 mX12_treeOf 1 33), (33, oCallV 12 mX12_outOf 1 36), (36, oIret)]
def uX12_out : Nat → qP := q_tb lX12_out
set_option maxRecDepth 20000 in
theorem suX12_out : q_Snd mX12_out uX12_out := by
  refine q_tb_ok ?_
  unfold lX12_out
  refine q_fa (ok_aload_n (by decide +kernel : decode cX12_out 0 = .ok (.aload_n 0, 1)) rfl rfl) ?_
  refine q_fa (ok_iload_n (by decide +kernel : decode cX12_out 1 = .ok (.iload_n 1, 1)) rfl rfl) ?_
  refine q_fa (ok_callV (by decide +kernel : decode cX12_out 2 = .ok (.invokevirtual 243, 3)) rfl kX12_has.1 kX12_has.2.1 kX12_has.2.2.1 kX12_has.2.2.2.1 kX12_has.2.2.2.2 (rfl : vwCl[12]? = some (RX12, TX12, 58)) g1255 gs60 g1253) ?_
  refine q_fa (ok_if1eq (by decide +kernel : decode cX12_out 5 = .ok (.ifCond .eq 13, 3)) (by decide) rfl) ?_
  refine q_fa (ok_aload_n (by decide +kernel : decode cX12_out 8 = .ok (.aload_n 0, 1)) rfl rfl) ?_
  refine q_fa (ok_iload_n (by decide +kernel : decode cX12_out 9 = .ok (.iload_n 2, 1)) rfl rfl) ?_
  refine q_fa (ok_bipush (by decide +kernel : decode cX12_out 10 = .ok (.bipush 12, 2)) rfl (by decide +kernel)) ?_
  refine q_fa (ok_callV (by decide +kernel : decode cX12_out 12 = .ok (.invokevirtual 255, 3)) rfl kX12_take.1 kX12_take.2.1 kX12_take.2.2.1 kX12_take.2.2.2.1 kX12_take.2.2.2.2 (rfl : vwCl[12]? = some (RX12, TX12, 58)) g1307 gs69 g1305) ?_
  refine q_fa (ok_if1ne (by decide +kernel : decode cX12_out 15 = .ok (.ifCond .ne 5, 3)) (by decide) rfl) ?_
  refine q_fa (ok_iconst (by decide +kernel : decode cX12_out 18 = .ok (.iconst (-1), 1)) rfl (by decide +kernel)) ?_
  refine q_fa (ok_iret (by decide +kernel : decode cX12_out 19 = .ok (.ireturn, 1)) rfl) ?_
  refine q_fa (ok_aload_n (by decide +kernel : decode cX12_out 20 = .ok (.aload_n 0, 1)) rfl rfl) ?_
  refine q_fa (ok_sipush (by decide +kernel : decode cX12_out 21 = .ok (.sipush 6000, 3)) rfl (by decide +kernel)) ?_
  refine q_fa (ok_putI tyX12 (by decide +kernel : decode cX12_out 24 = .ok (.putfield 34, 3)) rfl (rfl : vwCl[12]? = some (RX12, TX12, 58)) inX12 tyX12_ok nmX12 (by decide) g1014 (Or.inl rfl) (by decide +kernel)) ?_
  refine q_fa (ok_aload_n (by decide +kernel : decode cX12_out 27 = .ok (.aload_n 0, 1)) rfl rfl) ?_
  refine q_fa (ok_aload_n (by decide +kernel : decode cX12_out 28 = .ok (.aload_n 0, 1)) rfl rfl) ?_
  refine q_fa (ok_iload_n (by decide +kernel : decode cX12_out 29 = .ok (.iload_n 1, 1)) rfl rfl) ?_
  refine q_fa (ok_callV (by decide +kernel : decode cX12_out 30 = .ok (.invokevirtual 246, 3)) rfl kX12_treeOf.1 kX12_treeOf.2.1 kX12_treeOf.2.2.1 kX12_treeOf.2.2.2.1 kX12_treeOf.2.2.2.2 (rfl : vwCl[12]? = some (RX12, TX12, 58)) g1259 gs61 g1257) ?_
  refine q_fa (ok_callV (by decide +kernel : decode cX12_out 33 = .ok (.invokevirtual 262, 3)) rfl kX12_outOf.1 kX12_outOf.2.1 kX12_outOf.2.2.1 kX12_outOf.2.2.2.1 kX12_outOf.2.2.2.2 (rfl : vwCl[12]? = some (RX12, TX12, 58)) g1331 gs74 g1329) ?_
  refine q_fa (ok_iret (by decide +kernel : decode cX12_out 36 = .ok (.ireturn, 1)) rfl) ?_
  exact q_fa0
theorem exX12_out : ∃ t : Nat → qP, t = uX12_out := ⟨_, rfl⟩
noncomputable def tX12_out : Nat → qP := Classical.choose exX12_out
theorem teX12_out : tX12_out = uX12_out := Classical.choose_spec exX12_out
theorem sX12_out : q_Snd mX12_out tX12_out := by rw [teX12_out]; exact suX12_out
theorem tX12_out_0 : tX12_out 0 = oAl 0 1 := (congrFun teX12_out 0).trans rfl
theorem tX12_out_1 : tX12_out 1 = oIl 1 2 := (congrFun teX12_out 1).trans rfl
theorem tX12_out_2 : tX12_out 2 = oCallV 12 mX12_has 1 5 := (congrFun teX12_out 2).trans rfl
theorem tX12_out_5 : tX12_out 5 = oIf1eq 18 8 := (congrFun teX12_out 5).trans rfl
theorem tX12_out_8 : tX12_out 8 = oAl 0 9 := (congrFun teX12_out 8).trans rfl
theorem tX12_out_9 : tX12_out 9 = oIl 2 10 := (congrFun teX12_out 9).trans rfl
theorem tX12_out_10 : tX12_out 10 = oK (.int (nI 12)) 12 := (congrFun teX12_out 10).trans rfl
theorem tX12_out_12 : tX12_out 12 = oCallV 12 mX12_take 2 15 := (congrFun teX12_out 12).trans rfl
theorem tX12_out_15 : tX12_out 15 = oIf1ne 20 18 := (congrFun teX12_out 15).trans rfl
theorem tX12_out_18 : tX12_out 18 = oK (.int (-1)) 19 := (congrFun teX12_out 18).trans rfl
theorem tX12_out_19 : tX12_out 19 = oIret := (congrFun teX12_out 19).trans rfl
theorem tX12_out_20 : tX12_out 20 = oAl 0 21 := (congrFun teX12_out 20).trans rfl
theorem tX12_out_21 : tX12_out 21 = oK (.int (nI 6000)) 24 := (congrFun teX12_out 21).trans rfl
theorem tX12_out_24 : tX12_out 24 = oPutI 12 10 27 := (congrFun teX12_out 24).trans rfl
theorem tX12_out_27 : tX12_out 27 = oAl 0 28 := (congrFun teX12_out 27).trans rfl
theorem tX12_out_28 : tX12_out 28 = oAl 0 29 := (congrFun teX12_out 28).trans rfl
theorem tX12_out_29 : tX12_out 29 = oIl 1 30 := (congrFun teX12_out 29).trans rfl
theorem tX12_out_30 : tX12_out 30 = oCallV 12 mX12_treeOf 1 33 := (congrFun teX12_out 30).trans rfl
theorem tX12_out_33 : tX12_out 33 = oCallV 12 mX12_outOf 1 36 := (congrFun teX12_out 33).trans rfl
theorem tX12_out_36 : tX12_out 36 = oIret := (congrFun teX12_out 36).trans rfl
def lX12_study : List (Nat × qP) := [(0, oAl 0 1), (1, oGet 12 3 4), (4, oIl 1 5), (5, oIald 6), (6, oIs 3 7), (7, oIl 3 8), (8, oIf1eq 16 11), (11, oIl 3 12), (12, oK (.int (nI 1)) 13), (13, oIf2ne 102 16), (16, oAl 0 17), (17, oGet 12 24 20), (20, oIl 2 21), (21, oIald 22), (22, oIs 4 24), (24, oAl 0 25), (25, oGet 12 24 28), (28, oIl 2 29), (29, oDup2 30), (30, oIald 31), (31, oK (.int (nI 1)) 32), (32, oAdd 33), (33, oIast 34), (34, oAl 0 35), (35, oGet 12 25 38), (38, oK (.int (nI 8)) 40), (40, oIl 2 41), (41, oMul 42), (42, oIl 4 44), (44, oAdd 45), (45, oIl 3 46), (46, oIf1ne 60 49), (49, oK (.int (nI 1)) 50), (50, oAl 0 51), (51, oGet 12 4 54), (54, oIl 1 55), (55, oIald 56), (56, oShl 57), (57, oGo 66), (60, oAl 0 61), (61, oGet 12 4 64), (64, oIl 1 65), (65, oIald 66), (66, oIast 67), (67, oAl 0 68), (68, oGet 12 26 71), (71, oK (.int (nI 8)) 73), (73, oIl 2 74), (74, oMul 75), (75, oIl 4 77), (77, oAdd 78), (78, oK (.int (nI 0)) 79), (79, oIast 80), (80, oAl 0 81), (81, oK (.int (nI 1)) 82), (82, oIl 4 84), (84, oShl 85), (85, oPutI 12 30 88), (88, oAl 0 89), (89, oK (.int (nI 1)) 90), (90, oIl 4 92), (92, oShl 93), (93, oPutI 12 31 96), (96, oAl 0 97), (97, oK (.int (nI 0)) 98), (98, oPutZ 12 32 101), (101, oVret), (102, oAl 0 103), (103, oAl 0 104), (104, oGet 12 5 107), (107, oIl 1 108), (108, oIald 109), (109, oIl 2 110), (110, oCallV 12 mX12_study 2 113), (113, oIl 3 114), (114, oK (.int (nI 5)) 115), (115, oIf2ne 124 118), (118, oAl 0 119), (119, oK (.int (nI 1)) 120), (120, oPutZ 12 32 123), (123, oVret), (124, oIl 3 125), (125, oK (.int (nI 4)) 126), (126, oIf2ne 143 129), (129, oAl 0 130), (130, oIl 2 131), (131, oAl 0 132), (132, oGet 12 31 135), (135, oAl 0 136), (136, oGet 12 30 139), (139, oCallV 12 mX12_follow 3 142), (142, oVret), (143, oAl 0 144), (144, oGet 12 30 147), (147, oIs 4 149), (149, oAl 0 150), (150, oGet 12 31 153), (153, oIs 5 155), (155, oAl 0 156), (156, oGet 12 32 159), (159, oIs 6 161), (161, oAl 0 162), (162, oAl 0 163), (163, oGet 12 6 166), (166, oIl 1 167), (167, oIald 168), (168, oIl 2 169), (169, oCallV 12 mX12_study 2 172), (172, oIl 3 173), (173, oK (.int (nI 3)) 174), (174, oIf2ne 221 177), (177, oAl 0 178), (178, oDup 179), (179, oGet 12 30 182), (182, oIl 4 184), (184, oOr 185), (185, oPutI 12 30 188), (188, oAl 0 189), (189, oDup 190), (190, oGet 12 31 193), (193, oIl 5 195), (195, oOr 196), (196, oPutI 12 31 199), (199, oAl 0 200), (200, oAl 0 201), (201, oGet 12 32 204), (204, oIf1ne 212 207), (207, oIl 6 209), (209, oIf1eq 216 212), (212, oK (.int (nI 1)) 213), (213, oGo 217), (216, oK (.int (nI 0)) 217), (217, oPutZ 12 32 220), (220, oVret), (221, oAl 0 222), (222, oIl 2 223), (223, oIl 5 225), (225, oAl 0 226), (226, oGet 12 30 229), (229, oCallV 12 mX12_follow 3 232), (232, oAl 0 233), (233, oIl 6 235), (235, oIf1eq 248 238), (238, oIl 4 240), (240, oAl 0 241), (241, oGet 12 30 244), (244, oOr 245), (245, oGo 250), (248, oIl 4 250), (250, oPutI 12 30 253), (253, oAl 0 254), (254, oAl 0 255), (255, oGet 12 32 258), (258, oIf1eq 271 261), (261, oIl 5 263), (263, oAl 0 264), (264, oGet 12 31 267), (267, oOr 268), (268, oGo 275), (271, oAl 0 272), (272, oGet 12 31 275), (275, oPutI 12 31 278), (278, oAl 0 279), (279, oAl 0 280), (280, oGet 12 32 283), (283, oIf1eq 295 286), (286, oIl 6 288), (288, oIf1eq 295 291), (291, oK (.int (nI 1)) 292), (292, oGo 296), (295, oK (.int (nI 0)) 296), (296, oPutZ 12 32 299), (299, oVret)]
def uX12_study : Nat → qP := q_tb lX12_study
set_option maxRecDepth 20000 in
theorem suX12_study : q_Snd mX12_study uX12_study := by
  refine q_tb_ok ?_
  unfold lX12_study
  refine q_fa (ok_aload_n (by decide +kernel : decode cX12_study 0 = .ok (.aload_n 0, 1)) rfl rfl) ?_
  refine q_fa (ok_get (by decide +kernel : decode cX12_study 1 = .ok (.getfield 13, 3)) rfl (rfl : vwCl[12]? = some (RX12, TX12, 58)) inX12 (by decide) g1007) ?_
  refine q_fa (ok_iload_n (by decide +kernel : decode cX12_study 4 = .ok (.iload_n 1, 1)) rfl rfl) ?_
  refine q_fa (ok_iaload (by decide +kernel : decode cX12_study 5 = .ok (.iaload, 1)) rfl) ?_
  refine q_fa (ok_istore_n (by decide +kernel : decode cX12_study 6 = .ok (.istore_n 3, 1)) rfl rfl (by decide)) ?_
  refine q_fa (ok_iload_n (by decide +kernel : decode cX12_study 7 = .ok (.iload_n 3, 1)) rfl rfl) ?_
  refine q_fa (ok_if1eq (by decide +kernel : decode cX12_study 8 = .ok (.ifCond .eq 8, 3)) (by decide) rfl) ?_
  refine q_fa (ok_iload_n (by decide +kernel : decode cX12_study 11 = .ok (.iload_n 3, 1)) rfl rfl) ?_
  refine q_fa (ok_iconst (by decide +kernel : decode cX12_study 12 = .ok (.iconst 1, 1)) rfl (by decide +kernel)) ?_
  refine q_fa (ok_if2ne (by decide +kernel : decode cX12_study 13 = .ok (.if_icmp .ne 89, 3)) (by decide) rfl) ?_
  refine q_fa (ok_aload_n (by decide +kernel : decode cX12_study 16 = .ok (.aload_n 0, 1)) rfl rfl) ?_
  refine q_fa (ok_get (by decide +kernel : decode cX12_study 17 = .ok (.getfield 57, 3)) rfl (rfl : vwCl[12]? = some (RX12, TX12, 58)) inX12 (by decide) g1028) ?_
  refine q_fa (ok_iload_n (by decide +kernel : decode cX12_study 20 = .ok (.iload_n 2, 1)) rfl rfl) ?_
  refine q_fa (ok_iaload (by decide +kernel : decode cX12_study 21 = .ok (.iaload, 1)) rfl) ?_
  refine q_fa (ok_istore (by decide +kernel : decode cX12_study 22 = .ok (.istore 4, 2)) rfl (by decide)) ?_
  refine q_fa (ok_aload_n (by decide +kernel : decode cX12_study 24 = .ok (.aload_n 0, 1)) rfl rfl) ?_
  refine q_fa (ok_get (by decide +kernel : decode cX12_study 25 = .ok (.getfield 57, 3)) rfl (rfl : vwCl[12]? = some (RX12, TX12, 58)) inX12 (by decide) g1028) ?_
  refine q_fa (ok_iload_n (by decide +kernel : decode cX12_study 28 = .ok (.iload_n 2, 1)) rfl rfl) ?_
  refine q_fa (ok_dup2 (by decide +kernel : decode cX12_study 29 = .ok (.dup2, 1)) rfl) ?_
  refine q_fa (ok_iaload (by decide +kernel : decode cX12_study 30 = .ok (.iaload, 1)) rfl) ?_
  refine q_fa (ok_iconst (by decide +kernel : decode cX12_study 31 = .ok (.iconst 1, 1)) rfl (by decide +kernel)) ?_
  refine q_fa (ok_iadd (by decide +kernel : decode cX12_study 32 = .ok (.iadd, 1)) rfl) ?_
  refine q_fa (ok_iastore (by decide +kernel : decode cX12_study 33 = .ok (.iastore, 1)) rfl) ?_
  refine q_fa (ok_aload_n (by decide +kernel : decode cX12_study 34 = .ok (.aload_n 0, 1)) rfl rfl) ?_
  refine q_fa (ok_get (by decide +kernel : decode cX12_study 35 = .ok (.getfield 60, 3)) rfl (rfl : vwCl[12]? = some (RX12, TX12, 58)) inX12 (by decide) g1029) ?_
  refine q_fa (ok_bipush (by decide +kernel : decode cX12_study 38 = .ok (.bipush 8, 2)) rfl (by decide +kernel)) ?_
  refine q_fa (ok_iload_n (by decide +kernel : decode cX12_study 40 = .ok (.iload_n 2, 1)) rfl rfl) ?_
  refine q_fa (ok_imul (by decide +kernel : decode cX12_study 41 = .ok (.imul, 1)) rfl) ?_
  refine q_fa (ok_iload (by decide +kernel : decode cX12_study 42 = .ok (.iload 4, 2)) rfl) ?_
  refine q_fa (ok_iadd (by decide +kernel : decode cX12_study 44 = .ok (.iadd, 1)) rfl) ?_
  refine q_fa (ok_iload_n (by decide +kernel : decode cX12_study 45 = .ok (.iload_n 3, 1)) rfl rfl) ?_
  refine q_fa (ok_if1ne (by decide +kernel : decode cX12_study 46 = .ok (.ifCond .ne 14, 3)) (by decide) rfl) ?_
  refine q_fa (ok_iconst (by decide +kernel : decode cX12_study 49 = .ok (.iconst 1, 1)) rfl (by decide +kernel)) ?_
  refine q_fa (ok_aload_n (by decide +kernel : decode cX12_study 50 = .ok (.aload_n 0, 1)) rfl rfl) ?_
  refine q_fa (ok_get (by decide +kernel : decode cX12_study 51 = .ok (.getfield 16, 3)) rfl (rfl : vwCl[12]? = some (RX12, TX12, 58)) inX12 (by decide) g1008) ?_
  refine q_fa (ok_iload_n (by decide +kernel : decode cX12_study 54 = .ok (.iload_n 1, 1)) rfl rfl) ?_
  refine q_fa (ok_iaload (by decide +kernel : decode cX12_study 55 = .ok (.iaload, 1)) rfl) ?_
  refine q_fa (ok_ishl (by decide +kernel : decode cX12_study 56 = .ok (.ishl, 1)) rfl) ?_
  refine q_fa (ok_goto (by decide +kernel : decode cX12_study 57 = .ok (.goto 9, 3)) (by decide)) ?_
  refine q_fa (ok_aload_n (by decide +kernel : decode cX12_study 60 = .ok (.aload_n 0, 1)) rfl rfl) ?_
  refine q_fa (ok_get (by decide +kernel : decode cX12_study 61 = .ok (.getfield 16, 3)) rfl (rfl : vwCl[12]? = some (RX12, TX12, 58)) inX12 (by decide) g1008) ?_
  refine q_fa (ok_iload_n (by decide +kernel : decode cX12_study 64 = .ok (.iload_n 1, 1)) rfl rfl) ?_
  refine q_fa (ok_iaload (by decide +kernel : decode cX12_study 65 = .ok (.iaload, 1)) rfl) ?_
  refine q_fa (ok_iastore (by decide +kernel : decode cX12_study 66 = .ok (.iastore, 1)) rfl) ?_
  refine q_fa (ok_aload_n (by decide +kernel : decode cX12_study 67 = .ok (.aload_n 0, 1)) rfl rfl) ?_
  refine q_fa (ok_get (by decide +kernel : decode cX12_study 68 = .ok (.getfield 63, 3)) rfl (rfl : vwCl[12]? = some (RX12, TX12, 58)) inX12 (by decide) g1030) ?_
  refine q_fa (ok_bipush (by decide +kernel : decode cX12_study 71 = .ok (.bipush 8, 2)) rfl (by decide +kernel)) ?_
  refine q_fa (ok_iload_n (by decide +kernel : decode cX12_study 73 = .ok (.iload_n 2, 1)) rfl rfl) ?_
  refine q_fa (ok_imul (by decide +kernel : decode cX12_study 74 = .ok (.imul, 1)) rfl) ?_
  refine q_fa (ok_iload (by decide +kernel : decode cX12_study 75 = .ok (.iload 4, 2)) rfl) ?_
  refine q_fa (ok_iadd (by decide +kernel : decode cX12_study 77 = .ok (.iadd, 1)) rfl) ?_
  refine q_fa (ok_iconst (by decide +kernel : decode cX12_study 78 = .ok (.iconst 0, 1)) rfl (by decide +kernel)) ?_
  refine q_fa (ok_iastore (by decide +kernel : decode cX12_study 79 = .ok (.iastore, 1)) rfl) ?_
  refine q_fa (ok_aload_n (by decide +kernel : decode cX12_study 80 = .ok (.aload_n 0, 1)) rfl rfl) ?_
  refine q_fa (ok_iconst (by decide +kernel : decode cX12_study 81 = .ok (.iconst 1, 1)) rfl (by decide +kernel)) ?_
  refine q_fa (ok_iload (by decide +kernel : decode cX12_study 82 = .ok (.iload 4, 2)) rfl) ?_
  refine q_fa (ok_ishl (by decide +kernel : decode cX12_study 84 = .ok (.ishl, 1)) rfl) ?_
  refine q_fa (ok_putI tyX12 (by decide +kernel : decode cX12_study 85 = .ok (.putfield 265, 3)) rfl (rfl : vwCl[12]? = some (RX12, TX12, 58)) inX12 tyX12_ok nmX12 (by decide) g1034 (Or.inl rfl) (by decide +kernel)) ?_
  refine q_fa (ok_aload_n (by decide +kernel : decode cX12_study 88 = .ok (.aload_n 0, 1)) rfl rfl) ?_
  refine q_fa (ok_iconst (by decide +kernel : decode cX12_study 89 = .ok (.iconst 1, 1)) rfl (by decide +kernel)) ?_
  refine q_fa (ok_iload (by decide +kernel : decode cX12_study 90 = .ok (.iload 4, 2)) rfl) ?_
  refine q_fa (ok_ishl (by decide +kernel : decode cX12_study 92 = .ok (.ishl, 1)) rfl) ?_
  refine q_fa (ok_putI tyX12 (by decide +kernel : decode cX12_study 93 = .ok (.putfield 268, 3)) rfl (rfl : vwCl[12]? = some (RX12, TX12, 58)) inX12 tyX12_ok nmX12 (by decide) g1035 (Or.inl rfl) (by decide +kernel)) ?_
  refine q_fa (ok_aload_n (by decide +kernel : decode cX12_study 96 = .ok (.aload_n 0, 1)) rfl rfl) ?_
  refine q_fa (ok_iconst (by decide +kernel : decode cX12_study 97 = .ok (.iconst 0, 1)) rfl (by decide +kernel)) ?_
  refine q_fa (ok_putZ tyX12 (by decide +kernel : decode cX12_study 98 = .ok (.putfield 271, 3)) rfl (rfl : vwCl[12]? = some (RX12, TX12, 58)) inX12 tyX12_ok nmX12 (by decide) g1036 (Or.inl rfl) (by decide +kernel)) ?_
  refine q_fa (ok_vret (by decide +kernel : decode cX12_study 101 = .ok (.return_, 1)) rfl) ?_
  refine q_fa (ok_aload_n (by decide +kernel : decode cX12_study 102 = .ok (.aload_n 0, 1)) rfl rfl) ?_
  refine q_fa (ok_aload_n (by decide +kernel : decode cX12_study 103 = .ok (.aload_n 0, 1)) rfl rfl) ?_
  refine q_fa (ok_get (by decide +kernel : decode cX12_study 104 = .ok (.getfield 19, 3)) rfl (rfl : vwCl[12]? = some (RX12, TX12, 58)) inX12 (by decide) g1009) ?_
  refine q_fa (ok_iload_n (by decide +kernel : decode cX12_study 107 = .ok (.iload_n 1, 1)) rfl rfl) ?_
  refine q_fa (ok_iaload (by decide +kernel : decode cX12_study 108 = .ok (.iaload, 1)) rfl) ?_
  refine q_fa (ok_iload_n (by decide +kernel : decode cX12_study 109 = .ok (.iload_n 2, 1)) rfl rfl) ?_
  refine q_fa (ok_callV (by decide +kernel : decode cX12_study 110 = .ok (.invokevirtual 275, 3)) rfl kX12_study.1 kX12_study.2.1 kX12_study.2.2.1 kX12_study.2.2.2.1 kX12_study.2.2.2.2 (rfl : vwCl[12]? = some (RX12, TX12, 58)) g1347 gs77 g1345) ?_
  refine q_fa (ok_iload_n (by decide +kernel : decode cX12_study 113 = .ok (.iload_n 3, 1)) rfl rfl) ?_
  refine q_fa (ok_iconst (by decide +kernel : decode cX12_study 114 = .ok (.iconst 5, 1)) rfl (by decide +kernel)) ?_
  refine q_fa (ok_if2ne (by decide +kernel : decode cX12_study 115 = .ok (.if_icmp .ne 9, 3)) (by decide) rfl) ?_
  refine q_fa (ok_aload_n (by decide +kernel : decode cX12_study 118 = .ok (.aload_n 0, 1)) rfl rfl) ?_
  refine q_fa (ok_iconst (by decide +kernel : decode cX12_study 119 = .ok (.iconst 1, 1)) rfl (by decide +kernel)) ?_
  refine q_fa (ok_putZ tyX12 (by decide +kernel : decode cX12_study 120 = .ok (.putfield 271, 3)) rfl (rfl : vwCl[12]? = some (RX12, TX12, 58)) inX12 tyX12_ok nmX12 (by decide) g1036 (Or.inl rfl) (by decide +kernel)) ?_
  refine q_fa (ok_vret (by decide +kernel : decode cX12_study 123 = .ok (.return_, 1)) rfl) ?_
  refine q_fa (ok_iload_n (by decide +kernel : decode cX12_study 124 = .ok (.iload_n 3, 1)) rfl rfl) ?_
  refine q_fa (ok_iconst (by decide +kernel : decode cX12_study 125 = .ok (.iconst 4, 1)) rfl (by decide +kernel)) ?_
  refine q_fa (ok_if2ne (by decide +kernel : decode cX12_study 126 = .ok (.if_icmp .ne 17, 3)) (by decide) rfl) ?_
  refine q_fa (ok_aload_n (by decide +kernel : decode cX12_study 129 = .ok (.aload_n 0, 1)) rfl rfl) ?_
  refine q_fa (ok_iload_n (by decide +kernel : decode cX12_study 130 = .ok (.iload_n 2, 1)) rfl rfl) ?_
  refine q_fa (ok_aload_n (by decide +kernel : decode cX12_study 131 = .ok (.aload_n 0, 1)) rfl rfl) ?_
  refine q_fa (ok_get (by decide +kernel : decode cX12_study 132 = .ok (.getfield 268, 3)) rfl (rfl : vwCl[12]? = some (RX12, TX12, 58)) inX12 (by decide) g1035) ?_
  refine q_fa (ok_aload_n (by decide +kernel : decode cX12_study 135 = .ok (.aload_n 0, 1)) rfl rfl) ?_
  refine q_fa (ok_get (by decide +kernel : decode cX12_study 136 = .ok (.getfield 265, 3)) rfl (rfl : vwCl[12]? = some (RX12, TX12, 58)) inX12 (by decide) g1034) ?_
  refine q_fa (ok_callV (by decide +kernel : decode cX12_study 139 = .ok (.invokevirtual 278, 3)) rfl kX12_follow.1 kX12_follow.2.1 kX12_follow.2.2.1 kX12_follow.2.2.2.1 kX12_follow.2.2.2.2 (rfl : vwCl[12]? = some (RX12, TX12, 58)) g1351 gs78 g1349) ?_
  refine q_fa (ok_vret (by decide +kernel : decode cX12_study 142 = .ok (.return_, 1)) rfl) ?_
  refine q_fa (ok_aload_n (by decide +kernel : decode cX12_study 143 = .ok (.aload_n 0, 1)) rfl rfl) ?_
  refine q_fa (ok_get (by decide +kernel : decode cX12_study 144 = .ok (.getfield 265, 3)) rfl (rfl : vwCl[12]? = some (RX12, TX12, 58)) inX12 (by decide) g1034) ?_
  refine q_fa (ok_istore (by decide +kernel : decode cX12_study 147 = .ok (.istore 4, 2)) rfl (by decide)) ?_
  refine q_fa (ok_aload_n (by decide +kernel : decode cX12_study 149 = .ok (.aload_n 0, 1)) rfl rfl) ?_
  refine q_fa (ok_get (by decide +kernel : decode cX12_study 150 = .ok (.getfield 268, 3)) rfl (rfl : vwCl[12]? = some (RX12, TX12, 58)) inX12 (by decide) g1035) ?_
  refine q_fa (ok_istore (by decide +kernel : decode cX12_study 153 = .ok (.istore 5, 2)) rfl (by decide)) ?_
  refine q_fa (ok_aload_n (by decide +kernel : decode cX12_study 155 = .ok (.aload_n 0, 1)) rfl rfl) ?_
  refine q_fa (ok_get (by decide +kernel : decode cX12_study 156 = .ok (.getfield 271, 3)) rfl (rfl : vwCl[12]? = some (RX12, TX12, 58)) inX12 (by decide) g1036) ?_
  refine q_fa (ok_istore (by decide +kernel : decode cX12_study 159 = .ok (.istore 6, 2)) rfl (by decide)) ?_
  refine q_fa (ok_aload_n (by decide +kernel : decode cX12_study 161 = .ok (.aload_n 0, 1)) rfl rfl) ?_
  refine q_fa (ok_aload_n (by decide +kernel : decode cX12_study 162 = .ok (.aload_n 0, 1)) rfl rfl) ?_
  refine q_fa (ok_get (by decide +kernel : decode cX12_study 163 = .ok (.getfield 22, 3)) rfl (rfl : vwCl[12]? = some (RX12, TX12, 58)) inX12 (by decide) g1010) ?_
  refine q_fa (ok_iload_n (by decide +kernel : decode cX12_study 166 = .ok (.iload_n 1, 1)) rfl rfl) ?_
  refine q_fa (ok_iaload (by decide +kernel : decode cX12_study 167 = .ok (.iaload, 1)) rfl) ?_
  refine q_fa (ok_iload_n (by decide +kernel : decode cX12_study 168 = .ok (.iload_n 2, 1)) rfl rfl) ?_
  refine q_fa (ok_callV (by decide +kernel : decode cX12_study 169 = .ok (.invokevirtual 275, 3)) rfl kX12_study.1 kX12_study.2.1 kX12_study.2.2.1 kX12_study.2.2.2.1 kX12_study.2.2.2.2 (rfl : vwCl[12]? = some (RX12, TX12, 58)) g1347 gs77 g1345) ?_
  refine q_fa (ok_iload_n (by decide +kernel : decode cX12_study 172 = .ok (.iload_n 3, 1)) rfl rfl) ?_
  refine q_fa (ok_iconst (by decide +kernel : decode cX12_study 173 = .ok (.iconst 3, 1)) rfl (by decide +kernel)) ?_
  refine q_fa (ok_if2ne (by decide +kernel : decode cX12_study 174 = .ok (.if_icmp .ne 47, 3)) (by decide) rfl) ?_
  refine q_fa (ok_aload_n (by decide +kernel : decode cX12_study 177 = .ok (.aload_n 0, 1)) rfl rfl) ?_
  refine q_fa (ok_dup (by decide +kernel : decode cX12_study 178 = .ok (.dup, 1)) rfl) ?_
  refine q_fa (ok_get (by decide +kernel : decode cX12_study 179 = .ok (.getfield 265, 3)) rfl (rfl : vwCl[12]? = some (RX12, TX12, 58)) inX12 (by decide) g1034) ?_
  refine q_fa (ok_iload (by decide +kernel : decode cX12_study 182 = .ok (.iload 4, 2)) rfl) ?_
  refine q_fa (ok_ior (by decide +kernel : decode cX12_study 184 = .ok (.ior, 1)) rfl) ?_
  refine q_fa (ok_putI tyX12 (by decide +kernel : decode cX12_study 185 = .ok (.putfield 265, 3)) rfl (rfl : vwCl[12]? = some (RX12, TX12, 58)) inX12 tyX12_ok nmX12 (by decide) g1034 (Or.inl rfl) (by decide +kernel)) ?_
  refine q_fa (ok_aload_n (by decide +kernel : decode cX12_study 188 = .ok (.aload_n 0, 1)) rfl rfl) ?_
  refine q_fa (ok_dup (by decide +kernel : decode cX12_study 189 = .ok (.dup, 1)) rfl) ?_
  refine q_fa (ok_get (by decide +kernel : decode cX12_study 190 = .ok (.getfield 268, 3)) rfl (rfl : vwCl[12]? = some (RX12, TX12, 58)) inX12 (by decide) g1035) ?_
  refine q_fa (ok_iload (by decide +kernel : decode cX12_study 193 = .ok (.iload 5, 2)) rfl) ?_
  refine q_fa (ok_ior (by decide +kernel : decode cX12_study 195 = .ok (.ior, 1)) rfl) ?_
  refine q_fa (ok_putI tyX12 (by decide +kernel : decode cX12_study 196 = .ok (.putfield 268, 3)) rfl (rfl : vwCl[12]? = some (RX12, TX12, 58)) inX12 tyX12_ok nmX12 (by decide) g1035 (Or.inl rfl) (by decide +kernel)) ?_
  refine q_fa (ok_aload_n (by decide +kernel : decode cX12_study 199 = .ok (.aload_n 0, 1)) rfl rfl) ?_
  refine q_fa (ok_aload_n (by decide +kernel : decode cX12_study 200 = .ok (.aload_n 0, 1)) rfl rfl) ?_
  refine q_fa (ok_get (by decide +kernel : decode cX12_study 201 = .ok (.getfield 271, 3)) rfl (rfl : vwCl[12]? = some (RX12, TX12, 58)) inX12 (by decide) g1036) ?_
  refine q_fa (ok_if1ne (by decide +kernel : decode cX12_study 204 = .ok (.ifCond .ne 8, 3)) (by decide) rfl) ?_
  refine q_fa (ok_iload (by decide +kernel : decode cX12_study 207 = .ok (.iload 6, 2)) rfl) ?_
  refine q_fa (ok_if1eq (by decide +kernel : decode cX12_study 209 = .ok (.ifCond .eq 7, 3)) (by decide) rfl) ?_
  refine q_fa (ok_iconst (by decide +kernel : decode cX12_study 212 = .ok (.iconst 1, 1)) rfl (by decide +kernel)) ?_
  refine q_fa (ok_goto (by decide +kernel : decode cX12_study 213 = .ok (.goto 4, 3)) (by decide)) ?_
  refine q_fa (ok_iconst (by decide +kernel : decode cX12_study 216 = .ok (.iconst 0, 1)) rfl (by decide +kernel)) ?_
  refine q_fa (ok_putZ tyX12 (by decide +kernel : decode cX12_study 217 = .ok (.putfield 271, 3)) rfl (rfl : vwCl[12]? = some (RX12, TX12, 58)) inX12 tyX12_ok nmX12 (by decide) g1036 (Or.inl rfl) (by decide +kernel)) ?_
  refine q_fa (ok_vret (by decide +kernel : decode cX12_study 220 = .ok (.return_, 1)) rfl) ?_
  refine q_fa (ok_aload_n (by decide +kernel : decode cX12_study 221 = .ok (.aload_n 0, 1)) rfl rfl) ?_
  refine q_fa (ok_iload_n (by decide +kernel : decode cX12_study 222 = .ok (.iload_n 2, 1)) rfl rfl) ?_
  refine q_fa (ok_iload (by decide +kernel : decode cX12_study 223 = .ok (.iload 5, 2)) rfl) ?_
  refine q_fa (ok_aload_n (by decide +kernel : decode cX12_study 225 = .ok (.aload_n 0, 1)) rfl rfl) ?_
  refine q_fa (ok_get (by decide +kernel : decode cX12_study 226 = .ok (.getfield 265, 3)) rfl (rfl : vwCl[12]? = some (RX12, TX12, 58)) inX12 (by decide) g1034) ?_
  refine q_fa (ok_callV (by decide +kernel : decode cX12_study 229 = .ok (.invokevirtual 278, 3)) rfl kX12_follow.1 kX12_follow.2.1 kX12_follow.2.2.1 kX12_follow.2.2.2.1 kX12_follow.2.2.2.2 (rfl : vwCl[12]? = some (RX12, TX12, 58)) g1351 gs78 g1349) ?_
  refine q_fa (ok_aload_n (by decide +kernel : decode cX12_study 232 = .ok (.aload_n 0, 1)) rfl rfl) ?_
  refine q_fa (ok_iload (by decide +kernel : decode cX12_study 233 = .ok (.iload 6, 2)) rfl) ?_
  refine q_fa (ok_if1eq (by decide +kernel : decode cX12_study 235 = .ok (.ifCond .eq 13, 3)) (by decide) rfl) ?_
  refine q_fa (ok_iload (by decide +kernel : decode cX12_study 238 = .ok (.iload 4, 2)) rfl) ?_
  refine q_fa (ok_aload_n (by decide +kernel : decode cX12_study 240 = .ok (.aload_n 0, 1)) rfl rfl) ?_
  refine q_fa (ok_get (by decide +kernel : decode cX12_study 241 = .ok (.getfield 265, 3)) rfl (rfl : vwCl[12]? = some (RX12, TX12, 58)) inX12 (by decide) g1034) ?_
  refine q_fa (ok_ior (by decide +kernel : decode cX12_study 244 = .ok (.ior, 1)) rfl) ?_
  refine q_fa (ok_goto (by decide +kernel : decode cX12_study 245 = .ok (.goto 5, 3)) (by decide)) ?_
  refine q_fa (ok_iload (by decide +kernel : decode cX12_study 248 = .ok (.iload 4, 2)) rfl) ?_
  refine q_fa (ok_putI tyX12 (by decide +kernel : decode cX12_study 250 = .ok (.putfield 265, 3)) rfl (rfl : vwCl[12]? = some (RX12, TX12, 58)) inX12 tyX12_ok nmX12 (by decide) g1034 (Or.inl rfl) (by decide +kernel)) ?_
  refine q_fa (ok_aload_n (by decide +kernel : decode cX12_study 253 = .ok (.aload_n 0, 1)) rfl rfl) ?_
  refine q_fa (ok_aload_n (by decide +kernel : decode cX12_study 254 = .ok (.aload_n 0, 1)) rfl rfl) ?_
  refine q_fa (ok_get (by decide +kernel : decode cX12_study 255 = .ok (.getfield 271, 3)) rfl (rfl : vwCl[12]? = some (RX12, TX12, 58)) inX12 (by decide) g1036) ?_
  refine q_fa (ok_if1eq (by decide +kernel : decode cX12_study 258 = .ok (.ifCond .eq 13, 3)) (by decide) rfl) ?_
  refine q_fa (ok_iload (by decide +kernel : decode cX12_study 261 = .ok (.iload 5, 2)) rfl) ?_
  refine q_fa (ok_aload_n (by decide +kernel : decode cX12_study 263 = .ok (.aload_n 0, 1)) rfl rfl) ?_
  refine q_fa (ok_get (by decide +kernel : decode cX12_study 264 = .ok (.getfield 268, 3)) rfl (rfl : vwCl[12]? = some (RX12, TX12, 58)) inX12 (by decide) g1035) ?_
  refine q_fa (ok_ior (by decide +kernel : decode cX12_study 267 = .ok (.ior, 1)) rfl) ?_
  refine q_fa (ok_goto (by decide +kernel : decode cX12_study 268 = .ok (.goto 7, 3)) (by decide)) ?_
  refine q_fa (ok_aload_n (by decide +kernel : decode cX12_study 271 = .ok (.aload_n 0, 1)) rfl rfl) ?_
  refine q_fa (ok_get (by decide +kernel : decode cX12_study 272 = .ok (.getfield 268, 3)) rfl (rfl : vwCl[12]? = some (RX12, TX12, 58)) inX12 (by decide) g1035) ?_
  refine q_fa (ok_putI tyX12 (by decide +kernel : decode cX12_study 275 = .ok (.putfield 268, 3)) rfl (rfl : vwCl[12]? = some (RX12, TX12, 58)) inX12 tyX12_ok nmX12 (by decide) g1035 (Or.inl rfl) (by decide +kernel)) ?_
  refine q_fa (ok_aload_n (by decide +kernel : decode cX12_study 278 = .ok (.aload_n 0, 1)) rfl rfl) ?_
  refine q_fa (ok_aload_n (by decide +kernel : decode cX12_study 279 = .ok (.aload_n 0, 1)) rfl rfl) ?_
  refine q_fa (ok_get (by decide +kernel : decode cX12_study 280 = .ok (.getfield 271, 3)) rfl (rfl : vwCl[12]? = some (RX12, TX12, 58)) inX12 (by decide) g1036) ?_
  refine q_fa (ok_if1eq (by decide +kernel : decode cX12_study 283 = .ok (.ifCond .eq 12, 3)) (by decide) rfl) ?_
  refine q_fa (ok_iload (by decide +kernel : decode cX12_study 286 = .ok (.iload 6, 2)) rfl) ?_
  refine q_fa (ok_if1eq (by decide +kernel : decode cX12_study 288 = .ok (.ifCond .eq 7, 3)) (by decide) rfl) ?_
  refine q_fa (ok_iconst (by decide +kernel : decode cX12_study 291 = .ok (.iconst 1, 1)) rfl (by decide +kernel)) ?_
  refine q_fa (ok_goto (by decide +kernel : decode cX12_study 292 = .ok (.goto 4, 3)) (by decide)) ?_
  refine q_fa (ok_iconst (by decide +kernel : decode cX12_study 295 = .ok (.iconst 0, 1)) rfl (by decide +kernel)) ?_
  refine q_fa (ok_putZ tyX12 (by decide +kernel : decode cX12_study 296 = .ok (.putfield 271, 3)) rfl (rfl : vwCl[12]? = some (RX12, TX12, 58)) inX12 tyX12_ok nmX12 (by decide) g1036 (Or.inl rfl) (by decide +kernel)) ?_
  refine q_fa (ok_vret (by decide +kernel : decode cX12_study 299 = .ok (.return_, 1)) rfl) ?_
  exact q_fa0
theorem exX12_study : ∃ t : Nat → qP, t = uX12_study := ⟨_, rfl⟩
noncomputable def tX12_study : Nat → qP := Classical.choose exX12_study
theorem teX12_study : tX12_study = uX12_study := Classical.choose_spec exX12_study
theorem sX12_study : q_Snd mX12_study tX12_study := by rw [teX12_study]; exact suX12_study
theorem tX12_study_0 : tX12_study 0 = oAl 0 1 := (congrFun teX12_study 0).trans rfl
theorem tX12_study_1 : tX12_study 1 = oGet 12 3 4 := (congrFun teX12_study 1).trans rfl
theorem tX12_study_4 : tX12_study 4 = oIl 1 5 := (congrFun teX12_study 4).trans rfl
theorem tX12_study_5 : tX12_study 5 = oIald 6 := (congrFun teX12_study 5).trans rfl
theorem tX12_study_6 : tX12_study 6 = oIs 3 7 := (congrFun teX12_study 6).trans rfl
theorem tX12_study_7 : tX12_study 7 = oIl 3 8 := (congrFun teX12_study 7).trans rfl
theorem tX12_study_8 : tX12_study 8 = oIf1eq 16 11 := (congrFun teX12_study 8).trans rfl
theorem tX12_study_11 : tX12_study 11 = oIl 3 12 := (congrFun teX12_study 11).trans rfl
theorem tX12_study_12 : tX12_study 12 = oK (.int (nI 1)) 13 := (congrFun teX12_study 12).trans rfl
theorem tX12_study_13 : tX12_study 13 = oIf2ne 102 16 := (congrFun teX12_study 13).trans rfl
theorem tX12_study_16 : tX12_study 16 = oAl 0 17 := (congrFun teX12_study 16).trans rfl
theorem tX12_study_17 : tX12_study 17 = oGet 12 24 20 := (congrFun teX12_study 17).trans rfl
theorem tX12_study_20 : tX12_study 20 = oIl 2 21 := (congrFun teX12_study 20).trans rfl
theorem tX12_study_21 : tX12_study 21 = oIald 22 := (congrFun teX12_study 21).trans rfl
theorem tX12_study_22 : tX12_study 22 = oIs 4 24 := (congrFun teX12_study 22).trans rfl
theorem tX12_study_24 : tX12_study 24 = oAl 0 25 := (congrFun teX12_study 24).trans rfl
theorem tX12_study_25 : tX12_study 25 = oGet 12 24 28 := (congrFun teX12_study 25).trans rfl
theorem tX12_study_28 : tX12_study 28 = oIl 2 29 := (congrFun teX12_study 28).trans rfl
theorem tX12_study_29 : tX12_study 29 = oDup2 30 := (congrFun teX12_study 29).trans rfl
theorem tX12_study_30 : tX12_study 30 = oIald 31 := (congrFun teX12_study 30).trans rfl
theorem tX12_study_31 : tX12_study 31 = oK (.int (nI 1)) 32 := (congrFun teX12_study 31).trans rfl
theorem tX12_study_32 : tX12_study 32 = oAdd 33 := (congrFun teX12_study 32).trans rfl
theorem tX12_study_33 : tX12_study 33 = oIast 34 := (congrFun teX12_study 33).trans rfl
theorem tX12_study_34 : tX12_study 34 = oAl 0 35 := (congrFun teX12_study 34).trans rfl
theorem tX12_study_35 : tX12_study 35 = oGet 12 25 38 := (congrFun teX12_study 35).trans rfl
theorem tX12_study_38 : tX12_study 38 = oK (.int (nI 8)) 40 := (congrFun teX12_study 38).trans rfl
theorem tX12_study_40 : tX12_study 40 = oIl 2 41 := (congrFun teX12_study 40).trans rfl
theorem tX12_study_41 : tX12_study 41 = oMul 42 := (congrFun teX12_study 41).trans rfl
theorem tX12_study_42 : tX12_study 42 = oIl 4 44 := (congrFun teX12_study 42).trans rfl
theorem tX12_study_44 : tX12_study 44 = oAdd 45 := (congrFun teX12_study 44).trans rfl
theorem tX12_study_45 : tX12_study 45 = oIl 3 46 := (congrFun teX12_study 45).trans rfl
theorem tX12_study_46 : tX12_study 46 = oIf1ne 60 49 := (congrFun teX12_study 46).trans rfl
theorem tX12_study_49 : tX12_study 49 = oK (.int (nI 1)) 50 := (congrFun teX12_study 49).trans rfl
theorem tX12_study_50 : tX12_study 50 = oAl 0 51 := (congrFun teX12_study 50).trans rfl
theorem tX12_study_51 : tX12_study 51 = oGet 12 4 54 := (congrFun teX12_study 51).trans rfl
theorem tX12_study_54 : tX12_study 54 = oIl 1 55 := (congrFun teX12_study 54).trans rfl
theorem tX12_study_55 : tX12_study 55 = oIald 56 := (congrFun teX12_study 55).trans rfl
theorem tX12_study_56 : tX12_study 56 = oShl 57 := (congrFun teX12_study 56).trans rfl
theorem tX12_study_57 : tX12_study 57 = oGo 66 := (congrFun teX12_study 57).trans rfl
theorem tX12_study_60 : tX12_study 60 = oAl 0 61 := (congrFun teX12_study 60).trans rfl
theorem tX12_study_61 : tX12_study 61 = oGet 12 4 64 := (congrFun teX12_study 61).trans rfl
theorem tX12_study_64 : tX12_study 64 = oIl 1 65 := (congrFun teX12_study 64).trans rfl
theorem tX12_study_65 : tX12_study 65 = oIald 66 := (congrFun teX12_study 65).trans rfl
theorem tX12_study_66 : tX12_study 66 = oIast 67 := (congrFun teX12_study 66).trans rfl
theorem tX12_study_67 : tX12_study 67 = oAl 0 68 := (congrFun teX12_study 67).trans rfl
theorem tX12_study_68 : tX12_study 68 = oGet 12 26 71 := (congrFun teX12_study 68).trans rfl
theorem tX12_study_71 : tX12_study 71 = oK (.int (nI 8)) 73 := (congrFun teX12_study 71).trans rfl
theorem tX12_study_73 : tX12_study 73 = oIl 2 74 := (congrFun teX12_study 73).trans rfl
theorem tX12_study_74 : tX12_study 74 = oMul 75 := (congrFun teX12_study 74).trans rfl
theorem tX12_study_75 : tX12_study 75 = oIl 4 77 := (congrFun teX12_study 75).trans rfl
theorem tX12_study_77 : tX12_study 77 = oAdd 78 := (congrFun teX12_study 77).trans rfl
theorem tX12_study_78 : tX12_study 78 = oK (.int (nI 0)) 79 := (congrFun teX12_study 78).trans rfl
theorem tX12_study_79 : tX12_study 79 = oIast 80 := (congrFun teX12_study 79).trans rfl
theorem tX12_study_80 : tX12_study 80 = oAl 0 81 := (congrFun teX12_study 80).trans rfl
theorem tX12_study_81 : tX12_study 81 = oK (.int (nI 1)) 82 := (congrFun teX12_study 81).trans rfl
theorem tX12_study_82 : tX12_study 82 = oIl 4 84 := (congrFun teX12_study 82).trans rfl
theorem tX12_study_84 : tX12_study 84 = oShl 85 := (congrFun teX12_study 84).trans rfl
theorem tX12_study_85 : tX12_study 85 = oPutI 12 30 88 := (congrFun teX12_study 85).trans rfl
theorem tX12_study_88 : tX12_study 88 = oAl 0 89 := (congrFun teX12_study 88).trans rfl
theorem tX12_study_89 : tX12_study 89 = oK (.int (nI 1)) 90 := (congrFun teX12_study 89).trans rfl
theorem tX12_study_90 : tX12_study 90 = oIl 4 92 := (congrFun teX12_study 90).trans rfl
theorem tX12_study_92 : tX12_study 92 = oShl 93 := (congrFun teX12_study 92).trans rfl
theorem tX12_study_93 : tX12_study 93 = oPutI 12 31 96 := (congrFun teX12_study 93).trans rfl
theorem tX12_study_96 : tX12_study 96 = oAl 0 97 := (congrFun teX12_study 96).trans rfl
theorem tX12_study_97 : tX12_study 97 = oK (.int (nI 0)) 98 := (congrFun teX12_study 97).trans rfl
theorem tX12_study_98 : tX12_study 98 = oPutZ 12 32 101 := (congrFun teX12_study 98).trans rfl
theorem tX12_study_101 : tX12_study 101 = oVret := (congrFun teX12_study 101).trans rfl
theorem tX12_study_102 : tX12_study 102 = oAl 0 103 := (congrFun teX12_study 102).trans rfl
theorem tX12_study_103 : tX12_study 103 = oAl 0 104 := (congrFun teX12_study 103).trans rfl
theorem tX12_study_104 : tX12_study 104 = oGet 12 5 107 := (congrFun teX12_study 104).trans rfl
theorem tX12_study_107 : tX12_study 107 = oIl 1 108 := (congrFun teX12_study 107).trans rfl
theorem tX12_study_108 : tX12_study 108 = oIald 109 := (congrFun teX12_study 108).trans rfl
theorem tX12_study_109 : tX12_study 109 = oIl 2 110 := (congrFun teX12_study 109).trans rfl
theorem tX12_study_110 : tX12_study 110 = oCallV 12 mX12_study 2 113 := (congrFun teX12_study 110).trans rfl
theorem tX12_study_113 : tX12_study 113 = oIl 3 114 := (congrFun teX12_study 113).trans rfl
theorem tX12_study_114 : tX12_study 114 = oK (.int (nI 5)) 115 := (congrFun teX12_study 114).trans rfl
theorem tX12_study_115 : tX12_study 115 = oIf2ne 124 118 := (congrFun teX12_study 115).trans rfl
theorem tX12_study_118 : tX12_study 118 = oAl 0 119 := (congrFun teX12_study 118).trans rfl
theorem tX12_study_119 : tX12_study 119 = oK (.int (nI 1)) 120 := (congrFun teX12_study 119).trans rfl
theorem tX12_study_120 : tX12_study 120 = oPutZ 12 32 123 := (congrFun teX12_study 120).trans rfl
theorem tX12_study_123 : tX12_study 123 = oVret := (congrFun teX12_study 123).trans rfl
theorem tX12_study_124 : tX12_study 124 = oIl 3 125 := (congrFun teX12_study 124).trans rfl
theorem tX12_study_125 : tX12_study 125 = oK (.int (nI 4)) 126 := (congrFun teX12_study 125).trans rfl
theorem tX12_study_126 : tX12_study 126 = oIf2ne 143 129 := (congrFun teX12_study 126).trans rfl
theorem tX12_study_129 : tX12_study 129 = oAl 0 130 := (congrFun teX12_study 129).trans rfl
theorem tX12_study_130 : tX12_study 130 = oIl 2 131 := (congrFun teX12_study 130).trans rfl
theorem tX12_study_131 : tX12_study 131 = oAl 0 132 := (congrFun teX12_study 131).trans rfl
theorem tX12_study_132 : tX12_study 132 = oGet 12 31 135 := (congrFun teX12_study 132).trans rfl
theorem tX12_study_135 : tX12_study 135 = oAl 0 136 := (congrFun teX12_study 135).trans rfl
theorem tX12_study_136 : tX12_study 136 = oGet 12 30 139 := (congrFun teX12_study 136).trans rfl
theorem tX12_study_139 : tX12_study 139 = oCallV 12 mX12_follow 3 142 := (congrFun teX12_study 139).trans rfl
theorem tX12_study_142 : tX12_study 142 = oVret := (congrFun teX12_study 142).trans rfl
theorem tX12_study_143 : tX12_study 143 = oAl 0 144 := (congrFun teX12_study 143).trans rfl
theorem tX12_study_144 : tX12_study 144 = oGet 12 30 147 := (congrFun teX12_study 144).trans rfl
theorem tX12_study_147 : tX12_study 147 = oIs 4 149 := (congrFun teX12_study 147).trans rfl
theorem tX12_study_149 : tX12_study 149 = oAl 0 150 := (congrFun teX12_study 149).trans rfl
theorem tX12_study_150 : tX12_study 150 = oGet 12 31 153 := (congrFun teX12_study 150).trans rfl
theorem tX12_study_153 : tX12_study 153 = oIs 5 155 := (congrFun teX12_study 153).trans rfl
theorem tX12_study_155 : tX12_study 155 = oAl 0 156 := (congrFun teX12_study 155).trans rfl
theorem tX12_study_156 : tX12_study 156 = oGet 12 32 159 := (congrFun teX12_study 156).trans rfl
theorem tX12_study_159 : tX12_study 159 = oIs 6 161 := (congrFun teX12_study 159).trans rfl
theorem tX12_study_161 : tX12_study 161 = oAl 0 162 := (congrFun teX12_study 161).trans rfl
theorem tX12_study_162 : tX12_study 162 = oAl 0 163 := (congrFun teX12_study 162).trans rfl
theorem tX12_study_163 : tX12_study 163 = oGet 12 6 166 := (congrFun teX12_study 163).trans rfl
theorem tX12_study_166 : tX12_study 166 = oIl 1 167 := (congrFun teX12_study 166).trans rfl
theorem tX12_study_167 : tX12_study 167 = oIald 168 := (congrFun teX12_study 167).trans rfl
theorem tX12_study_168 : tX12_study 168 = oIl 2 169 := (congrFun teX12_study 168).trans rfl
theorem tX12_study_169 : tX12_study 169 = oCallV 12 mX12_study 2 172 := (congrFun teX12_study 169).trans rfl
theorem tX12_study_172 : tX12_study 172 = oIl 3 173 := (congrFun teX12_study 172).trans rfl
theorem tX12_study_173 : tX12_study 173 = oK (.int (nI 3)) 174 := (congrFun teX12_study 173).trans rfl
theorem tX12_study_174 : tX12_study 174 = oIf2ne 221 177 := (congrFun teX12_study 174).trans rfl
theorem tX12_study_177 : tX12_study 177 = oAl 0 178 := (congrFun teX12_study 177).trans rfl
theorem tX12_study_178 : tX12_study 178 = oDup 179 := (congrFun teX12_study 178).trans rfl
theorem tX12_study_179 : tX12_study 179 = oGet 12 30 182 := (congrFun teX12_study 179).trans rfl
theorem tX12_study_182 : tX12_study 182 = oIl 4 184 := (congrFun teX12_study 182).trans rfl
theorem tX12_study_184 : tX12_study 184 = oOr 185 := (congrFun teX12_study 184).trans rfl
theorem tX12_study_185 : tX12_study 185 = oPutI 12 30 188 := (congrFun teX12_study 185).trans rfl
theorem tX12_study_188 : tX12_study 188 = oAl 0 189 := (congrFun teX12_study 188).trans rfl
theorem tX12_study_189 : tX12_study 189 = oDup 190 := (congrFun teX12_study 189).trans rfl
theorem tX12_study_190 : tX12_study 190 = oGet 12 31 193 := (congrFun teX12_study 190).trans rfl
theorem tX12_study_193 : tX12_study 193 = oIl 5 195 := (congrFun teX12_study 193).trans rfl
theorem tX12_study_195 : tX12_study 195 = oOr 196 := (congrFun teX12_study 195).trans rfl
theorem tX12_study_196 : tX12_study 196 = oPutI 12 31 199 := (congrFun teX12_study 196).trans rfl
theorem tX12_study_199 : tX12_study 199 = oAl 0 200 := (congrFun teX12_study 199).trans rfl
theorem tX12_study_200 : tX12_study 200 = oAl 0 201 := (congrFun teX12_study 200).trans rfl
theorem tX12_study_201 : tX12_study 201 = oGet 12 32 204 := (congrFun teX12_study 201).trans rfl
theorem tX12_study_204 : tX12_study 204 = oIf1ne 212 207 := (congrFun teX12_study 204).trans rfl
theorem tX12_study_207 : tX12_study 207 = oIl 6 209 := (congrFun teX12_study 207).trans rfl
theorem tX12_study_209 : tX12_study 209 = oIf1eq 216 212 := (congrFun teX12_study 209).trans rfl
theorem tX12_study_212 : tX12_study 212 = oK (.int (nI 1)) 213 := (congrFun teX12_study 212).trans rfl
theorem tX12_study_213 : tX12_study 213 = oGo 217 := (congrFun teX12_study 213).trans rfl
theorem tX12_study_216 : tX12_study 216 = oK (.int (nI 0)) 217 := (congrFun teX12_study 216).trans rfl
theorem tX12_study_217 : tX12_study 217 = oPutZ 12 32 220 := (congrFun teX12_study 217).trans rfl
theorem tX12_study_220 : tX12_study 220 = oVret := (congrFun teX12_study 220).trans rfl
theorem tX12_study_221 : tX12_study 221 = oAl 0 222 := (congrFun teX12_study 221).trans rfl
theorem tX12_study_222 : tX12_study 222 = oIl 2 223 := (congrFun teX12_study 222).trans rfl
theorem tX12_study_223 : tX12_study 223 = oIl 5 225 := (congrFun teX12_study 223).trans rfl
theorem tX12_study_225 : tX12_study 225 = oAl 0 226 := (congrFun teX12_study 225).trans rfl
theorem tX12_study_226 : tX12_study 226 = oGet 12 30 229 := (congrFun teX12_study 226).trans rfl
theorem tX12_study_229 : tX12_study 229 = oCallV 12 mX12_follow 3 232 := (congrFun teX12_study 229).trans rfl
theorem tX12_study_232 : tX12_study 232 = oAl 0 233 := (congrFun teX12_study 232).trans rfl
theorem tX12_study_233 : tX12_study 233 = oIl 6 235 := (congrFun teX12_study 233).trans rfl
theorem tX12_study_235 : tX12_study 235 = oIf1eq 248 238 := (congrFun teX12_study 235).trans rfl
theorem tX12_study_238 : tX12_study 238 = oIl 4 240 := (congrFun teX12_study 238).trans rfl
theorem tX12_study_240 : tX12_study 240 = oAl 0 241 := (congrFun teX12_study 240).trans rfl
theorem tX12_study_241 : tX12_study 241 = oGet 12 30 244 := (congrFun teX12_study 241).trans rfl
theorem tX12_study_244 : tX12_study 244 = oOr 245 := (congrFun teX12_study 244).trans rfl
theorem tX12_study_245 : tX12_study 245 = oGo 250 := (congrFun teX12_study 245).trans rfl
theorem tX12_study_248 : tX12_study 248 = oIl 4 250 := (congrFun teX12_study 248).trans rfl
theorem tX12_study_250 : tX12_study 250 = oPutI 12 30 253 := (congrFun teX12_study 250).trans rfl
theorem tX12_study_253 : tX12_study 253 = oAl 0 254 := (congrFun teX12_study 253).trans rfl
theorem tX12_study_254 : tX12_study 254 = oAl 0 255 := (congrFun teX12_study 254).trans rfl
theorem tX12_study_255 : tX12_study 255 = oGet 12 32 258 := (congrFun teX12_study 255).trans rfl
theorem tX12_study_258 : tX12_study 258 = oIf1eq 271 261 := (congrFun teX12_study 258).trans rfl
theorem tX12_study_261 : tX12_study 261 = oIl 5 263 := (congrFun teX12_study 261).trans rfl
theorem tX12_study_263 : tX12_study 263 = oAl 0 264 := (congrFun teX12_study 263).trans rfl
theorem tX12_study_264 : tX12_study 264 = oGet 12 31 267 := (congrFun teX12_study 264).trans rfl
theorem tX12_study_267 : tX12_study 267 = oOr 268 := (congrFun teX12_study 267).trans rfl
theorem tX12_study_268 : tX12_study 268 = oGo 275 := (congrFun teX12_study 268).trans rfl
theorem tX12_study_271 : tX12_study 271 = oAl 0 272 := (congrFun teX12_study 271).trans rfl
theorem tX12_study_272 : tX12_study 272 = oGet 12 31 275 := (congrFun teX12_study 272).trans rfl
theorem tX12_study_275 : tX12_study 275 = oPutI 12 31 278 := (congrFun teX12_study 275).trans rfl
theorem tX12_study_278 : tX12_study 278 = oAl 0 279 := (congrFun teX12_study 278).trans rfl
theorem tX12_study_279 : tX12_study 279 = oAl 0 280 := (congrFun teX12_study 279).trans rfl
theorem tX12_study_280 : tX12_study 280 = oGet 12 32 283 := (congrFun teX12_study 280).trans rfl
theorem tX12_study_283 : tX12_study 283 = oIf1eq 295 286 := (congrFun teX12_study 283).trans rfl
theorem tX12_study_286 : tX12_study 286 = oIl 6 288 := (congrFun teX12_study 286).trans rfl
theorem tX12_study_288 : tX12_study 288 = oIf1eq 295 291 := (congrFun teX12_study 288).trans rfl
theorem tX12_study_291 : tX12_study 291 = oK (.int (nI 1)) 292 := (congrFun teX12_study 291).trans rfl
theorem tX12_study_292 : tX12_study 292 = oGo 296 := (congrFun teX12_study 292).trans rfl
theorem tX12_study_295 : tX12_study 295 = oK (.int (nI 0)) 296 := (congrFun teX12_study 295).trans rfl
theorem tX12_study_296 : tX12_study 296 = oPutZ 12 32 299 := (congrFun teX12_study 296).trans rfl
theorem tX12_study_299 : tX12_study 299 = oVret := (congrFun teX12_study 299).trans rfl
def lX12_follow : List (Nat × qP) := [(0, oK (.int (nI 0)) 1), (1, oIs 4 3), (3, oIl 4 5), (5, oK (.int (nI 8)) 7), (7, oIf2ge 42 10), (10, oIl 2 11), (11, oIl 4 13), (13, oShr 14), (14, oK (.int (nI 1)) 15), (15, oAnd 16), (16, oK (.int (nI 1)) 17), (17, oIf2ne 36 20), (20, oAl 0 21), (21, oGet 12 26 24), (24, oK (.int (nI 8)) 26), (26, oIl 1 27), (27, oMul 28), (28, oIl 4 30), (30, oAdd 31), (31, oDup2 32), (32, oIald 33), (33, oIl 3 34), (34, oOr 35), (35, oIast 36), (36, oInc 4 (nI 1) 39), (39, oGo 3), (42, oVret)]
def uX12_follow : Nat → qP := q_tb lX12_follow
set_option maxRecDepth 20000 in
theorem suX12_follow : q_Snd mX12_follow uX12_follow := by
  refine q_tb_ok ?_
  unfold lX12_follow
  refine q_fa (ok_iconst (by decide +kernel : decode cX12_follow 0 = .ok (.iconst 0, 1)) rfl (by decide +kernel)) ?_
  refine q_fa (ok_istore (by decide +kernel : decode cX12_follow 1 = .ok (.istore 4, 2)) rfl (by decide)) ?_
  refine q_fa (ok_iload (by decide +kernel : decode cX12_follow 3 = .ok (.iload 4, 2)) rfl) ?_
  refine q_fa (ok_bipush (by decide +kernel : decode cX12_follow 5 = .ok (.bipush 8, 2)) rfl (by decide +kernel)) ?_
  refine q_fa (ok_if2ge (by decide +kernel : decode cX12_follow 7 = .ok (.if_icmp .ge 35, 3)) (by decide) rfl) ?_
  refine q_fa (ok_iload_n (by decide +kernel : decode cX12_follow 10 = .ok (.iload_n 2, 1)) rfl rfl) ?_
  refine q_fa (ok_iload (by decide +kernel : decode cX12_follow 11 = .ok (.iload 4, 2)) rfl) ?_
  refine q_fa (ok_ishr (by decide +kernel : decode cX12_follow 13 = .ok (.ishr, 1)) rfl) ?_
  refine q_fa (ok_iconst (by decide +kernel : decode cX12_follow 14 = .ok (.iconst 1, 1)) rfl (by decide +kernel)) ?_
  refine q_fa (ok_iand (by decide +kernel : decode cX12_follow 15 = .ok (.iand, 1)) rfl) ?_
  refine q_fa (ok_iconst (by decide +kernel : decode cX12_follow 16 = .ok (.iconst 1, 1)) rfl (by decide +kernel)) ?_
  refine q_fa (ok_if2ne (by decide +kernel : decode cX12_follow 17 = .ok (.if_icmp .ne 19, 3)) (by decide) rfl) ?_
  refine q_fa (ok_aload_n (by decide +kernel : decode cX12_follow 20 = .ok (.aload_n 0, 1)) rfl rfl) ?_
  refine q_fa (ok_get (by decide +kernel : decode cX12_follow 21 = .ok (.getfield 63, 3)) rfl (rfl : vwCl[12]? = some (RX12, TX12, 58)) inX12 (by decide) g1030) ?_
  refine q_fa (ok_bipush (by decide +kernel : decode cX12_follow 24 = .ok (.bipush 8, 2)) rfl (by decide +kernel)) ?_
  refine q_fa (ok_iload_n (by decide +kernel : decode cX12_follow 26 = .ok (.iload_n 1, 1)) rfl rfl) ?_
  refine q_fa (ok_imul (by decide +kernel : decode cX12_follow 27 = .ok (.imul, 1)) rfl) ?_
  refine q_fa (ok_iload (by decide +kernel : decode cX12_follow 28 = .ok (.iload 4, 2)) rfl) ?_
  refine q_fa (ok_iadd (by decide +kernel : decode cX12_follow 30 = .ok (.iadd, 1)) rfl) ?_
  refine q_fa (ok_dup2 (by decide +kernel : decode cX12_follow 31 = .ok (.dup2, 1)) rfl) ?_
  refine q_fa (ok_iaload (by decide +kernel : decode cX12_follow 32 = .ok (.iaload, 1)) rfl) ?_
  refine q_fa (ok_iload_n (by decide +kernel : decode cX12_follow 33 = .ok (.iload_n 3, 1)) rfl rfl) ?_
  refine q_fa (ok_ior (by decide +kernel : decode cX12_follow 34 = .ok (.ior, 1)) rfl) ?_
  refine q_fa (ok_iastore (by decide +kernel : decode cX12_follow 35 = .ok (.iastore, 1)) rfl) ?_
  refine q_fa (ok_iinc (by decide +kernel : decode cX12_follow 36 = .ok (.iinc 4 1, 3)) rfl (by decide +kernel) (by decide)) ?_
  refine q_fa (ok_goto (by decide +kernel : decode cX12_follow 39 = .ok (.goto (-36), 3)) (by decide)) ?_
  refine q_fa (ok_vret (by decide +kernel : decode cX12_follow 42 = .ok (.return_, 1)) rfl) ?_
  exact q_fa0
theorem exX12_follow : ∃ t : Nat → qP, t = uX12_follow := ⟨_, rfl⟩
noncomputable def tX12_follow : Nat → qP := Classical.choose exX12_follow
theorem teX12_follow : tX12_follow = uX12_follow := Classical.choose_spec exX12_follow
theorem sX12_follow : q_Snd mX12_follow tX12_follow := by rw [teX12_follow]; exact suX12_follow
theorem tX12_follow_0 : tX12_follow 0 = oK (.int (nI 0)) 1 := (congrFun teX12_follow 0).trans rfl
theorem tX12_follow_1 : tX12_follow 1 = oIs 4 3 := (congrFun teX12_follow 1).trans rfl
theorem tX12_follow_3 : tX12_follow 3 = oIl 4 5 := (congrFun teX12_follow 3).trans rfl
theorem tX12_follow_5 : tX12_follow 5 = oK (.int (nI 8)) 7 := (congrFun teX12_follow 5).trans rfl
theorem tX12_follow_7 : tX12_follow 7 = oIf2ge 42 10 := (congrFun teX12_follow 7).trans rfl
theorem tX12_follow_10 : tX12_follow 10 = oIl 2 11 := (congrFun teX12_follow 10).trans rfl
theorem tX12_follow_11 : tX12_follow 11 = oIl 4 13 := (congrFun teX12_follow 11).trans rfl
theorem tX12_follow_13 : tX12_follow 13 = oShr 14 := (congrFun teX12_follow 13).trans rfl
theorem tX12_follow_14 : tX12_follow 14 = oK (.int (nI 1)) 15 := (congrFun teX12_follow 14).trans rfl
theorem tX12_follow_15 : tX12_follow 15 = oAnd 16 := (congrFun teX12_follow 15).trans rfl
theorem tX12_follow_16 : tX12_follow 16 = oK (.int (nI 1)) 17 := (congrFun teX12_follow 16).trans rfl
theorem tX12_follow_17 : tX12_follow 17 = oIf2ne 36 20 := (congrFun teX12_follow 17).trans rfl
theorem tX12_follow_20 : tX12_follow 20 = oAl 0 21 := (congrFun teX12_follow 20).trans rfl
theorem tX12_follow_21 : tX12_follow 21 = oGet 12 26 24 := (congrFun teX12_follow 21).trans rfl
theorem tX12_follow_24 : tX12_follow 24 = oK (.int (nI 8)) 26 := (congrFun teX12_follow 24).trans rfl
theorem tX12_follow_26 : tX12_follow 26 = oIl 1 27 := (congrFun teX12_follow 26).trans rfl
theorem tX12_follow_27 : tX12_follow 27 = oMul 28 := (congrFun teX12_follow 27).trans rfl
theorem tX12_follow_28 : tX12_follow 28 = oIl 4 30 := (congrFun teX12_follow 28).trans rfl
theorem tX12_follow_30 : tX12_follow 30 = oAdd 31 := (congrFun teX12_follow 30).trans rfl
theorem tX12_follow_31 : tX12_follow 31 = oDup2 32 := (congrFun teX12_follow 31).trans rfl
theorem tX12_follow_32 : tX12_follow 32 = oIald 33 := (congrFun teX12_follow 32).trans rfl
theorem tX12_follow_33 : tX12_follow 33 = oIl 3 34 := (congrFun teX12_follow 33).trans rfl
theorem tX12_follow_34 : tX12_follow 34 = oOr 35 := (congrFun teX12_follow 34).trans rfl
theorem tX12_follow_35 : tX12_follow 35 = oIast 36 := (congrFun teX12_follow 35).trans rfl
theorem tX12_follow_36 : tX12_follow 36 = oInc 4 (nI 1) 39 := (congrFun teX12_follow 36).trans rfl
theorem tX12_follow_39 : tX12_follow 39 = oGo 3 := (congrFun teX12_follow 39).trans rfl
theorem tX12_follow_42 : tX12_follow 42 = oVret := (congrFun teX12_follow 42).trans rfl
def lX12_study0 : List (Nat × qP) := [(0, oAl 0 1), (1, oIl 2 2), (2, oIf1ne 11 5), (5, oK (.int (nI 6000)) 8), (8, oGo 15), (11, oAl 0 12), (12, oGet 12 10 15), (15, oPutI 12 10 18), (18, oAl 0 19), (19, oGet 12 24 22), (22, oIl 2 23), (23, oK (.int (nI 0)) 24), (24, oIast 25), (25, oAl 0 26), (26, oAl 0 27), (27, oIl 1 28), (28, oCallV 12 mX12_treeOf 1 31), (31, oIl 2 32), (32, oCallV 12 mX12_study 2 35), (35, oAl 0 36), (36, oGet 12 27 39), (39, oIl 2 40), (40, oAl 0 41), (41, oGet 12 30 44), (44, oIast 45), (45, oAl 0 46), (46, oGet 12 28 49), (49, oIl 2 50), (50, oAl 0 51), (51, oGet 12 31 54), (54, oIast 55), (55, oAl 0 56), (56, oGet 12 29 59), (59, oIl 2 60), (60, oAl 0 61), (61, oGet 12 32 64), (64, oZast 65), (65, oVret)]
def uX12_study0 : Nat → qP := q_tb lX12_study0
set_option maxRecDepth 20000 in
theorem suX12_study0 : q_Snd mX12_study0 uX12_study0 := by
  refine q_tb_ok ?_
  unfold lX12_study0
  refine q_fa (ok_aload_n (by decide +kernel : decode cX12_study0 0 = .ok (.aload_n 0, 1)) rfl rfl) ?_
  refine q_fa (ok_iload_n (by decide +kernel : decode cX12_study0 1 = .ok (.iload_n 2, 1)) rfl rfl) ?_
  refine q_fa (ok_if1ne (by decide +kernel : decode cX12_study0 2 = .ok (.ifCond .ne 9, 3)) (by decide) rfl) ?_
  refine q_fa (ok_sipush (by decide +kernel : decode cX12_study0 5 = .ok (.sipush 6000, 3)) rfl (by decide +kernel)) ?_
  refine q_fa (ok_goto (by decide +kernel : decode cX12_study0 8 = .ok (.goto 7, 3)) (by decide)) ?_
  refine q_fa (ok_aload_n (by decide +kernel : decode cX12_study0 11 = .ok (.aload_n 0, 1)) rfl rfl) ?_
  refine q_fa (ok_get (by decide +kernel : decode cX12_study0 12 = .ok (.getfield 34, 3)) rfl (rfl : vwCl[12]? = some (RX12, TX12, 58)) inX12 (by decide) g1014) ?_
  refine q_fa (ok_putI tyX12 (by decide +kernel : decode cX12_study0 15 = .ok (.putfield 34, 3)) rfl (rfl : vwCl[12]? = some (RX12, TX12, 58)) inX12 tyX12_ok nmX12 (by decide) g1014 (Or.inl rfl) (by decide +kernel)) ?_
  refine q_fa (ok_aload_n (by decide +kernel : decode cX12_study0 18 = .ok (.aload_n 0, 1)) rfl rfl) ?_
  refine q_fa (ok_get (by decide +kernel : decode cX12_study0 19 = .ok (.getfield 57, 3)) rfl (rfl : vwCl[12]? = some (RX12, TX12, 58)) inX12 (by decide) g1028) ?_
  refine q_fa (ok_iload_n (by decide +kernel : decode cX12_study0 22 = .ok (.iload_n 2, 1)) rfl rfl) ?_
  refine q_fa (ok_iconst (by decide +kernel : decode cX12_study0 23 = .ok (.iconst 0, 1)) rfl (by decide +kernel)) ?_
  refine q_fa (ok_iastore (by decide +kernel : decode cX12_study0 24 = .ok (.iastore, 1)) rfl) ?_
  refine q_fa (ok_aload_n (by decide +kernel : decode cX12_study0 25 = .ok (.aload_n 0, 1)) rfl rfl) ?_
  refine q_fa (ok_aload_n (by decide +kernel : decode cX12_study0 26 = .ok (.aload_n 0, 1)) rfl rfl) ?_
  refine q_fa (ok_iload_n (by decide +kernel : decode cX12_study0 27 = .ok (.iload_n 1, 1)) rfl rfl) ?_
  refine q_fa (ok_callV (by decide +kernel : decode cX12_study0 28 = .ok (.invokevirtual 246, 3)) rfl kX12_treeOf.1 kX12_treeOf.2.1 kX12_treeOf.2.2.1 kX12_treeOf.2.2.2.1 kX12_treeOf.2.2.2.2 (rfl : vwCl[12]? = some (RX12, TX12, 58)) g1259 gs61 g1257) ?_
  refine q_fa (ok_iload_n (by decide +kernel : decode cX12_study0 31 = .ok (.iload_n 2, 1)) rfl rfl) ?_
  refine q_fa (ok_callV (by decide +kernel : decode cX12_study0 32 = .ok (.invokevirtual 275, 3)) rfl kX12_study.1 kX12_study.2.1 kX12_study.2.2.1 kX12_study.2.2.2.1 kX12_study.2.2.2.2 (rfl : vwCl[12]? = some (RX12, TX12, 58)) g1347 gs77 g1345) ?_
  refine q_fa (ok_aload_n (by decide +kernel : decode cX12_study0 35 = .ok (.aload_n 0, 1)) rfl rfl) ?_
  refine q_fa (ok_get (by decide +kernel : decode cX12_study0 36 = .ok (.getfield 66, 3)) rfl (rfl : vwCl[12]? = some (RX12, TX12, 58)) inX12 (by decide) g1031) ?_
  refine q_fa (ok_iload_n (by decide +kernel : decode cX12_study0 39 = .ok (.iload_n 2, 1)) rfl rfl) ?_
  refine q_fa (ok_aload_n (by decide +kernel : decode cX12_study0 40 = .ok (.aload_n 0, 1)) rfl rfl) ?_
  refine q_fa (ok_get (by decide +kernel : decode cX12_study0 41 = .ok (.getfield 265, 3)) rfl (rfl : vwCl[12]? = some (RX12, TX12, 58)) inX12 (by decide) g1034) ?_
  refine q_fa (ok_iastore (by decide +kernel : decode cX12_study0 44 = .ok (.iastore, 1)) rfl) ?_
  refine q_fa (ok_aload_n (by decide +kernel : decode cX12_study0 45 = .ok (.aload_n 0, 1)) rfl rfl) ?_
  refine q_fa (ok_get (by decide +kernel : decode cX12_study0 46 = .ok (.getfield 69, 3)) rfl (rfl : vwCl[12]? = some (RX12, TX12, 58)) inX12 (by decide) g1032) ?_
  refine q_fa (ok_iload_n (by decide +kernel : decode cX12_study0 49 = .ok (.iload_n 2, 1)) rfl rfl) ?_
  refine q_fa (ok_aload_n (by decide +kernel : decode cX12_study0 50 = .ok (.aload_n 0, 1)) rfl rfl) ?_
  refine q_fa (ok_get (by decide +kernel : decode cX12_study0 51 = .ok (.getfield 268, 3)) rfl (rfl : vwCl[12]? = some (RX12, TX12, 58)) inX12 (by decide) g1035) ?_
  refine q_fa (ok_iastore (by decide +kernel : decode cX12_study0 54 = .ok (.iastore, 1)) rfl) ?_
  refine q_fa (ok_aload_n (by decide +kernel : decode cX12_study0 55 = .ok (.aload_n 0, 1)) rfl rfl) ?_
  refine q_fa (ok_get (by decide +kernel : decode cX12_study0 56 = .ok (.getfield 72, 3)) rfl (rfl : vwCl[12]? = some (RX12, TX12, 58)) inX12 (by decide) g1033) ?_
  refine q_fa (ok_iload_n (by decide +kernel : decode cX12_study0 59 = .ok (.iload_n 2, 1)) rfl rfl) ?_
  refine q_fa (ok_aload_n (by decide +kernel : decode cX12_study0 60 = .ok (.aload_n 0, 1)) rfl rfl) ?_
  refine q_fa (ok_get (by decide +kernel : decode cX12_study0 61 = .ok (.getfield 271, 3)) rfl (rfl : vwCl[12]? = some (RX12, TX12, 58)) inX12 (by decide) g1036) ?_
  refine q_fa (ok_zastore (by decide +kernel : decode cX12_study0 64 = .ok (.bastore, 1)) rfl) ?_
  refine q_fa (ok_vret (by decide +kernel : decode cX12_study0 65 = .ok (.return_, 1)) rfl) ?_
  exact q_fa0
theorem exX12_study0 : ∃ t : Nat → qP, t = uX12_study0 := ⟨_, rfl⟩
noncomputable def tX12_study0 : Nat → qP := Classical.choose exX12_study0
theorem teX12_study0 : tX12_study0 = uX12_study0 := Classical.choose_spec exX12_study0
theorem sX12_study0 : q_Snd mX12_study0 tX12_study0 := by rw [teX12_study0]; exact suX12_study0
theorem tX12_study0_0 : tX12_study0 0 = oAl 0 1 := (congrFun teX12_study0 0).trans rfl
theorem tX12_study0_1 : tX12_study0 1 = oIl 2 2 := (congrFun teX12_study0 1).trans rfl
theorem tX12_study0_2 : tX12_study0 2 = oIf1ne 11 5 := (congrFun teX12_study0 2).trans rfl
theorem tX12_study0_5 : tX12_study0 5 = oK (.int (nI 6000)) 8 := (congrFun teX12_study0 5).trans rfl
theorem tX12_study0_8 : tX12_study0 8 = oGo 15 := (congrFun teX12_study0 8).trans rfl
theorem tX12_study0_11 : tX12_study0 11 = oAl 0 12 := (congrFun teX12_study0 11).trans rfl
theorem tX12_study0_12 : tX12_study0 12 = oGet 12 10 15 := (congrFun teX12_study0 12).trans rfl
theorem tX12_study0_15 : tX12_study0 15 = oPutI 12 10 18 := (congrFun teX12_study0 15).trans rfl
theorem tX12_study0_18 : tX12_study0 18 = oAl 0 19 := (congrFun teX12_study0 18).trans rfl
theorem tX12_study0_19 : tX12_study0 19 = oGet 12 24 22 := (congrFun teX12_study0 19).trans rfl
theorem tX12_study0_22 : tX12_study0 22 = oIl 2 23 := (congrFun teX12_study0 22).trans rfl
theorem tX12_study0_23 : tX12_study0 23 = oK (.int (nI 0)) 24 := (congrFun teX12_study0 23).trans rfl
theorem tX12_study0_24 : tX12_study0 24 = oIast 25 := (congrFun teX12_study0 24).trans rfl
theorem tX12_study0_25 : tX12_study0 25 = oAl 0 26 := (congrFun teX12_study0 25).trans rfl
theorem tX12_study0_26 : tX12_study0 26 = oAl 0 27 := (congrFun teX12_study0 26).trans rfl
theorem tX12_study0_27 : tX12_study0 27 = oIl 1 28 := (congrFun teX12_study0 27).trans rfl
theorem tX12_study0_28 : tX12_study0 28 = oCallV 12 mX12_treeOf 1 31 := (congrFun teX12_study0 28).trans rfl
theorem tX12_study0_31 : tX12_study0 31 = oIl 2 32 := (congrFun teX12_study0 31).trans rfl
theorem tX12_study0_32 : tX12_study0 32 = oCallV 12 mX12_study 2 35 := (congrFun teX12_study0 32).trans rfl
theorem tX12_study0_35 : tX12_study0 35 = oAl 0 36 := (congrFun teX12_study0 35).trans rfl
theorem tX12_study0_36 : tX12_study0 36 = oGet 12 27 39 := (congrFun teX12_study0 36).trans rfl
theorem tX12_study0_39 : tX12_study0 39 = oIl 2 40 := (congrFun teX12_study0 39).trans rfl
theorem tX12_study0_40 : tX12_study0 40 = oAl 0 41 := (congrFun teX12_study0 40).trans rfl
theorem tX12_study0_41 : tX12_study0 41 = oGet 12 30 44 := (congrFun teX12_study0 41).trans rfl
theorem tX12_study0_44 : tX12_study0 44 = oIast 45 := (congrFun teX12_study0 44).trans rfl
theorem tX12_study0_45 : tX12_study0 45 = oAl 0 46 := (congrFun teX12_study0 45).trans rfl
theorem tX12_study0_46 : tX12_study0 46 = oGet 12 28 49 := (congrFun teX12_study0 46).trans rfl
theorem tX12_study0_49 : tX12_study0 49 = oIl 2 50 := (congrFun teX12_study0 49).trans rfl
theorem tX12_study0_50 : tX12_study0 50 = oAl 0 51 := (congrFun teX12_study0 50).trans rfl
theorem tX12_study0_51 : tX12_study0 51 = oGet 12 31 54 := (congrFun teX12_study0 51).trans rfl
theorem tX12_study0_54 : tX12_study0 54 = oIast 55 := (congrFun teX12_study0 54).trans rfl
theorem tX12_study0_55 : tX12_study0 55 = oAl 0 56 := (congrFun teX12_study0 55).trans rfl
theorem tX12_study0_56 : tX12_study0 56 = oGet 12 29 59 := (congrFun teX12_study0 56).trans rfl
theorem tX12_study0_59 : tX12_study0 59 = oIl 2 60 := (congrFun teX12_study0 59).trans rfl
theorem tX12_study0_60 : tX12_study0 60 = oAl 0 61 := (congrFun teX12_study0 60).trans rfl
theorem tX12_study0_61 : tX12_study0 61 = oGet 12 32 64 := (congrFun teX12_study0 61).trans rfl
theorem tX12_study0_64 : tX12_study0 64 = oZast 65 := (congrFun teX12_study0 64).trans rfl
theorem tX12_study0_65 : tX12_study0 65 = oVret := (congrFun teX12_study0 65).trans rfl
def lX12_steps : List (Nat × qP) := [(0, oIl 2 1), (1, oK (.int (nI 7)) 3), (3, oShr 4), (4, oK (.int (nI 1)) 5), (5, oAnd 6), (6, oK (.int (nI 1)) 7), (7, oIf2ne 19 10), (10, oAl 0 11), (11, oGet 12 27 14), (14, oIl 1 15), (15, oIald 16), (16, oGo 20), (19, oK (.int (nI 0)) 20), (20, oIs 4 22), (22, oK (.int (nI 0)) 23), (23, oIs 5 25), (25, oIl 5 27), (27, oK (.int (nI 7)) 29), (29, oIf2ge 65 32), (32, oIl 2 33), (33, oIl 5 35), (35, oShr 36), (36, oK (.int (nI 1)) 37), (37, oAnd 38), (38, oK (.int (nI 1)) 39), (39, oIf2ne 59 42), (42, oIl 4 44), (44, oAl 0 45), (45, oGet 12 26 48), (48, oK (.int (nI 8)) 50), (50, oIl 1 51), (51, oMul 52), (52, oIl 5 54), (54, oAdd 55), (55, oIald 56), (56, oOr 57), (57, oIs 4 59), (59, oInc 5 (nI 1) 62), (62, oGo 25), (65, oK (.int (nI 0)) 66), (66, oIs 5 68), (68, oK (.int (nI 0)) 69), (69, oIs 6 71), (71, oIl 6 73), (73, oK (.int (nI 7)) 75), (75, oIf2ge 124 78), (78, oIl 4 80), (80, oIl 6 82), (82, oShr 83), (83, oK (.int (nI 1)) 84), (84, oAnd 85), (85, oK (.int (nI 1)) 86), (86, oIf2ne 118 89), (89, oAl 0 90), (90, oGet 12 25 93), (93, oK (.int (nI 8)) 95), (95, oIl 1 96), (96, oMul 97), (97, oIl 6 99), (99, oAdd 100), (100, oIald 101), (101, oIl 3 102), (102, oShr 103), (103, oK (.int (nI 1)) 104), (104, oAnd 105), (105, oK (.int (nI 1)) 106), (106, oIf2ne 118 109), (109, oIl 5 111), (111, oK (.int (nI 1)) 112), (112, oIl 6 114), (114, oShl 115), (115, oOr 116), (116, oIs 5 118), (118, oInc 6 (nI 1) 121), (121, oGo 71), (124, oIl 5 126), (126, oIret)]
def uX12_steps : Nat → qP := q_tb lX12_steps
set_option maxRecDepth 20000 in
theorem suX12_steps : q_Snd mX12_steps uX12_steps := by
  refine q_tb_ok ?_
  unfold lX12_steps
  refine q_fa (ok_iload_n (by decide +kernel : decode cX12_steps 0 = .ok (.iload_n 2, 1)) rfl rfl) ?_
  refine q_fa (ok_bipush (by decide +kernel : decode cX12_steps 1 = .ok (.bipush 7, 2)) rfl (by decide +kernel)) ?_
  refine q_fa (ok_ishr (by decide +kernel : decode cX12_steps 3 = .ok (.ishr, 1)) rfl) ?_
  refine q_fa (ok_iconst (by decide +kernel : decode cX12_steps 4 = .ok (.iconst 1, 1)) rfl (by decide +kernel)) ?_
  refine q_fa (ok_iand (by decide +kernel : decode cX12_steps 5 = .ok (.iand, 1)) rfl) ?_
  refine q_fa (ok_iconst (by decide +kernel : decode cX12_steps 6 = .ok (.iconst 1, 1)) rfl (by decide +kernel)) ?_
  refine q_fa (ok_if2ne (by decide +kernel : decode cX12_steps 7 = .ok (.if_icmp .ne 12, 3)) (by decide) rfl) ?_
  refine q_fa (ok_aload_n (by decide +kernel : decode cX12_steps 10 = .ok (.aload_n 0, 1)) rfl rfl) ?_
  refine q_fa (ok_get (by decide +kernel : decode cX12_steps 11 = .ok (.getfield 66, 3)) rfl (rfl : vwCl[12]? = some (RX12, TX12, 58)) inX12 (by decide) g1031) ?_
  refine q_fa (ok_iload_n (by decide +kernel : decode cX12_steps 14 = .ok (.iload_n 1, 1)) rfl rfl) ?_
  refine q_fa (ok_iaload (by decide +kernel : decode cX12_steps 15 = .ok (.iaload, 1)) rfl) ?_
  refine q_fa (ok_goto (by decide +kernel : decode cX12_steps 16 = .ok (.goto 4, 3)) (by decide)) ?_
  refine q_fa (ok_iconst (by decide +kernel : decode cX12_steps 19 = .ok (.iconst 0, 1)) rfl (by decide +kernel)) ?_
  refine q_fa (ok_istore (by decide +kernel : decode cX12_steps 20 = .ok (.istore 4, 2)) rfl (by decide)) ?_
  refine q_fa (ok_iconst (by decide +kernel : decode cX12_steps 22 = .ok (.iconst 0, 1)) rfl (by decide +kernel)) ?_
  refine q_fa (ok_istore (by decide +kernel : decode cX12_steps 23 = .ok (.istore 5, 2)) rfl (by decide)) ?_
  refine q_fa (ok_iload (by decide +kernel : decode cX12_steps 25 = .ok (.iload 5, 2)) rfl) ?_
  refine q_fa (ok_bipush (by decide +kernel : decode cX12_steps 27 = .ok (.bipush 7, 2)) rfl (by decide +kernel)) ?_
  refine q_fa (ok_if2ge (by decide +kernel : decode cX12_steps 29 = .ok (.if_icmp .ge 36, 3)) (by decide) rfl) ?_
  refine q_fa (ok_iload_n (by decide +kernel : decode cX12_steps 32 = .ok (.iload_n 2, 1)) rfl rfl) ?_
  refine q_fa (ok_iload (by decide +kernel : decode cX12_steps 33 = .ok (.iload 5, 2)) rfl) ?_
  refine q_fa (ok_ishr (by decide +kernel : decode cX12_steps 35 = .ok (.ishr, 1)) rfl) ?_
  refine q_fa (ok_iconst (by decide +kernel : decode cX12_steps 36 = .ok (.iconst 1, 1)) rfl (by decide +kernel)) ?_
  refine q_fa (ok_iand (by decide +kernel : decode cX12_steps 37 = .ok (.iand, 1)) rfl) ?_
  refine q_fa (ok_iconst (by decide +kernel : decode cX12_steps 38 = .ok (.iconst 1, 1)) rfl (by decide +kernel)) ?_
  refine q_fa (ok_if2ne (by decide +kernel : decode cX12_steps 39 = .ok (.if_icmp .ne 20, 3)) (by decide) rfl) ?_
  refine q_fa (ok_iload (by decide +kernel : decode cX12_steps 42 = .ok (.iload 4, 2)) rfl) ?_
  refine q_fa (ok_aload_n (by decide +kernel : decode cX12_steps 44 = .ok (.aload_n 0, 1)) rfl rfl) ?_
  refine q_fa (ok_get (by decide +kernel : decode cX12_steps 45 = .ok (.getfield 63, 3)) rfl (rfl : vwCl[12]? = some (RX12, TX12, 58)) inX12 (by decide) g1030) ?_
  refine q_fa (ok_bipush (by decide +kernel : decode cX12_steps 48 = .ok (.bipush 8, 2)) rfl (by decide +kernel)) ?_
  refine q_fa (ok_iload_n (by decide +kernel : decode cX12_steps 50 = .ok (.iload_n 1, 1)) rfl rfl) ?_
  refine q_fa (ok_imul (by decide +kernel : decode cX12_steps 51 = .ok (.imul, 1)) rfl) ?_
  refine q_fa (ok_iload (by decide +kernel : decode cX12_steps 52 = .ok (.iload 5, 2)) rfl) ?_
  refine q_fa (ok_iadd (by decide +kernel : decode cX12_steps 54 = .ok (.iadd, 1)) rfl) ?_
  refine q_fa (ok_iaload (by decide +kernel : decode cX12_steps 55 = .ok (.iaload, 1)) rfl) ?_
  refine q_fa (ok_ior (by decide +kernel : decode cX12_steps 56 = .ok (.ior, 1)) rfl) ?_
  refine q_fa (ok_istore (by decide +kernel : decode cX12_steps 57 = .ok (.istore 4, 2)) rfl (by decide)) ?_
  refine q_fa (ok_iinc (by decide +kernel : decode cX12_steps 59 = .ok (.iinc 5 1, 3)) rfl (by decide +kernel) (by decide)) ?_
  refine q_fa (ok_goto (by decide +kernel : decode cX12_steps 62 = .ok (.goto (-37), 3)) (by decide)) ?_
  refine q_fa (ok_iconst (by decide +kernel : decode cX12_steps 65 = .ok (.iconst 0, 1)) rfl (by decide +kernel)) ?_
  refine q_fa (ok_istore (by decide +kernel : decode cX12_steps 66 = .ok (.istore 5, 2)) rfl (by decide)) ?_
  refine q_fa (ok_iconst (by decide +kernel : decode cX12_steps 68 = .ok (.iconst 0, 1)) rfl (by decide +kernel)) ?_
  refine q_fa (ok_istore (by decide +kernel : decode cX12_steps 69 = .ok (.istore 6, 2)) rfl (by decide)) ?_
  refine q_fa (ok_iload (by decide +kernel : decode cX12_steps 71 = .ok (.iload 6, 2)) rfl) ?_
  refine q_fa (ok_bipush (by decide +kernel : decode cX12_steps 73 = .ok (.bipush 7, 2)) rfl (by decide +kernel)) ?_
  refine q_fa (ok_if2ge (by decide +kernel : decode cX12_steps 75 = .ok (.if_icmp .ge 49, 3)) (by decide) rfl) ?_
  refine q_fa (ok_iload (by decide +kernel : decode cX12_steps 78 = .ok (.iload 4, 2)) rfl) ?_
  refine q_fa (ok_iload (by decide +kernel : decode cX12_steps 80 = .ok (.iload 6, 2)) rfl) ?_
  refine q_fa (ok_ishr (by decide +kernel : decode cX12_steps 82 = .ok (.ishr, 1)) rfl) ?_
  refine q_fa (ok_iconst (by decide +kernel : decode cX12_steps 83 = .ok (.iconst 1, 1)) rfl (by decide +kernel)) ?_
  refine q_fa (ok_iand (by decide +kernel : decode cX12_steps 84 = .ok (.iand, 1)) rfl) ?_
  refine q_fa (ok_iconst (by decide +kernel : decode cX12_steps 85 = .ok (.iconst 1, 1)) rfl (by decide +kernel)) ?_
  refine q_fa (ok_if2ne (by decide +kernel : decode cX12_steps 86 = .ok (.if_icmp .ne 32, 3)) (by decide) rfl) ?_
  refine q_fa (ok_aload_n (by decide +kernel : decode cX12_steps 89 = .ok (.aload_n 0, 1)) rfl rfl) ?_
  refine q_fa (ok_get (by decide +kernel : decode cX12_steps 90 = .ok (.getfield 60, 3)) rfl (rfl : vwCl[12]? = some (RX12, TX12, 58)) inX12 (by decide) g1029) ?_
  refine q_fa (ok_bipush (by decide +kernel : decode cX12_steps 93 = .ok (.bipush 8, 2)) rfl (by decide +kernel)) ?_
  refine q_fa (ok_iload_n (by decide +kernel : decode cX12_steps 95 = .ok (.iload_n 1, 1)) rfl rfl) ?_
  refine q_fa (ok_imul (by decide +kernel : decode cX12_steps 96 = .ok (.imul, 1)) rfl) ?_
  refine q_fa (ok_iload (by decide +kernel : decode cX12_steps 97 = .ok (.iload 6, 2)) rfl) ?_
  refine q_fa (ok_iadd (by decide +kernel : decode cX12_steps 99 = .ok (.iadd, 1)) rfl) ?_
  refine q_fa (ok_iaload (by decide +kernel : decode cX12_steps 100 = .ok (.iaload, 1)) rfl) ?_
  refine q_fa (ok_iload_n (by decide +kernel : decode cX12_steps 101 = .ok (.iload_n 3, 1)) rfl rfl) ?_
  refine q_fa (ok_ishr (by decide +kernel : decode cX12_steps 102 = .ok (.ishr, 1)) rfl) ?_
  refine q_fa (ok_iconst (by decide +kernel : decode cX12_steps 103 = .ok (.iconst 1, 1)) rfl (by decide +kernel)) ?_
  refine q_fa (ok_iand (by decide +kernel : decode cX12_steps 104 = .ok (.iand, 1)) rfl) ?_
  refine q_fa (ok_iconst (by decide +kernel : decode cX12_steps 105 = .ok (.iconst 1, 1)) rfl (by decide +kernel)) ?_
  refine q_fa (ok_if2ne (by decide +kernel : decode cX12_steps 106 = .ok (.if_icmp .ne 12, 3)) (by decide) rfl) ?_
  refine q_fa (ok_iload (by decide +kernel : decode cX12_steps 109 = .ok (.iload 5, 2)) rfl) ?_
  refine q_fa (ok_iconst (by decide +kernel : decode cX12_steps 111 = .ok (.iconst 1, 1)) rfl (by decide +kernel)) ?_
  refine q_fa (ok_iload (by decide +kernel : decode cX12_steps 112 = .ok (.iload 6, 2)) rfl) ?_
  refine q_fa (ok_ishl (by decide +kernel : decode cX12_steps 114 = .ok (.ishl, 1)) rfl) ?_
  refine q_fa (ok_ior (by decide +kernel : decode cX12_steps 115 = .ok (.ior, 1)) rfl) ?_
  refine q_fa (ok_istore (by decide +kernel : decode cX12_steps 116 = .ok (.istore 5, 2)) rfl (by decide)) ?_
  refine q_fa (ok_iinc (by decide +kernel : decode cX12_steps 118 = .ok (.iinc 6 1, 3)) rfl (by decide +kernel) (by decide)) ?_
  refine q_fa (ok_goto (by decide +kernel : decode cX12_steps 121 = .ok (.goto (-50), 3)) (by decide)) ?_
  refine q_fa (ok_iload (by decide +kernel : decode cX12_steps 124 = .ok (.iload 5, 2)) rfl) ?_
  refine q_fa (ok_iret (by decide +kernel : decode cX12_steps 126 = .ok (.ireturn, 1)) rfl) ?_
  exact q_fa0
theorem exX12_steps : ∃ t : Nat → qP, t = uX12_steps := ⟨_, rfl⟩
noncomputable def tX12_steps : Nat → qP := Classical.choose exX12_steps
theorem teX12_steps : tX12_steps = uX12_steps := Classical.choose_spec exX12_steps
theorem sX12_steps : q_Snd mX12_steps tX12_steps := by rw [teX12_steps]; exact suX12_steps
theorem tX12_steps_0 : tX12_steps 0 = oIl 2 1 := (congrFun teX12_steps 0).trans rfl
theorem tX12_steps_1 : tX12_steps 1 = oK (.int (nI 7)) 3 := (congrFun teX12_steps 1).trans rfl
theorem tX12_steps_3 : tX12_steps 3 = oShr 4 := (congrFun teX12_steps 3).trans rfl
theorem tX12_steps_4 : tX12_steps 4 = oK (.int (nI 1)) 5 := (congrFun teX12_steps 4).trans rfl
theorem tX12_steps_5 : tX12_steps 5 = oAnd 6 := (congrFun teX12_steps 5).trans rfl
theorem tX12_steps_6 : tX12_steps 6 = oK (.int (nI 1)) 7 := (congrFun teX12_steps 6).trans rfl
theorem tX12_steps_7 : tX12_steps 7 = oIf2ne 19 10 := (congrFun teX12_steps 7).trans rfl
theorem tX12_steps_10 : tX12_steps 10 = oAl 0 11 := (congrFun teX12_steps 10).trans rfl
theorem tX12_steps_11 : tX12_steps 11 = oGet 12 27 14 := (congrFun teX12_steps 11).trans rfl
theorem tX12_steps_14 : tX12_steps 14 = oIl 1 15 := (congrFun teX12_steps 14).trans rfl
theorem tX12_steps_15 : tX12_steps 15 = oIald 16 := (congrFun teX12_steps 15).trans rfl
theorem tX12_steps_16 : tX12_steps 16 = oGo 20 := (congrFun teX12_steps 16).trans rfl
theorem tX12_steps_19 : tX12_steps 19 = oK (.int (nI 0)) 20 := (congrFun teX12_steps 19).trans rfl
theorem tX12_steps_20 : tX12_steps 20 = oIs 4 22 := (congrFun teX12_steps 20).trans rfl
theorem tX12_steps_22 : tX12_steps 22 = oK (.int (nI 0)) 23 := (congrFun teX12_steps 22).trans rfl
theorem tX12_steps_23 : tX12_steps 23 = oIs 5 25 := (congrFun teX12_steps 23).trans rfl
theorem tX12_steps_25 : tX12_steps 25 = oIl 5 27 := (congrFun teX12_steps 25).trans rfl
theorem tX12_steps_27 : tX12_steps 27 = oK (.int (nI 7)) 29 := (congrFun teX12_steps 27).trans rfl
theorem tX12_steps_29 : tX12_steps 29 = oIf2ge 65 32 := (congrFun teX12_steps 29).trans rfl
theorem tX12_steps_32 : tX12_steps 32 = oIl 2 33 := (congrFun teX12_steps 32).trans rfl
theorem tX12_steps_33 : tX12_steps 33 = oIl 5 35 := (congrFun teX12_steps 33).trans rfl
theorem tX12_steps_35 : tX12_steps 35 = oShr 36 := (congrFun teX12_steps 35).trans rfl
theorem tX12_steps_36 : tX12_steps 36 = oK (.int (nI 1)) 37 := (congrFun teX12_steps 36).trans rfl
theorem tX12_steps_37 : tX12_steps 37 = oAnd 38 := (congrFun teX12_steps 37).trans rfl
theorem tX12_steps_38 : tX12_steps 38 = oK (.int (nI 1)) 39 := (congrFun teX12_steps 38).trans rfl
theorem tX12_steps_39 : tX12_steps 39 = oIf2ne 59 42 := (congrFun teX12_steps 39).trans rfl
theorem tX12_steps_42 : tX12_steps 42 = oIl 4 44 := (congrFun teX12_steps 42).trans rfl
theorem tX12_steps_44 : tX12_steps 44 = oAl 0 45 := (congrFun teX12_steps 44).trans rfl
theorem tX12_steps_45 : tX12_steps 45 = oGet 12 26 48 := (congrFun teX12_steps 45).trans rfl
theorem tX12_steps_48 : tX12_steps 48 = oK (.int (nI 8)) 50 := (congrFun teX12_steps 48).trans rfl
theorem tX12_steps_50 : tX12_steps 50 = oIl 1 51 := (congrFun teX12_steps 50).trans rfl
theorem tX12_steps_51 : tX12_steps 51 = oMul 52 := (congrFun teX12_steps 51).trans rfl
theorem tX12_steps_52 : tX12_steps 52 = oIl 5 54 := (congrFun teX12_steps 52).trans rfl
theorem tX12_steps_54 : tX12_steps 54 = oAdd 55 := (congrFun teX12_steps 54).trans rfl
theorem tX12_steps_55 : tX12_steps 55 = oIald 56 := (congrFun teX12_steps 55).trans rfl
theorem tX12_steps_56 : tX12_steps 56 = oOr 57 := (congrFun teX12_steps 56).trans rfl
theorem tX12_steps_57 : tX12_steps 57 = oIs 4 59 := (congrFun teX12_steps 57).trans rfl
theorem tX12_steps_59 : tX12_steps 59 = oInc 5 (nI 1) 62 := (congrFun teX12_steps 59).trans rfl
theorem tX12_steps_62 : tX12_steps 62 = oGo 25 := (congrFun teX12_steps 62).trans rfl
theorem tX12_steps_65 : tX12_steps 65 = oK (.int (nI 0)) 66 := (congrFun teX12_steps 65).trans rfl
theorem tX12_steps_66 : tX12_steps 66 = oIs 5 68 := (congrFun teX12_steps 66).trans rfl
theorem tX12_steps_68 : tX12_steps 68 = oK (.int (nI 0)) 69 := (congrFun teX12_steps 68).trans rfl
theorem tX12_steps_69 : tX12_steps 69 = oIs 6 71 := (congrFun teX12_steps 69).trans rfl
theorem tX12_steps_71 : tX12_steps 71 = oIl 6 73 := (congrFun teX12_steps 71).trans rfl
theorem tX12_steps_73 : tX12_steps 73 = oK (.int (nI 7)) 75 := (congrFun teX12_steps 73).trans rfl
theorem tX12_steps_75 : tX12_steps 75 = oIf2ge 124 78 := (congrFun teX12_steps 75).trans rfl
theorem tX12_steps_78 : tX12_steps 78 = oIl 4 80 := (congrFun teX12_steps 78).trans rfl
theorem tX12_steps_80 : tX12_steps 80 = oIl 6 82 := (congrFun teX12_steps 80).trans rfl
theorem tX12_steps_82 : tX12_steps 82 = oShr 83 := (congrFun teX12_steps 82).trans rfl
theorem tX12_steps_83 : tX12_steps 83 = oK (.int (nI 1)) 84 := (congrFun teX12_steps 83).trans rfl
theorem tX12_steps_84 : tX12_steps 84 = oAnd 85 := (congrFun teX12_steps 84).trans rfl
theorem tX12_steps_85 : tX12_steps 85 = oK (.int (nI 1)) 86 := (congrFun teX12_steps 85).trans rfl
theorem tX12_steps_86 : tX12_steps 86 = oIf2ne 118 89 := (congrFun teX12_steps 86).trans rfl
theorem tX12_steps_89 : tX12_steps 89 = oAl 0 90 := (congrFun teX12_steps 89).trans rfl
theorem tX12_steps_90 : tX12_steps 90 = oGet 12 25 93 := (congrFun teX12_steps 90).trans rfl
theorem tX12_steps_93 : tX12_steps 93 = oK (.int (nI 8)) 95 := (congrFun teX12_steps 93).trans rfl
theorem tX12_steps_95 : tX12_steps 95 = oIl 1 96 := (congrFun teX12_steps 95).trans rfl
theorem tX12_steps_96 : tX12_steps 96 = oMul 97 := (congrFun teX12_steps 96).trans rfl
theorem tX12_steps_97 : tX12_steps 97 = oIl 6 99 := (congrFun teX12_steps 97).trans rfl
theorem tX12_steps_99 : tX12_steps 99 = oAdd 100 := (congrFun teX12_steps 99).trans rfl
theorem tX12_steps_100 : tX12_steps 100 = oIald 101 := (congrFun teX12_steps 100).trans rfl
theorem tX12_steps_101 : tX12_steps 101 = oIl 3 102 := (congrFun teX12_steps 101).trans rfl
theorem tX12_steps_102 : tX12_steps 102 = oShr 103 := (congrFun teX12_steps 102).trans rfl
theorem tX12_steps_103 : tX12_steps 103 = oK (.int (nI 1)) 104 := (congrFun teX12_steps 103).trans rfl
theorem tX12_steps_104 : tX12_steps 104 = oAnd 105 := (congrFun teX12_steps 104).trans rfl
theorem tX12_steps_105 : tX12_steps 105 = oK (.int (nI 1)) 106 := (congrFun teX12_steps 105).trans rfl
theorem tX12_steps_106 : tX12_steps 106 = oIf2ne 118 109 := (congrFun teX12_steps 106).trans rfl
theorem tX12_steps_109 : tX12_steps 109 = oIl 5 111 := (congrFun teX12_steps 109).trans rfl
theorem tX12_steps_111 : tX12_steps 111 = oK (.int (nI 1)) 112 := (congrFun teX12_steps 111).trans rfl
theorem tX12_steps_112 : tX12_steps 112 = oIl 6 114 := (congrFun teX12_steps 112).trans rfl
theorem tX12_steps_114 : tX12_steps 114 = oShl 115 := (congrFun teX12_steps 114).trans rfl
theorem tX12_steps_115 : tX12_steps 115 = oOr 116 := (congrFun teX12_steps 115).trans rfl
theorem tX12_steps_116 : tX12_steps 116 = oIs 5 118 := (congrFun teX12_steps 116).trans rfl
theorem tX12_steps_118 : tX12_steps 118 = oInc 6 (nI 1) 121 := (congrFun teX12_steps 118).trans rfl
theorem tX12_steps_121 : tX12_steps 121 = oGo 71 := (congrFun teX12_steps 121).trans rfl
theorem tX12_steps_124 : tX12_steps 124 = oIl 5 126 := (congrFun teX12_steps 124).trans rfl
theorem tX12_steps_126 : tX12_steps 126 = oIret := (congrFun teX12_steps 126).trans rfl
def lX12_ends0 : List (Nat × qP) := [(0, oIl 2 1), (1, oAl 0 2), (2, oGet 12 28 5), (5, oIl 1 6), (6, oIald 7), (7, oAnd 8), (8, oIf1ne 30 11), (11, oIl 2 12), (12, oK (.int (nI 7)) 14), (14, oShr 15), (15, oK (.int (nI 1)) 16), (16, oAnd 17), (17, oK (.int (nI 1)) 18), (18, oIf2ne 34 21), (21, oAl 0 22), (22, oGet 12 29 25), (25, oIl 1 26), (26, oZald 27), (27, oIf1eq 34 30), (30, oK (.int (nI 1)) 31), (31, oGo 35), (34, oK (.int (nI 0)) 35), (35, oZret)]
def uX12_ends0 : Nat → qP := q_tb lX12_ends0
set_option maxRecDepth 20000 in
theorem suX12_ends0 : q_Snd mX12_ends0 uX12_ends0 := by
  refine q_tb_ok ?_
  unfold lX12_ends0
  refine q_fa (ok_iload_n (by decide +kernel : decode cX12_ends0 0 = .ok (.iload_n 2, 1)) rfl rfl) ?_
  refine q_fa (ok_aload_n (by decide +kernel : decode cX12_ends0 1 = .ok (.aload_n 0, 1)) rfl rfl) ?_
  refine q_fa (ok_get (by decide +kernel : decode cX12_ends0 2 = .ok (.getfield 69, 3)) rfl (rfl : vwCl[12]? = some (RX12, TX12, 58)) inX12 (by decide) g1032) ?_
  refine q_fa (ok_iload_n (by decide +kernel : decode cX12_ends0 5 = .ok (.iload_n 1, 1)) rfl rfl) ?_
  refine q_fa (ok_iaload (by decide +kernel : decode cX12_ends0 6 = .ok (.iaload, 1)) rfl) ?_
  refine q_fa (ok_iand (by decide +kernel : decode cX12_ends0 7 = .ok (.iand, 1)) rfl) ?_
  refine q_fa (ok_if1ne (by decide +kernel : decode cX12_ends0 8 = .ok (.ifCond .ne 22, 3)) (by decide) rfl) ?_
  refine q_fa (ok_iload_n (by decide +kernel : decode cX12_ends0 11 = .ok (.iload_n 2, 1)) rfl rfl) ?_
  refine q_fa (ok_bipush (by decide +kernel : decode cX12_ends0 12 = .ok (.bipush 7, 2)) rfl (by decide +kernel)) ?_
  refine q_fa (ok_ishr (by decide +kernel : decode cX12_ends0 14 = .ok (.ishr, 1)) rfl) ?_
  refine q_fa (ok_iconst (by decide +kernel : decode cX12_ends0 15 = .ok (.iconst 1, 1)) rfl (by decide +kernel)) ?_
  refine q_fa (ok_iand (by decide +kernel : decode cX12_ends0 16 = .ok (.iand, 1)) rfl) ?_
  refine q_fa (ok_iconst (by decide +kernel : decode cX12_ends0 17 = .ok (.iconst 1, 1)) rfl (by decide +kernel)) ?_
  refine q_fa (ok_if2ne (by decide +kernel : decode cX12_ends0 18 = .ok (.if_icmp .ne 16, 3)) (by decide) rfl) ?_
  refine q_fa (ok_aload_n (by decide +kernel : decode cX12_ends0 21 = .ok (.aload_n 0, 1)) rfl rfl) ?_
  refine q_fa (ok_get (by decide +kernel : decode cX12_ends0 22 = .ok (.getfield 72, 3)) rfl (rfl : vwCl[12]? = some (RX12, TX12, 58)) inX12 (by decide) g1033) ?_
  refine q_fa (ok_iload_n (by decide +kernel : decode cX12_ends0 25 = .ok (.iload_n 1, 1)) rfl rfl) ?_
  refine q_fa (ok_zaload (by decide +kernel : decode cX12_ends0 26 = .ok (.baload, 1)) rfl) ?_
  refine q_fa (ok_if1eq (by decide +kernel : decode cX12_ends0 27 = .ok (.ifCond .eq 7, 3)) (by decide) rfl) ?_
  refine q_fa (ok_iconst (by decide +kernel : decode cX12_ends0 30 = .ok (.iconst 1, 1)) rfl (by decide +kernel)) ?_
  refine q_fa (ok_goto (by decide +kernel : decode cX12_ends0 31 = .ok (.goto 4, 3)) (by decide)) ?_
  refine q_fa (ok_iconst (by decide +kernel : decode cX12_ends0 34 = .ok (.iconst 0, 1)) rfl (by decide +kernel)) ?_
  refine q_fa (ok_zret (by decide +kernel : decode cX12_ends0 35 = .ok (.ireturn, 1)) rfl) ?_
  exact q_fa0
theorem exX12_ends0 : ∃ t : Nat → qP, t = uX12_ends0 := ⟨_, rfl⟩
noncomputable def tX12_ends0 : Nat → qP := Classical.choose exX12_ends0
theorem teX12_ends0 : tX12_ends0 = uX12_ends0 := Classical.choose_spec exX12_ends0
theorem sX12_ends0 : q_Snd mX12_ends0 tX12_ends0 := by rw [teX12_ends0]; exact suX12_ends0
theorem tX12_ends0_0 : tX12_ends0 0 = oIl 2 1 := (congrFun teX12_ends0 0).trans rfl
theorem tX12_ends0_1 : tX12_ends0 1 = oAl 0 2 := (congrFun teX12_ends0 1).trans rfl
theorem tX12_ends0_2 : tX12_ends0 2 = oGet 12 28 5 := (congrFun teX12_ends0 2).trans rfl
theorem tX12_ends0_5 : tX12_ends0 5 = oIl 1 6 := (congrFun teX12_ends0 5).trans rfl
theorem tX12_ends0_6 : tX12_ends0 6 = oIald 7 := (congrFun teX12_ends0 6).trans rfl
theorem tX12_ends0_7 : tX12_ends0 7 = oAnd 8 := (congrFun teX12_ends0 7).trans rfl
theorem tX12_ends0_8 : tX12_ends0 8 = oIf1ne 30 11 := (congrFun teX12_ends0 8).trans rfl
theorem tX12_ends0_11 : tX12_ends0 11 = oIl 2 12 := (congrFun teX12_ends0 11).trans rfl
theorem tX12_ends0_12 : tX12_ends0 12 = oK (.int (nI 7)) 14 := (congrFun teX12_ends0 12).trans rfl
theorem tX12_ends0_14 : tX12_ends0 14 = oShr 15 := (congrFun teX12_ends0 14).trans rfl
theorem tX12_ends0_15 : tX12_ends0 15 = oK (.int (nI 1)) 16 := (congrFun teX12_ends0 15).trans rfl
theorem tX12_ends0_16 : tX12_ends0 16 = oAnd 17 := (congrFun teX12_ends0 16).trans rfl
theorem tX12_ends0_17 : tX12_ends0 17 = oK (.int (nI 1)) 18 := (congrFun teX12_ends0 17).trans rfl
theorem tX12_ends0_18 : tX12_ends0 18 = oIf2ne 34 21 := (congrFun teX12_ends0 18).trans rfl
theorem tX12_ends0_21 : tX12_ends0 21 = oAl 0 22 := (congrFun teX12_ends0 21).trans rfl
theorem tX12_ends0_22 : tX12_ends0 22 = oGet 12 29 25 := (congrFun teX12_ends0 22).trans rfl
theorem tX12_ends0_25 : tX12_ends0 25 = oIl 1 26 := (congrFun teX12_ends0 25).trans rfl
theorem tX12_ends0_26 : tX12_ends0 26 = oZald 27 := (congrFun teX12_ends0 26).trans rfl
theorem tX12_ends0_27 : tX12_ends0 27 = oIf1eq 34 30 := (congrFun teX12_ends0 27).trans rfl
theorem tX12_ends0_30 : tX12_ends0 30 = oK (.int (nI 1)) 31 := (congrFun teX12_ends0 30).trans rfl
theorem tX12_ends0_31 : tX12_ends0 31 = oGo 35 := (congrFun teX12_ends0 31).trans rfl
theorem tX12_ends0_34 : tX12_ends0 34 = oK (.int (nI 0)) 35 := (congrFun teX12_ends0 34).trans rfl
theorem tX12_ends0_35 : tX12_ends0 35 = oZret := (congrFun teX12_ends0 35).trans rfl
def lX12_countWays : List (Nat × qP) := [(0, oAl 0 1), (1, oIl 1 2), (2, oK (.int (nI 0)) 3), (3, oCallV 12 mX12_study0 2 6), (6, oK (.int (nI 0)) 7), (7, oIs 3 8), (8, oIl 3 9), (9, oK (.int (nI 256)) 12), (12, oIf2ge 41 15), (15, oAl 0 16), (16, oGet 12 33 19), (19, oIl 3 20), (20, oAl 0 21), (21, oK (.int (nI 0)) 22), (22, oIl 3 23), (23, oCallV 12 mX12_ends0 2 26), (26, oIf1eq 33 29), (29, oK (.int (nI 1)) 30), (30, oGo 34), (33, oK (.int (nI 0)) 34), (34, oIast 35), (35, oInc 3 (nI 1) 38), (38, oGo 8), (41, oK (.int (nI 1)) 42), (42, oIs 3 43), (43, oIl 3 44), (44, oIl 2 45), (45, oIf2gt 131 48), (48, oK (.int (nI 0)) 49), (49, oIs 4 51), (51, oIl 4 53), (53, oK (.int (nI 256)) 56), (56, oIf2ge 125 59), (59, oK (.int (nI 0)) 60), (60, oIs 5 62), (62, oK (.int (nI 0)) 63), (63, oIs 6 65), (65, oIl 6 67), (67, oK (.int (nI 3)) 68), (68, oIf2ge 104 71), (71, oIl 5 73), (73, oAl 0 74), (74, oGet 12 33 77), (77, oK (.int (nI 256)) 80), (80, oIl 3 81), (81, oK (.int (nI 1)) 82), (82, oSub 83), (83, oMul 84), (84, oAl 0 85), (85, oK (.int (nI 0)) 86), (86, oIl 4 88), (88, oIl 6 90), (90, oCallV 12 mX12_steps 3 93), (93, oAdd 94), (94, oIald 95), (95, oAdd 96), (96, oIs 5 98), (98, oInc 6 (nI 1) 101), (101, oGo 65), (104, oAl 0 105), (105, oGet 12 33 108), (108, oK (.int (nI 256)) 111), (111, oIl 3 112), (112, oMul 113), (113, oIl 4 115), (115, oAdd 116), (116, oIl 5 118), (118, oIast 119), (119, oInc 4 (nI 1) 122), (122, oGo 51), (125, oInc 3 (nI 1) 128), (128, oGo 43), (131, oVret)]
def uX12_countWays : Nat → qP := q_tb lX12_countWays
set_option maxRecDepth 20000 in
theorem suX12_countWays : q_Snd mX12_countWays uX12_countWays := by
  refine q_tb_ok ?_
  unfold lX12_countWays
  refine q_fa (ok_aload_n (by decide +kernel : decode cX12_countWays 0 = .ok (.aload_n 0, 1)) rfl rfl) ?_
  refine q_fa (ok_iload_n (by decide +kernel : decode cX12_countWays 1 = .ok (.iload_n 1, 1)) rfl rfl) ?_
  refine q_fa (ok_iconst (by decide +kernel : decode cX12_countWays 2 = .ok (.iconst 0, 1)) rfl (by decide +kernel)) ?_
  refine q_fa (ok_callV (by decide +kernel : decode cX12_countWays 3 = .ok (.invokevirtual 282, 3)) rfl kX12_study0.1 kX12_study0.2.1 kX12_study0.2.2.1 kX12_study0.2.2.2.1 kX12_study0.2.2.2.2 (rfl : vwCl[12]? = some (RX12, TX12, 58)) g1343 gs76 g1341) ?_
  refine q_fa (ok_iconst (by decide +kernel : decode cX12_countWays 6 = .ok (.iconst 0, 1)) rfl (by decide +kernel)) ?_
  refine q_fa (ok_istore_n (by decide +kernel : decode cX12_countWays 7 = .ok (.istore_n 3, 1)) rfl rfl (by decide)) ?_
  refine q_fa (ok_iload_n (by decide +kernel : decode cX12_countWays 8 = .ok (.iload_n 3, 1)) rfl rfl) ?_
  refine q_fa (ok_sipush (by decide +kernel : decode cX12_countWays 9 = .ok (.sipush 256, 3)) rfl (by decide +kernel)) ?_
  refine q_fa (ok_if2ge (by decide +kernel : decode cX12_countWays 12 = .ok (.if_icmp .ge 29, 3)) (by decide) rfl) ?_
  refine q_fa (ok_aload_n (by decide +kernel : decode cX12_countWays 15 = .ok (.aload_n 0, 1)) rfl rfl) ?_
  refine q_fa (ok_get (by decide +kernel : decode cX12_countWays 16 = .ok (.getfield 76, 3)) rfl (rfl : vwCl[12]? = some (RX12, TX12, 58)) inX12 (by decide) g1037) ?_
  refine q_fa (ok_iload_n (by decide +kernel : decode cX12_countWays 19 = .ok (.iload_n 3, 1)) rfl rfl) ?_
  refine q_fa (ok_aload_n (by decide +kernel : decode cX12_countWays 20 = .ok (.aload_n 0, 1)) rfl rfl) ?_
  refine q_fa (ok_iconst (by decide +kernel : decode cX12_countWays 21 = .ok (.iconst 0, 1)) rfl (by decide +kernel)) ?_
  refine q_fa (ok_iload_n (by decide +kernel : decode cX12_countWays 22 = .ok (.iload_n 3, 1)) rfl rfl) ?_
  refine q_fa (ok_callV (by decide +kernel : decode cX12_countWays 23 = .ok (.invokevirtual 285, 3)) rfl kX12_ends0.1 kX12_ends0.2.1 kX12_ends0.2.2.1 kX12_ends0.2.2.2.1 kX12_ends0.2.2.2.2 (rfl : vwCl[12]? = some (RX12, TX12, 58)) g1355 gs79 g1353) ?_
  refine q_fa (ok_if1eq (by decide +kernel : decode cX12_countWays 26 = .ok (.ifCond .eq 7, 3)) (by decide) rfl) ?_
  refine q_fa (ok_iconst (by decide +kernel : decode cX12_countWays 29 = .ok (.iconst 1, 1)) rfl (by decide +kernel)) ?_
  refine q_fa (ok_goto (by decide +kernel : decode cX12_countWays 30 = .ok (.goto 4, 3)) (by decide)) ?_
  refine q_fa (ok_iconst (by decide +kernel : decode cX12_countWays 33 = .ok (.iconst 0, 1)) rfl (by decide +kernel)) ?_
  refine q_fa (ok_iastore (by decide +kernel : decode cX12_countWays 34 = .ok (.iastore, 1)) rfl) ?_
  refine q_fa (ok_iinc (by decide +kernel : decode cX12_countWays 35 = .ok (.iinc 3 1, 3)) rfl (by decide +kernel) (by decide)) ?_
  refine q_fa (ok_goto (by decide +kernel : decode cX12_countWays 38 = .ok (.goto (-30), 3)) (by decide)) ?_
  refine q_fa (ok_iconst (by decide +kernel : decode cX12_countWays 41 = .ok (.iconst 1, 1)) rfl (by decide +kernel)) ?_
  refine q_fa (ok_istore_n (by decide +kernel : decode cX12_countWays 42 = .ok (.istore_n 3, 1)) rfl rfl (by decide)) ?_
  refine q_fa (ok_iload_n (by decide +kernel : decode cX12_countWays 43 = .ok (.iload_n 3, 1)) rfl rfl) ?_
  refine q_fa (ok_iload_n (by decide +kernel : decode cX12_countWays 44 = .ok (.iload_n 2, 1)) rfl rfl) ?_
  refine q_fa (ok_if2gt (by decide +kernel : decode cX12_countWays 45 = .ok (.if_icmp .gt 86, 3)) (by decide) rfl) ?_
  refine q_fa (ok_iconst (by decide +kernel : decode cX12_countWays 48 = .ok (.iconst 0, 1)) rfl (by decide +kernel)) ?_
  refine q_fa (ok_istore (by decide +kernel : decode cX12_countWays 49 = .ok (.istore 4, 2)) rfl (by decide)) ?_
  refine q_fa (ok_iload (by decide +kernel : decode cX12_countWays 51 = .ok (.iload 4, 2)) rfl) ?_
  refine q_fa (ok_sipush (by decide +kernel : decode cX12_countWays 53 = .ok (.sipush 256, 3)) rfl (by decide +kernel)) ?_
  refine q_fa (ok_if2ge (by decide +kernel : decode cX12_countWays 56 = .ok (.if_icmp .ge 69, 3)) (by decide) rfl) ?_
  refine q_fa (ok_iconst (by decide +kernel : decode cX12_countWays 59 = .ok (.iconst 0, 1)) rfl (by decide +kernel)) ?_
  refine q_fa (ok_istore (by decide +kernel : decode cX12_countWays 60 = .ok (.istore 5, 2)) rfl (by decide)) ?_
  refine q_fa (ok_iconst (by decide +kernel : decode cX12_countWays 62 = .ok (.iconst 0, 1)) rfl (by decide +kernel)) ?_
  refine q_fa (ok_istore (by decide +kernel : decode cX12_countWays 63 = .ok (.istore 6, 2)) rfl (by decide)) ?_
  refine q_fa (ok_iload (by decide +kernel : decode cX12_countWays 65 = .ok (.iload 6, 2)) rfl) ?_
  refine q_fa (ok_iconst (by decide +kernel : decode cX12_countWays 67 = .ok (.iconst 3, 1)) rfl (by decide +kernel)) ?_
  refine q_fa (ok_if2ge (by decide +kernel : decode cX12_countWays 68 = .ok (.if_icmp .ge 36, 3)) (by decide) rfl) ?_
  refine q_fa (ok_iload (by decide +kernel : decode cX12_countWays 71 = .ok (.iload 5, 2)) rfl) ?_
  refine q_fa (ok_aload_n (by decide +kernel : decode cX12_countWays 73 = .ok (.aload_n 0, 1)) rfl rfl) ?_
  refine q_fa (ok_get (by decide +kernel : decode cX12_countWays 74 = .ok (.getfield 76, 3)) rfl (rfl : vwCl[12]? = some (RX12, TX12, 58)) inX12 (by decide) g1037) ?_
  refine q_fa (ok_sipush (by decide +kernel : decode cX12_countWays 77 = .ok (.sipush 256, 3)) rfl (by decide +kernel)) ?_
  refine q_fa (ok_iload_n (by decide +kernel : decode cX12_countWays 80 = .ok (.iload_n 3, 1)) rfl rfl) ?_
  refine q_fa (ok_iconst (by decide +kernel : decode cX12_countWays 81 = .ok (.iconst 1, 1)) rfl (by decide +kernel)) ?_
  refine q_fa (ok_isub (by decide +kernel : decode cX12_countWays 82 = .ok (.isub, 1)) rfl) ?_
  refine q_fa (ok_imul (by decide +kernel : decode cX12_countWays 83 = .ok (.imul, 1)) rfl) ?_
  refine q_fa (ok_aload_n (by decide +kernel : decode cX12_countWays 84 = .ok (.aload_n 0, 1)) rfl rfl) ?_
  refine q_fa (ok_iconst (by decide +kernel : decode cX12_countWays 85 = .ok (.iconst 0, 1)) rfl (by decide +kernel)) ?_
  refine q_fa (ok_iload (by decide +kernel : decode cX12_countWays 86 = .ok (.iload 4, 2)) rfl) ?_
  refine q_fa (ok_iload (by decide +kernel : decode cX12_countWays 88 = .ok (.iload 6, 2)) rfl) ?_
  refine q_fa (ok_callV (by decide +kernel : decode cX12_countWays 90 = .ok (.invokevirtual 288, 3)) rfl kX12_steps.1 kX12_steps.2.1 kX12_steps.2.2.1 kX12_steps.2.2.2.1 kX12_steps.2.2.2.2 (rfl : vwCl[12]? = some (RX12, TX12, 58)) g1359 gs80 g1357) ?_
  refine q_fa (ok_iadd (by decide +kernel : decode cX12_countWays 93 = .ok (.iadd, 1)) rfl) ?_
  refine q_fa (ok_iaload (by decide +kernel : decode cX12_countWays 94 = .ok (.iaload, 1)) rfl) ?_
  refine q_fa (ok_iadd (by decide +kernel : decode cX12_countWays 95 = .ok (.iadd, 1)) rfl) ?_
  refine q_fa (ok_istore (by decide +kernel : decode cX12_countWays 96 = .ok (.istore 5, 2)) rfl (by decide)) ?_
  refine q_fa (ok_iinc (by decide +kernel : decode cX12_countWays 98 = .ok (.iinc 6 1, 3)) rfl (by decide +kernel) (by decide)) ?_
  refine q_fa (ok_goto (by decide +kernel : decode cX12_countWays 101 = .ok (.goto (-36), 3)) (by decide)) ?_
  refine q_fa (ok_aload_n (by decide +kernel : decode cX12_countWays 104 = .ok (.aload_n 0, 1)) rfl rfl) ?_
  refine q_fa (ok_get (by decide +kernel : decode cX12_countWays 105 = .ok (.getfield 76, 3)) rfl (rfl : vwCl[12]? = some (RX12, TX12, 58)) inX12 (by decide) g1037) ?_
  refine q_fa (ok_sipush (by decide +kernel : decode cX12_countWays 108 = .ok (.sipush 256, 3)) rfl (by decide +kernel)) ?_
  refine q_fa (ok_iload_n (by decide +kernel : decode cX12_countWays 111 = .ok (.iload_n 3, 1)) rfl rfl) ?_
  refine q_fa (ok_imul (by decide +kernel : decode cX12_countWays 112 = .ok (.imul, 1)) rfl) ?_
  refine q_fa (ok_iload (by decide +kernel : decode cX12_countWays 113 = .ok (.iload 4, 2)) rfl) ?_
  refine q_fa (ok_iadd (by decide +kernel : decode cX12_countWays 115 = .ok (.iadd, 1)) rfl) ?_
  refine q_fa (ok_iload (by decide +kernel : decode cX12_countWays 116 = .ok (.iload 5, 2)) rfl) ?_
  refine q_fa (ok_iastore (by decide +kernel : decode cX12_countWays 118 = .ok (.iastore, 1)) rfl) ?_
  refine q_fa (ok_iinc (by decide +kernel : decode cX12_countWays 119 = .ok (.iinc 4 1, 3)) rfl (by decide +kernel) (by decide)) ?_
  refine q_fa (ok_goto (by decide +kernel : decode cX12_countWays 122 = .ok (.goto (-71), 3)) (by decide)) ?_
  refine q_fa (ok_iinc (by decide +kernel : decode cX12_countWays 125 = .ok (.iinc 3 1, 3)) rfl (by decide +kernel) (by decide)) ?_
  refine q_fa (ok_goto (by decide +kernel : decode cX12_countWays 128 = .ok (.goto (-85), 3)) (by decide)) ?_
  refine q_fa (ok_vret (by decide +kernel : decode cX12_countWays 131 = .ok (.return_, 1)) rfl) ?_
  exact q_fa0
theorem exX12_countWays : ∃ t : Nat → qP, t = uX12_countWays := ⟨_, rfl⟩
noncomputable def tX12_countWays : Nat → qP := Classical.choose exX12_countWays
theorem teX12_countWays : tX12_countWays = uX12_countWays := Classical.choose_spec exX12_countWays
theorem sX12_countWays : q_Snd mX12_countWays tX12_countWays := by rw [teX12_countWays]; exact suX12_countWays
theorem tX12_countWays_0 : tX12_countWays 0 = oAl 0 1 := (congrFun teX12_countWays 0).trans rfl
theorem tX12_countWays_1 : tX12_countWays 1 = oIl 1 2 := (congrFun teX12_countWays 1).trans rfl
theorem tX12_countWays_2 : tX12_countWays 2 = oK (.int (nI 0)) 3 := (congrFun teX12_countWays 2).trans rfl
theorem tX12_countWays_3 : tX12_countWays 3 = oCallV 12 mX12_study0 2 6 := (congrFun teX12_countWays 3).trans rfl
theorem tX12_countWays_6 : tX12_countWays 6 = oK (.int (nI 0)) 7 := (congrFun teX12_countWays 6).trans rfl
theorem tX12_countWays_7 : tX12_countWays 7 = oIs 3 8 := (congrFun teX12_countWays 7).trans rfl
theorem tX12_countWays_8 : tX12_countWays 8 = oIl 3 9 := (congrFun teX12_countWays 8).trans rfl
theorem tX12_countWays_9 : tX12_countWays 9 = oK (.int (nI 256)) 12 := (congrFun teX12_countWays 9).trans rfl
theorem tX12_countWays_12 : tX12_countWays 12 = oIf2ge 41 15 := (congrFun teX12_countWays 12).trans rfl
theorem tX12_countWays_15 : tX12_countWays 15 = oAl 0 16 := (congrFun teX12_countWays 15).trans rfl
theorem tX12_countWays_16 : tX12_countWays 16 = oGet 12 33 19 := (congrFun teX12_countWays 16).trans rfl
theorem tX12_countWays_19 : tX12_countWays 19 = oIl 3 20 := (congrFun teX12_countWays 19).trans rfl
theorem tX12_countWays_20 : tX12_countWays 20 = oAl 0 21 := (congrFun teX12_countWays 20).trans rfl
theorem tX12_countWays_21 : tX12_countWays 21 = oK (.int (nI 0)) 22 := (congrFun teX12_countWays 21).trans rfl
theorem tX12_countWays_22 : tX12_countWays 22 = oIl 3 23 := (congrFun teX12_countWays 22).trans rfl
theorem tX12_countWays_23 : tX12_countWays 23 = oCallV 12 mX12_ends0 2 26 := (congrFun teX12_countWays 23).trans rfl
theorem tX12_countWays_26 : tX12_countWays 26 = oIf1eq 33 29 := (congrFun teX12_countWays 26).trans rfl
theorem tX12_countWays_29 : tX12_countWays 29 = oK (.int (nI 1)) 30 := (congrFun teX12_countWays 29).trans rfl
theorem tX12_countWays_30 : tX12_countWays 30 = oGo 34 := (congrFun teX12_countWays 30).trans rfl
theorem tX12_countWays_33 : tX12_countWays 33 = oK (.int (nI 0)) 34 := (congrFun teX12_countWays 33).trans rfl
theorem tX12_countWays_34 : tX12_countWays 34 = oIast 35 := (congrFun teX12_countWays 34).trans rfl
theorem tX12_countWays_35 : tX12_countWays 35 = oInc 3 (nI 1) 38 := (congrFun teX12_countWays 35).trans rfl
theorem tX12_countWays_38 : tX12_countWays 38 = oGo 8 := (congrFun teX12_countWays 38).trans rfl
theorem tX12_countWays_41 : tX12_countWays 41 = oK (.int (nI 1)) 42 := (congrFun teX12_countWays 41).trans rfl
theorem tX12_countWays_42 : tX12_countWays 42 = oIs 3 43 := (congrFun teX12_countWays 42).trans rfl
theorem tX12_countWays_43 : tX12_countWays 43 = oIl 3 44 := (congrFun teX12_countWays 43).trans rfl
theorem tX12_countWays_44 : tX12_countWays 44 = oIl 2 45 := (congrFun teX12_countWays 44).trans rfl
theorem tX12_countWays_45 : tX12_countWays 45 = oIf2gt 131 48 := (congrFun teX12_countWays 45).trans rfl
theorem tX12_countWays_48 : tX12_countWays 48 = oK (.int (nI 0)) 49 := (congrFun teX12_countWays 48).trans rfl
theorem tX12_countWays_49 : tX12_countWays 49 = oIs 4 51 := (congrFun teX12_countWays 49).trans rfl
theorem tX12_countWays_51 : tX12_countWays 51 = oIl 4 53 := (congrFun teX12_countWays 51).trans rfl
theorem tX12_countWays_53 : tX12_countWays 53 = oK (.int (nI 256)) 56 := (congrFun teX12_countWays 53).trans rfl
theorem tX12_countWays_56 : tX12_countWays 56 = oIf2ge 125 59 := (congrFun teX12_countWays 56).trans rfl
theorem tX12_countWays_59 : tX12_countWays 59 = oK (.int (nI 0)) 60 := (congrFun teX12_countWays 59).trans rfl
theorem tX12_countWays_60 : tX12_countWays 60 = oIs 5 62 := (congrFun teX12_countWays 60).trans rfl
theorem tX12_countWays_62 : tX12_countWays 62 = oK (.int (nI 0)) 63 := (congrFun teX12_countWays 62).trans rfl
theorem tX12_countWays_63 : tX12_countWays 63 = oIs 6 65 := (congrFun teX12_countWays 63).trans rfl
theorem tX12_countWays_65 : tX12_countWays 65 = oIl 6 67 := (congrFun teX12_countWays 65).trans rfl
theorem tX12_countWays_67 : tX12_countWays 67 = oK (.int (nI 3)) 68 := (congrFun teX12_countWays 67).trans rfl
theorem tX12_countWays_68 : tX12_countWays 68 = oIf2ge 104 71 := (congrFun teX12_countWays 68).trans rfl
theorem tX12_countWays_71 : tX12_countWays 71 = oIl 5 73 := (congrFun teX12_countWays 71).trans rfl
theorem tX12_countWays_73 : tX12_countWays 73 = oAl 0 74 := (congrFun teX12_countWays 73).trans rfl
theorem tX12_countWays_74 : tX12_countWays 74 = oGet 12 33 77 := (congrFun teX12_countWays 74).trans rfl
theorem tX12_countWays_77 : tX12_countWays 77 = oK (.int (nI 256)) 80 := (congrFun teX12_countWays 77).trans rfl
theorem tX12_countWays_80 : tX12_countWays 80 = oIl 3 81 := (congrFun teX12_countWays 80).trans rfl
theorem tX12_countWays_81 : tX12_countWays 81 = oK (.int (nI 1)) 82 := (congrFun teX12_countWays 81).trans rfl
theorem tX12_countWays_82 : tX12_countWays 82 = oSub 83 := (congrFun teX12_countWays 82).trans rfl
theorem tX12_countWays_83 : tX12_countWays 83 = oMul 84 := (congrFun teX12_countWays 83).trans rfl
theorem tX12_countWays_84 : tX12_countWays 84 = oAl 0 85 := (congrFun teX12_countWays 84).trans rfl
theorem tX12_countWays_85 : tX12_countWays 85 = oK (.int (nI 0)) 86 := (congrFun teX12_countWays 85).trans rfl
theorem tX12_countWays_86 : tX12_countWays 86 = oIl 4 88 := (congrFun teX12_countWays 86).trans rfl
theorem tX12_countWays_88 : tX12_countWays 88 = oIl 6 90 := (congrFun teX12_countWays 88).trans rfl
theorem tX12_countWays_90 : tX12_countWays 90 = oCallV 12 mX12_steps 3 93 := (congrFun teX12_countWays 90).trans rfl
theorem tX12_countWays_93 : tX12_countWays 93 = oAdd 94 := (congrFun teX12_countWays 93).trans rfl
theorem tX12_countWays_94 : tX12_countWays 94 = oIald 95 := (congrFun teX12_countWays 94).trans rfl
theorem tX12_countWays_95 : tX12_countWays 95 = oAdd 96 := (congrFun teX12_countWays 95).trans rfl
theorem tX12_countWays_96 : tX12_countWays 96 = oIs 5 98 := (congrFun teX12_countWays 96).trans rfl
theorem tX12_countWays_98 : tX12_countWays 98 = oInc 6 (nI 1) 101 := (congrFun teX12_countWays 98).trans rfl
theorem tX12_countWays_101 : tX12_countWays 101 = oGo 65 := (congrFun teX12_countWays 101).trans rfl
theorem tX12_countWays_104 : tX12_countWays 104 = oAl 0 105 := (congrFun teX12_countWays 104).trans rfl
theorem tX12_countWays_105 : tX12_countWays 105 = oGet 12 33 108 := (congrFun teX12_countWays 105).trans rfl
theorem tX12_countWays_108 : tX12_countWays 108 = oK (.int (nI 256)) 111 := (congrFun teX12_countWays 108).trans rfl
theorem tX12_countWays_111 : tX12_countWays 111 = oIl 3 112 := (congrFun teX12_countWays 111).trans rfl
theorem tX12_countWays_112 : tX12_countWays 112 = oMul 113 := (congrFun teX12_countWays 112).trans rfl
theorem tX12_countWays_113 : tX12_countWays 113 = oIl 4 115 := (congrFun teX12_countWays 113).trans rfl
theorem tX12_countWays_115 : tX12_countWays 115 = oAdd 116 := (congrFun teX12_countWays 115).trans rfl
theorem tX12_countWays_116 : tX12_countWays 116 = oIl 5 118 := (congrFun teX12_countWays 116).trans rfl
theorem tX12_countWays_118 : tX12_countWays 118 = oIast 119 := (congrFun teX12_countWays 118).trans rfl
theorem tX12_countWays_119 : tX12_countWays 119 = oInc 4 (nI 1) 122 := (congrFun teX12_countWays 119).trans rfl
theorem tX12_countWays_122 : tX12_countWays 122 = oGo 51 := (congrFun teX12_countWays 122).trans rfl
theorem tX12_countWays_125 : tX12_countWays 125 = oInc 3 (nI 1) 128 := (congrFun teX12_countWays 125).trans rfl
theorem tX12_countWays_128 : tX12_countWays 128 = oGo 43 := (congrFun teX12_countWays 128).trans rfl
theorem tX12_countWays_131 : tX12_countWays 131 = oVret := (congrFun teX12_countWays 131).trans rfl
def lX12_many : List (Nat × qP) := [(0, oAl 0 1), (1, oIl 1 2), (2, oCallV 12 mX12_has 1 5), (5, oIf1eq 18 8), (8, oIl 2 9), (9, oK (.int (nI 0)) 10), (10, oK (.int (nI 12)) 12), (12, oCallS mX12_in 3 15), (15, oIf1ne 20 18), (18, oK (.int (-1)) 19), (19, oIret), (20, oAl 0 21), (21, oIl 1 22), (22, oIl 2 23), (23, oCallV 12 mX12_countWays 2 26), (26, oAl 0 27), (27, oGet 12 33 30), (30, oK (.int (nI 256)) 33), (33, oIl 2 34), (34, oMul 35), (35, oK (.int (nI 128)) 38), (38, oAdd 39), (39, oIald 40), (40, oIret)]
def uX12_many : Nat → qP := q_tb lX12_many
set_option maxRecDepth 20000 in
theorem suX12_many : q_Snd mX12_many uX12_many := by
  refine q_tb_ok ?_
  unfold lX12_many
  refine q_fa (ok_aload_n (by decide +kernel : decode cX12_many 0 = .ok (.aload_n 0, 1)) rfl rfl) ?_
  refine q_fa (ok_iload_n (by decide +kernel : decode cX12_many 1 = .ok (.iload_n 1, 1)) rfl rfl) ?_
  refine q_fa (ok_callV (by decide +kernel : decode cX12_many 2 = .ok (.invokevirtual 243, 3)) rfl kX12_has.1 kX12_has.2.1 kX12_has.2.2.1 kX12_has.2.2.2.1 kX12_has.2.2.2.2 (rfl : vwCl[12]? = some (RX12, TX12, 58)) g1255 gs60 g1253) ?_
  refine q_fa (ok_if1eq (by decide +kernel : decode cX12_many 5 = .ok (.ifCond .eq 13, 3)) (by decide) rfl) ?_
  refine q_fa (ok_iload_n (by decide +kernel : decode cX12_many 8 = .ok (.iload_n 2, 1)) rfl rfl) ?_
  refine q_fa (ok_iconst (by decide +kernel : decode cX12_many 9 = .ok (.iconst 0, 1)) rfl (by decide +kernel)) ?_
  refine q_fa (ok_bipush (by decide +kernel : decode cX12_many 10 = .ok (.bipush 12, 2)) rfl (by decide +kernel)) ?_
  refine q_fa (ok_callS (by decide +kernel : decode cX12_many 12 = .ok (.invokestatic 163, 3)) rfl kX12_in.1 kX12_in.2.1 kX12_in.2.2.1 kX12_in.2.2.2.1 kX12_in.2.2.2.2 g1185 g1184) ?_
  refine q_fa (ok_if1ne (by decide +kernel : decode cX12_many 15 = .ok (.ifCond .ne 5, 3)) (by decide) rfl) ?_
  refine q_fa (ok_iconst (by decide +kernel : decode cX12_many 18 = .ok (.iconst (-1), 1)) rfl (by decide +kernel)) ?_
  refine q_fa (ok_iret (by decide +kernel : decode cX12_many 19 = .ok (.ireturn, 1)) rfl) ?_
  refine q_fa (ok_aload_n (by decide +kernel : decode cX12_many 20 = .ok (.aload_n 0, 1)) rfl rfl) ?_
  refine q_fa (ok_iload_n (by decide +kernel : decode cX12_many 21 = .ok (.iload_n 1, 1)) rfl rfl) ?_
  refine q_fa (ok_iload_n (by decide +kernel : decode cX12_many 22 = .ok (.iload_n 2, 1)) rfl rfl) ?_
  refine q_fa (ok_callV (by decide +kernel : decode cX12_many 23 = .ok (.invokevirtual 292, 3)) rfl kX12_countWays.1 kX12_countWays.2.1 kX12_countWays.2.2.1 kX12_countWays.2.2.2.1 kX12_countWays.2.2.2.2 (rfl : vwCl[12]? = some (RX12, TX12, 58)) g1339 gs75 g1337) ?_
  refine q_fa (ok_aload_n (by decide +kernel : decode cX12_many 26 = .ok (.aload_n 0, 1)) rfl rfl) ?_
  refine q_fa (ok_get (by decide +kernel : decode cX12_many 27 = .ok (.getfield 76, 3)) rfl (rfl : vwCl[12]? = some (RX12, TX12, 58)) inX12 (by decide) g1037) ?_
  refine q_fa (ok_sipush (by decide +kernel : decode cX12_many 30 = .ok (.sipush 256, 3)) rfl (by decide +kernel)) ?_
  refine q_fa (ok_iload_n (by decide +kernel : decode cX12_many 33 = .ok (.iload_n 2, 1)) rfl rfl) ?_
  refine q_fa (ok_imul (by decide +kernel : decode cX12_many 34 = .ok (.imul, 1)) rfl) ?_
  refine q_fa (ok_sipush (by decide +kernel : decode cX12_many 35 = .ok (.sipush 128, 3)) rfl (by decide +kernel)) ?_
  refine q_fa (ok_iadd (by decide +kernel : decode cX12_many 38 = .ok (.iadd, 1)) rfl) ?_
  refine q_fa (ok_iaload (by decide +kernel : decode cX12_many 39 = .ok (.iaload, 1)) rfl) ?_
  refine q_fa (ok_iret (by decide +kernel : decode cX12_many 40 = .ok (.ireturn, 1)) rfl) ?_
  exact q_fa0
theorem exX12_many : ∃ t : Nat → qP, t = uX12_many := ⟨_, rfl⟩
noncomputable def tX12_many : Nat → qP := Classical.choose exX12_many
theorem teX12_many : tX12_many = uX12_many := Classical.choose_spec exX12_many
theorem sX12_many : q_Snd mX12_many tX12_many := by rw [teX12_many]; exact suX12_many
theorem tX12_many_0 : tX12_many 0 = oAl 0 1 := (congrFun teX12_many 0).trans rfl
theorem tX12_many_1 : tX12_many 1 = oIl 1 2 := (congrFun teX12_many 1).trans rfl
theorem tX12_many_2 : tX12_many 2 = oCallV 12 mX12_has 1 5 := (congrFun teX12_many 2).trans rfl
theorem tX12_many_5 : tX12_many 5 = oIf1eq 18 8 := (congrFun teX12_many 5).trans rfl
theorem tX12_many_8 : tX12_many 8 = oIl 2 9 := (congrFun teX12_many 8).trans rfl
theorem tX12_many_9 : tX12_many 9 = oK (.int (nI 0)) 10 := (congrFun teX12_many 9).trans rfl
theorem tX12_many_10 : tX12_many 10 = oK (.int (nI 12)) 12 := (congrFun teX12_many 10).trans rfl
theorem tX12_many_12 : tX12_many 12 = oCallS mX12_in 3 15 := (congrFun teX12_many 12).trans rfl
theorem tX12_many_15 : tX12_many 15 = oIf1ne 20 18 := (congrFun teX12_many 15).trans rfl
theorem tX12_many_18 : tX12_many 18 = oK (.int (-1)) 19 := (congrFun teX12_many 18).trans rfl
theorem tX12_many_19 : tX12_many 19 = oIret := (congrFun teX12_many 19).trans rfl
theorem tX12_many_20 : tX12_many 20 = oAl 0 21 := (congrFun teX12_many 20).trans rfl
theorem tX12_many_21 : tX12_many 21 = oIl 1 22 := (congrFun teX12_many 21).trans rfl
theorem tX12_many_22 : tX12_many 22 = oIl 2 23 := (congrFun teX12_many 22).trans rfl
theorem tX12_many_23 : tX12_many 23 = oCallV 12 mX12_countWays 2 26 := (congrFun teX12_many 23).trans rfl
theorem tX12_many_26 : tX12_many 26 = oAl 0 27 := (congrFun teX12_many 26).trans rfl
theorem tX12_many_27 : tX12_many 27 = oGet 12 33 30 := (congrFun teX12_many 27).trans rfl
theorem tX12_many_30 : tX12_many 30 = oK (.int (nI 256)) 33 := (congrFun teX12_many 30).trans rfl
theorem tX12_many_33 : tX12_many 33 = oIl 2 34 := (congrFun teX12_many 33).trans rfl
theorem tX12_many_34 : tX12_many 34 = oMul 35 := (congrFun teX12_many 34).trans rfl
theorem tX12_many_35 : tX12_many 35 = oK (.int (nI 128)) 38 := (congrFun teX12_many 35).trans rfl
theorem tX12_many_38 : tX12_many 38 = oAdd 39 := (congrFun teX12_many 38).trans rfl
theorem tX12_many_39 : tX12_many 39 = oIald 40 := (congrFun teX12_many 39).trans rfl
theorem tX12_many_40 : tX12_many 40 = oIret := (congrFun teX12_many 40).trans rfl
def lX12_row : List (Nat × qP) := [(0, oAl 0 1), (1, oIl 1 2), (2, oCallV 12 mX12_has 1 5), (5, oIf1eq 18 8), (8, oIl 2 9), (9, oK (.int (nI 0)) 10), (10, oK (.int (nI 12)) 12), (12, oCallS mX12_in 3 15), (15, oIf1ne 20 18), (18, oK (.int (-1)) 19), (19, oIret), (20, oAl 0 21), (21, oIl 1 22), (22, oIl 2 23), (23, oCallV 12 mX12_countWays 2 26), (26, oIl 3 27), (27, oK (.int (nI 0)) 28), (28, oAl 0 29), (29, oGet 12 33 32), (32, oK (.int (nI 256)) 35), (35, oIl 2 36), (36, oMul 37), (37, oK (.int (nI 128)) 40), (40, oAdd 41), (41, oIald 42), (42, oK (.int (nI 1)) 43), (43, oSub 44), (44, oCallS mX12_in 3 47), (47, oIf1ne 52 50), (50, oK (.int (-1)) 51), (51, oIret), (52, oK (.int (nI 1)) 53), (53, oIs 4 55), (55, oK (.int (nI 128)) 58), (58, oIs 5 60), (60, oIl 3 61), (61, oIs 6 63), (63, oIl 2 64), (64, oK (.int (nI 1)) 65), (65, oSub 66), (66, oIs 7 68), (68, oIl 7 70), (70, oIf1lt 160 73), (73, oK (.int (nI 0)) 74), (74, oIs 8 76), (76, oIl 6 78), (78, oAl 0 79), (79, oGet 12 33 82), (82, oK (.int (nI 256)) 85), (85, oIl 7 87), (87, oMul 88), (88, oAl 0 89), (89, oK (.int (nI 0)) 90), (90, oIl 5 92), (92, oIl 8 94), (94, oCallV 12 mX12_steps 3 97), (97, oAdd 98), (98, oIald 99), (99, oIf2lt 134 102), (102, oIl 6 104), (104, oAl 0 105), (105, oGet 12 33 108), (108, oK (.int (nI 256)) 111), (111, oIl 7 113), (113, oMul 114), (114, oAl 0 115), (115, oK (.int (nI 0)) 116), (116, oIl 5 118), (118, oIl 8 120), (120, oCallV 12 mX12_steps 3 123), (123, oAdd 124), (124, oIald 125), (125, oSub 126), (126, oIs 6 128), (128, oInc 8 (nI 1) 131), (131, oGo 76), (134, oK (.int (nI 3)) 135), (135, oIl 4 137), (137, oMul 138), (138, oIl 8 140), (140, oAdd 141), (141, oIs 4 143), (143, oAl 0 144), (144, oK (.int (nI 0)) 145), (145, oIl 5 147), (147, oIl 8 149), (149, oCallV 12 mX12_steps 3 152), (152, oIs 5 154), (154, oInc 7 (-1) 157), (157, oGo 68), (160, oIl 4 162), (162, oIret)]
def uX12_row : Nat → qP := q_tb lX12_row
set_option maxRecDepth 20000 in
theorem suX12_row : q_Snd mX12_row uX12_row := by
  refine q_tb_ok ?_
  unfold lX12_row
  refine q_fa (ok_aload_n (by decide +kernel : decode cX12_row 0 = .ok (.aload_n 0, 1)) rfl rfl) ?_
  refine q_fa (ok_iload_n (by decide +kernel : decode cX12_row 1 = .ok (.iload_n 1, 1)) rfl rfl) ?_
  refine q_fa (ok_callV (by decide +kernel : decode cX12_row 2 = .ok (.invokevirtual 243, 3)) rfl kX12_has.1 kX12_has.2.1 kX12_has.2.2.1 kX12_has.2.2.2.1 kX12_has.2.2.2.2 (rfl : vwCl[12]? = some (RX12, TX12, 58)) g1255 gs60 g1253) ?_
  refine q_fa (ok_if1eq (by decide +kernel : decode cX12_row 5 = .ok (.ifCond .eq 13, 3)) (by decide) rfl) ?_
  refine q_fa (ok_iload_n (by decide +kernel : decode cX12_row 8 = .ok (.iload_n 2, 1)) rfl rfl) ?_
  refine q_fa (ok_iconst (by decide +kernel : decode cX12_row 9 = .ok (.iconst 0, 1)) rfl (by decide +kernel)) ?_
  refine q_fa (ok_bipush (by decide +kernel : decode cX12_row 10 = .ok (.bipush 12, 2)) rfl (by decide +kernel)) ?_
  refine q_fa (ok_callS (by decide +kernel : decode cX12_row 12 = .ok (.invokestatic 163, 3)) rfl kX12_in.1 kX12_in.2.1 kX12_in.2.2.1 kX12_in.2.2.2.1 kX12_in.2.2.2.2 g1185 g1184) ?_
  refine q_fa (ok_if1ne (by decide +kernel : decode cX12_row 15 = .ok (.ifCond .ne 5, 3)) (by decide) rfl) ?_
  refine q_fa (ok_iconst (by decide +kernel : decode cX12_row 18 = .ok (.iconst (-1), 1)) rfl (by decide +kernel)) ?_
  refine q_fa (ok_iret (by decide +kernel : decode cX12_row 19 = .ok (.ireturn, 1)) rfl) ?_
  refine q_fa (ok_aload_n (by decide +kernel : decode cX12_row 20 = .ok (.aload_n 0, 1)) rfl rfl) ?_
  refine q_fa (ok_iload_n (by decide +kernel : decode cX12_row 21 = .ok (.iload_n 1, 1)) rfl rfl) ?_
  refine q_fa (ok_iload_n (by decide +kernel : decode cX12_row 22 = .ok (.iload_n 2, 1)) rfl rfl) ?_
  refine q_fa (ok_callV (by decide +kernel : decode cX12_row 23 = .ok (.invokevirtual 292, 3)) rfl kX12_countWays.1 kX12_countWays.2.1 kX12_countWays.2.2.1 kX12_countWays.2.2.2.1 kX12_countWays.2.2.2.2 (rfl : vwCl[12]? = some (RX12, TX12, 58)) g1339 gs75 g1337) ?_
  refine q_fa (ok_iload_n (by decide +kernel : decode cX12_row 26 = .ok (.iload_n 3, 1)) rfl rfl) ?_
  refine q_fa (ok_iconst (by decide +kernel : decode cX12_row 27 = .ok (.iconst 0, 1)) rfl (by decide +kernel)) ?_
  refine q_fa (ok_aload_n (by decide +kernel : decode cX12_row 28 = .ok (.aload_n 0, 1)) rfl rfl) ?_
  refine q_fa (ok_get (by decide +kernel : decode cX12_row 29 = .ok (.getfield 76, 3)) rfl (rfl : vwCl[12]? = some (RX12, TX12, 58)) inX12 (by decide) g1037) ?_
  refine q_fa (ok_sipush (by decide +kernel : decode cX12_row 32 = .ok (.sipush 256, 3)) rfl (by decide +kernel)) ?_
  refine q_fa (ok_iload_n (by decide +kernel : decode cX12_row 35 = .ok (.iload_n 2, 1)) rfl rfl) ?_
  refine q_fa (ok_imul (by decide +kernel : decode cX12_row 36 = .ok (.imul, 1)) rfl) ?_
  refine q_fa (ok_sipush (by decide +kernel : decode cX12_row 37 = .ok (.sipush 128, 3)) rfl (by decide +kernel)) ?_
  refine q_fa (ok_iadd (by decide +kernel : decode cX12_row 40 = .ok (.iadd, 1)) rfl) ?_
  refine q_fa (ok_iaload (by decide +kernel : decode cX12_row 41 = .ok (.iaload, 1)) rfl) ?_
  refine q_fa (ok_iconst (by decide +kernel : decode cX12_row 42 = .ok (.iconst 1, 1)) rfl (by decide +kernel)) ?_
  refine q_fa (ok_isub (by decide +kernel : decode cX12_row 43 = .ok (.isub, 1)) rfl) ?_
  refine q_fa (ok_callS (by decide +kernel : decode cX12_row 44 = .ok (.invokestatic 163, 3)) rfl kX12_in.1 kX12_in.2.1 kX12_in.2.2.1 kX12_in.2.2.2.1 kX12_in.2.2.2.2 g1185 g1184) ?_
  refine q_fa (ok_if1ne (by decide +kernel : decode cX12_row 47 = .ok (.ifCond .ne 5, 3)) (by decide) rfl) ?_
  refine q_fa (ok_iconst (by decide +kernel : decode cX12_row 50 = .ok (.iconst (-1), 1)) rfl (by decide +kernel)) ?_
  refine q_fa (ok_iret (by decide +kernel : decode cX12_row 51 = .ok (.ireturn, 1)) rfl) ?_
  refine q_fa (ok_iconst (by decide +kernel : decode cX12_row 52 = .ok (.iconst 1, 1)) rfl (by decide +kernel)) ?_
  refine q_fa (ok_istore (by decide +kernel : decode cX12_row 53 = .ok (.istore 4, 2)) rfl (by decide)) ?_
  refine q_fa (ok_sipush (by decide +kernel : decode cX12_row 55 = .ok (.sipush 128, 3)) rfl (by decide +kernel)) ?_
  refine q_fa (ok_istore (by decide +kernel : decode cX12_row 58 = .ok (.istore 5, 2)) rfl (by decide)) ?_
  refine q_fa (ok_iload_n (by decide +kernel : decode cX12_row 60 = .ok (.iload_n 3, 1)) rfl rfl) ?_
  refine q_fa (ok_istore (by decide +kernel : decode cX12_row 61 = .ok (.istore 6, 2)) rfl (by decide)) ?_
  refine q_fa (ok_iload_n (by decide +kernel : decode cX12_row 63 = .ok (.iload_n 2, 1)) rfl rfl) ?_
  refine q_fa (ok_iconst (by decide +kernel : decode cX12_row 64 = .ok (.iconst 1, 1)) rfl (by decide +kernel)) ?_
  refine q_fa (ok_isub (by decide +kernel : decode cX12_row 65 = .ok (.isub, 1)) rfl) ?_
  refine q_fa (ok_istore (by decide +kernel : decode cX12_row 66 = .ok (.istore 7, 2)) rfl (by decide)) ?_
  refine q_fa (ok_iload (by decide +kernel : decode cX12_row 68 = .ok (.iload 7, 2)) rfl) ?_
  refine q_fa (ok_if1lt (by decide +kernel : decode cX12_row 70 = .ok (.ifCond .lt 90, 3)) (by decide) rfl) ?_
  refine q_fa (ok_iconst (by decide +kernel : decode cX12_row 73 = .ok (.iconst 0, 1)) rfl (by decide +kernel)) ?_
  refine q_fa (ok_istore (by decide +kernel : decode cX12_row 74 = .ok (.istore 8, 2)) rfl (by decide)) ?_
  refine q_fa (ok_iload (by decide +kernel : decode cX12_row 76 = .ok (.iload 6, 2)) rfl) ?_
  refine q_fa (ok_aload_n (by decide +kernel : decode cX12_row 78 = .ok (.aload_n 0, 1)) rfl rfl) ?_
  refine q_fa (ok_get (by decide +kernel : decode cX12_row 79 = .ok (.getfield 76, 3)) rfl (rfl : vwCl[12]? = some (RX12, TX12, 58)) inX12 (by decide) g1037) ?_
  refine q_fa (ok_sipush (by decide +kernel : decode cX12_row 82 = .ok (.sipush 256, 3)) rfl (by decide +kernel)) ?_
  refine q_fa (ok_iload (by decide +kernel : decode cX12_row 85 = .ok (.iload 7, 2)) rfl) ?_
  refine q_fa (ok_imul (by decide +kernel : decode cX12_row 87 = .ok (.imul, 1)) rfl) ?_
  refine q_fa (ok_aload_n (by decide +kernel : decode cX12_row 88 = .ok (.aload_n 0, 1)) rfl rfl) ?_
  refine q_fa (ok_iconst (by decide +kernel : decode cX12_row 89 = .ok (.iconst 0, 1)) rfl (by decide +kernel)) ?_
  refine q_fa (ok_iload (by decide +kernel : decode cX12_row 90 = .ok (.iload 5, 2)) rfl) ?_
  refine q_fa (ok_iload (by decide +kernel : decode cX12_row 92 = .ok (.iload 8, 2)) rfl) ?_
  refine q_fa (ok_callV (by decide +kernel : decode cX12_row 94 = .ok (.invokevirtual 288, 3)) rfl kX12_steps.1 kX12_steps.2.1 kX12_steps.2.2.1 kX12_steps.2.2.2.1 kX12_steps.2.2.2.2 (rfl : vwCl[12]? = some (RX12, TX12, 58)) g1359 gs80 g1357) ?_
  refine q_fa (ok_iadd (by decide +kernel : decode cX12_row 97 = .ok (.iadd, 1)) rfl) ?_
  refine q_fa (ok_iaload (by decide +kernel : decode cX12_row 98 = .ok (.iaload, 1)) rfl) ?_
  refine q_fa (ok_if2lt (by decide +kernel : decode cX12_row 99 = .ok (.if_icmp .lt 35, 3)) (by decide) rfl) ?_
  refine q_fa (ok_iload (by decide +kernel : decode cX12_row 102 = .ok (.iload 6, 2)) rfl) ?_
  refine q_fa (ok_aload_n (by decide +kernel : decode cX12_row 104 = .ok (.aload_n 0, 1)) rfl rfl) ?_
  refine q_fa (ok_get (by decide +kernel : decode cX12_row 105 = .ok (.getfield 76, 3)) rfl (rfl : vwCl[12]? = some (RX12, TX12, 58)) inX12 (by decide) g1037) ?_
  refine q_fa (ok_sipush (by decide +kernel : decode cX12_row 108 = .ok (.sipush 256, 3)) rfl (by decide +kernel)) ?_
  refine q_fa (ok_iload (by decide +kernel : decode cX12_row 111 = .ok (.iload 7, 2)) rfl) ?_
  refine q_fa (ok_imul (by decide +kernel : decode cX12_row 113 = .ok (.imul, 1)) rfl) ?_
  refine q_fa (ok_aload_n (by decide +kernel : decode cX12_row 114 = .ok (.aload_n 0, 1)) rfl rfl) ?_
  refine q_fa (ok_iconst (by decide +kernel : decode cX12_row 115 = .ok (.iconst 0, 1)) rfl (by decide +kernel)) ?_
  refine q_fa (ok_iload (by decide +kernel : decode cX12_row 116 = .ok (.iload 5, 2)) rfl) ?_
  refine q_fa (ok_iload (by decide +kernel : decode cX12_row 118 = .ok (.iload 8, 2)) rfl) ?_
  refine q_fa (ok_callV (by decide +kernel : decode cX12_row 120 = .ok (.invokevirtual 288, 3)) rfl kX12_steps.1 kX12_steps.2.1 kX12_steps.2.2.1 kX12_steps.2.2.2.1 kX12_steps.2.2.2.2 (rfl : vwCl[12]? = some (RX12, TX12, 58)) g1359 gs80 g1357) ?_
  refine q_fa (ok_iadd (by decide +kernel : decode cX12_row 123 = .ok (.iadd, 1)) rfl) ?_
  refine q_fa (ok_iaload (by decide +kernel : decode cX12_row 124 = .ok (.iaload, 1)) rfl) ?_
  refine q_fa (ok_isub (by decide +kernel : decode cX12_row 125 = .ok (.isub, 1)) rfl) ?_
  refine q_fa (ok_istore (by decide +kernel : decode cX12_row 126 = .ok (.istore 6, 2)) rfl (by decide)) ?_
  refine q_fa (ok_iinc (by decide +kernel : decode cX12_row 128 = .ok (.iinc 8 1, 3)) rfl (by decide +kernel) (by decide)) ?_
  refine q_fa (ok_goto (by decide +kernel : decode cX12_row 131 = .ok (.goto (-55), 3)) (by decide)) ?_
  refine q_fa (ok_iconst (by decide +kernel : decode cX12_row 134 = .ok (.iconst 3, 1)) rfl (by decide +kernel)) ?_
  refine q_fa (ok_iload (by decide +kernel : decode cX12_row 135 = .ok (.iload 4, 2)) rfl) ?_
  refine q_fa (ok_imul (by decide +kernel : decode cX12_row 137 = .ok (.imul, 1)) rfl) ?_
  refine q_fa (ok_iload (by decide +kernel : decode cX12_row 138 = .ok (.iload 8, 2)) rfl) ?_
  refine q_fa (ok_iadd (by decide +kernel : decode cX12_row 140 = .ok (.iadd, 1)) rfl) ?_
  refine q_fa (ok_istore (by decide +kernel : decode cX12_row 141 = .ok (.istore 4, 2)) rfl (by decide)) ?_
  refine q_fa (ok_aload_n (by decide +kernel : decode cX12_row 143 = .ok (.aload_n 0, 1)) rfl rfl) ?_
  refine q_fa (ok_iconst (by decide +kernel : decode cX12_row 144 = .ok (.iconst 0, 1)) rfl (by decide +kernel)) ?_
  refine q_fa (ok_iload (by decide +kernel : decode cX12_row 145 = .ok (.iload 5, 2)) rfl) ?_
  refine q_fa (ok_iload (by decide +kernel : decode cX12_row 147 = .ok (.iload 8, 2)) rfl) ?_
  refine q_fa (ok_callV (by decide +kernel : decode cX12_row 149 = .ok (.invokevirtual 288, 3)) rfl kX12_steps.1 kX12_steps.2.1 kX12_steps.2.2.1 kX12_steps.2.2.2.1 kX12_steps.2.2.2.2 (rfl : vwCl[12]? = some (RX12, TX12, 58)) g1359 gs80 g1357) ?_
  refine q_fa (ok_istore (by decide +kernel : decode cX12_row 152 = .ok (.istore 5, 2)) rfl (by decide)) ?_
  refine q_fa (ok_iinc (by decide +kernel : decode cX12_row 154 = .ok (.iinc 7 (-1), 3)) rfl (by decide +kernel) (by decide)) ?_
  refine q_fa (ok_goto (by decide +kernel : decode cX12_row 157 = .ok (.goto (-89), 3)) (by decide)) ?_
  refine q_fa (ok_iload (by decide +kernel : decode cX12_row 160 = .ok (.iload 4, 2)) rfl) ?_
  refine q_fa (ok_iret (by decide +kernel : decode cX12_row 162 = .ok (.ireturn, 1)) rfl) ?_
  exact q_fa0
theorem exX12_row : ∃ t : Nat → qP, t = uX12_row := ⟨_, rfl⟩
noncomputable def tX12_row : Nat → qP := Classical.choose exX12_row
theorem teX12_row : tX12_row = uX12_row := Classical.choose_spec exX12_row
theorem sX12_row : q_Snd mX12_row tX12_row := by rw [teX12_row]; exact suX12_row
theorem tX12_row_0 : tX12_row 0 = oAl 0 1 := (congrFun teX12_row 0).trans rfl
theorem tX12_row_1 : tX12_row 1 = oIl 1 2 := (congrFun teX12_row 1).trans rfl
theorem tX12_row_2 : tX12_row 2 = oCallV 12 mX12_has 1 5 := (congrFun teX12_row 2).trans rfl
theorem tX12_row_5 : tX12_row 5 = oIf1eq 18 8 := (congrFun teX12_row 5).trans rfl
theorem tX12_row_8 : tX12_row 8 = oIl 2 9 := (congrFun teX12_row 8).trans rfl
theorem tX12_row_9 : tX12_row 9 = oK (.int (nI 0)) 10 := (congrFun teX12_row 9).trans rfl
theorem tX12_row_10 : tX12_row 10 = oK (.int (nI 12)) 12 := (congrFun teX12_row 10).trans rfl
theorem tX12_row_12 : tX12_row 12 = oCallS mX12_in 3 15 := (congrFun teX12_row 12).trans rfl
theorem tX12_row_15 : tX12_row 15 = oIf1ne 20 18 := (congrFun teX12_row 15).trans rfl
theorem tX12_row_18 : tX12_row 18 = oK (.int (-1)) 19 := (congrFun teX12_row 18).trans rfl
theorem tX12_row_19 : tX12_row 19 = oIret := (congrFun teX12_row 19).trans rfl
theorem tX12_row_20 : tX12_row 20 = oAl 0 21 := (congrFun teX12_row 20).trans rfl
theorem tX12_row_21 : tX12_row 21 = oIl 1 22 := (congrFun teX12_row 21).trans rfl
theorem tX12_row_22 : tX12_row 22 = oIl 2 23 := (congrFun teX12_row 22).trans rfl
theorem tX12_row_23 : tX12_row 23 = oCallV 12 mX12_countWays 2 26 := (congrFun teX12_row 23).trans rfl
theorem tX12_row_26 : tX12_row 26 = oIl 3 27 := (congrFun teX12_row 26).trans rfl
theorem tX12_row_27 : tX12_row 27 = oK (.int (nI 0)) 28 := (congrFun teX12_row 27).trans rfl
theorem tX12_row_28 : tX12_row 28 = oAl 0 29 := (congrFun teX12_row 28).trans rfl
theorem tX12_row_29 : tX12_row 29 = oGet 12 33 32 := (congrFun teX12_row 29).trans rfl
theorem tX12_row_32 : tX12_row 32 = oK (.int (nI 256)) 35 := (congrFun teX12_row 32).trans rfl
theorem tX12_row_35 : tX12_row 35 = oIl 2 36 := (congrFun teX12_row 35).trans rfl
theorem tX12_row_36 : tX12_row 36 = oMul 37 := (congrFun teX12_row 36).trans rfl
theorem tX12_row_37 : tX12_row 37 = oK (.int (nI 128)) 40 := (congrFun teX12_row 37).trans rfl
theorem tX12_row_40 : tX12_row 40 = oAdd 41 := (congrFun teX12_row 40).trans rfl
theorem tX12_row_41 : tX12_row 41 = oIald 42 := (congrFun teX12_row 41).trans rfl
theorem tX12_row_42 : tX12_row 42 = oK (.int (nI 1)) 43 := (congrFun teX12_row 42).trans rfl
theorem tX12_row_43 : tX12_row 43 = oSub 44 := (congrFun teX12_row 43).trans rfl
theorem tX12_row_44 : tX12_row 44 = oCallS mX12_in 3 47 := (congrFun teX12_row 44).trans rfl
theorem tX12_row_47 : tX12_row 47 = oIf1ne 52 50 := (congrFun teX12_row 47).trans rfl
theorem tX12_row_50 : tX12_row 50 = oK (.int (-1)) 51 := (congrFun teX12_row 50).trans rfl
theorem tX12_row_51 : tX12_row 51 = oIret := (congrFun teX12_row 51).trans rfl
theorem tX12_row_52 : tX12_row 52 = oK (.int (nI 1)) 53 := (congrFun teX12_row 52).trans rfl
theorem tX12_row_53 : tX12_row 53 = oIs 4 55 := (congrFun teX12_row 53).trans rfl
theorem tX12_row_55 : tX12_row 55 = oK (.int (nI 128)) 58 := (congrFun teX12_row 55).trans rfl
theorem tX12_row_58 : tX12_row 58 = oIs 5 60 := (congrFun teX12_row 58).trans rfl
theorem tX12_row_60 : tX12_row 60 = oIl 3 61 := (congrFun teX12_row 60).trans rfl
theorem tX12_row_61 : tX12_row 61 = oIs 6 63 := (congrFun teX12_row 61).trans rfl
theorem tX12_row_63 : tX12_row 63 = oIl 2 64 := (congrFun teX12_row 63).trans rfl
theorem tX12_row_64 : tX12_row 64 = oK (.int (nI 1)) 65 := (congrFun teX12_row 64).trans rfl
theorem tX12_row_65 : tX12_row 65 = oSub 66 := (congrFun teX12_row 65).trans rfl
theorem tX12_row_66 : tX12_row 66 = oIs 7 68 := (congrFun teX12_row 66).trans rfl
theorem tX12_row_68 : tX12_row 68 = oIl 7 70 := (congrFun teX12_row 68).trans rfl
theorem tX12_row_70 : tX12_row 70 = oIf1lt 160 73 := (congrFun teX12_row 70).trans rfl
theorem tX12_row_73 : tX12_row 73 = oK (.int (nI 0)) 74 := (congrFun teX12_row 73).trans rfl
theorem tX12_row_74 : tX12_row 74 = oIs 8 76 := (congrFun teX12_row 74).trans rfl
theorem tX12_row_76 : tX12_row 76 = oIl 6 78 := (congrFun teX12_row 76).trans rfl
theorem tX12_row_78 : tX12_row 78 = oAl 0 79 := (congrFun teX12_row 78).trans rfl
theorem tX12_row_79 : tX12_row 79 = oGet 12 33 82 := (congrFun teX12_row 79).trans rfl
theorem tX12_row_82 : tX12_row 82 = oK (.int (nI 256)) 85 := (congrFun teX12_row 82).trans rfl
theorem tX12_row_85 : tX12_row 85 = oIl 7 87 := (congrFun teX12_row 85).trans rfl
theorem tX12_row_87 : tX12_row 87 = oMul 88 := (congrFun teX12_row 87).trans rfl
theorem tX12_row_88 : tX12_row 88 = oAl 0 89 := (congrFun teX12_row 88).trans rfl
theorem tX12_row_89 : tX12_row 89 = oK (.int (nI 0)) 90 := (congrFun teX12_row 89).trans rfl
theorem tX12_row_90 : tX12_row 90 = oIl 5 92 := (congrFun teX12_row 90).trans rfl
theorem tX12_row_92 : tX12_row 92 = oIl 8 94 := (congrFun teX12_row 92).trans rfl
theorem tX12_row_94 : tX12_row 94 = oCallV 12 mX12_steps 3 97 := (congrFun teX12_row 94).trans rfl
theorem tX12_row_97 : tX12_row 97 = oAdd 98 := (congrFun teX12_row 97).trans rfl
theorem tX12_row_98 : tX12_row 98 = oIald 99 := (congrFun teX12_row 98).trans rfl
theorem tX12_row_99 : tX12_row 99 = oIf2lt 134 102 := (congrFun teX12_row 99).trans rfl
theorem tX12_row_102 : tX12_row 102 = oIl 6 104 := (congrFun teX12_row 102).trans rfl
theorem tX12_row_104 : tX12_row 104 = oAl 0 105 := (congrFun teX12_row 104).trans rfl
theorem tX12_row_105 : tX12_row 105 = oGet 12 33 108 := (congrFun teX12_row 105).trans rfl
theorem tX12_row_108 : tX12_row 108 = oK (.int (nI 256)) 111 := (congrFun teX12_row 108).trans rfl
theorem tX12_row_111 : tX12_row 111 = oIl 7 113 := (congrFun teX12_row 111).trans rfl
theorem tX12_row_113 : tX12_row 113 = oMul 114 := (congrFun teX12_row 113).trans rfl
theorem tX12_row_114 : tX12_row 114 = oAl 0 115 := (congrFun teX12_row 114).trans rfl
theorem tX12_row_115 : tX12_row 115 = oK (.int (nI 0)) 116 := (congrFun teX12_row 115).trans rfl
theorem tX12_row_116 : tX12_row 116 = oIl 5 118 := (congrFun teX12_row 116).trans rfl
theorem tX12_row_118 : tX12_row 118 = oIl 8 120 := (congrFun teX12_row 118).trans rfl
theorem tX12_row_120 : tX12_row 120 = oCallV 12 mX12_steps 3 123 := (congrFun teX12_row 120).trans rfl
theorem tX12_row_123 : tX12_row 123 = oAdd 124 := (congrFun teX12_row 123).trans rfl
theorem tX12_row_124 : tX12_row 124 = oIald 125 := (congrFun teX12_row 124).trans rfl
theorem tX12_row_125 : tX12_row 125 = oSub 126 := (congrFun teX12_row 125).trans rfl
theorem tX12_row_126 : tX12_row 126 = oIs 6 128 := (congrFun teX12_row 126).trans rfl
theorem tX12_row_128 : tX12_row 128 = oInc 8 (nI 1) 131 := (congrFun teX12_row 128).trans rfl
theorem tX12_row_131 : tX12_row 131 = oGo 76 := (congrFun teX12_row 131).trans rfl
theorem tX12_row_134 : tX12_row 134 = oK (.int (nI 3)) 135 := (congrFun teX12_row 134).trans rfl
theorem tX12_row_135 : tX12_row 135 = oIl 4 137 := (congrFun teX12_row 135).trans rfl
theorem tX12_row_137 : tX12_row 137 = oMul 138 := (congrFun teX12_row 137).trans rfl
theorem tX12_row_138 : tX12_row 138 = oIl 8 140 := (congrFun teX12_row 138).trans rfl
theorem tX12_row_140 : tX12_row 140 = oAdd 141 := (congrFun teX12_row 140).trans rfl
theorem tX12_row_141 : tX12_row 141 = oIs 4 143 := (congrFun teX12_row 141).trans rfl
theorem tX12_row_143 : tX12_row 143 = oAl 0 144 := (congrFun teX12_row 143).trans rfl
theorem tX12_row_144 : tX12_row 144 = oK (.int (nI 0)) 145 := (congrFun teX12_row 144).trans rfl
theorem tX12_row_145 : tX12_row 145 = oIl 5 147 := (congrFun teX12_row 145).trans rfl
theorem tX12_row_147 : tX12_row 147 = oIl 8 149 := (congrFun teX12_row 147).trans rfl
theorem tX12_row_149 : tX12_row 149 = oCallV 12 mX12_steps 3 152 := (congrFun teX12_row 149).trans rfl
theorem tX12_row_152 : tX12_row 152 = oIs 5 154 := (congrFun teX12_row 152).trans rfl
theorem tX12_row_154 : tX12_row 154 = oInc 7 (-1) 157 := (congrFun teX12_row 154).trans rfl
theorem tX12_row_157 : tX12_row 157 = oGo 68 := (congrFun teX12_row 157).trans rfl
theorem tX12_row_160 : tX12_row 160 = oIl 4 162 := (congrFun teX12_row 160).trans rfl
theorem tX12_row_162 : tX12_row 162 = oIret := (congrFun teX12_row 162).trans rfl
def lX12_findPair : List (Nat × qP) := [(0, oAl 0 1), (1, oIl 1 2), (2, oK (.int (nI 0)) 3), (3, oCallV 12 mX12_study0 2 6), (6, oAl 0 7), (7, oIl 2 8), (8, oK (.int (nI 1)) 9), (9, oCallV 12 mX12_study0 2 12), (12, oK (.int (nI 0)) 13), (13, oIs 4 15), (15, oIl 4 17), (17, oK (.int (nI 65536)) 19), (19, oIf2ge 36 22), (22, oAl 0 23), (23, oGet 12 36 26), (26, oIl 4 28), (28, oK (.int (nI 0)) 29), (29, oZast 30), (30, oInc 4 (nI 1) 33), (33, oGo 15), (36, oAl 0 37), (37, oGet 12 34 40), (40, oK (.int (nI 0)) 41), (41, oK (.int (nI 32896)) 44), (44, oIast 45), (45, oAl 0 46), (46, oGet 12 35 49), (49, oK (.int (nI 0)) 50), (50, oK (.int (-1)) 51), (51, oIast 52), (52, oAl 0 53), (53, oGet 12 36 56), (56, oAl 0 57), (57, oGet 12 34 60), (60, oK (.int (nI 0)) 61), (61, oIald 62), (62, oK (.int (nI 1)) 63), (63, oZast 64), (64, oAl 0 65), (65, oK (.int (nI 1)) 66), (66, oPutI 12 37 69), (69, oK (.int (nI 0)) 70), (70, oIs 4 72), (72, oIl 4 74), (74, oAl 0 75), (75, oGet 12 37 78), (78, oIf2ge 256 81), (81, oAl 0 82), (82, oGet 12 34 85), (85, oIl 4 87), (87, oIald 88), (88, oK (.int (nI 256)) 91), (91, oDiv 92), (92, oIs 5 94), (94, oAl 0 95), (95, oGet 12 34 98), (98, oIl 4 100), (100, oIald 101), (101, oK (.int (nI 256)) 104), (104, oRem 105), (105, oIs 6 107), (107, oAl 0 108), (108, oK (.int (nI 0)) 109), (109, oIl 5 111), (111, oCallV 12 mX12_ends0 2 114), (114, oIs 7 116), (116, oAl 0 117), (117, oK (.int (nI 1)) 118), (118, oIl 6 120), (120, oCallV 12 mX12_ends0 2 123), (123, oIs 8 125), (125, oIl 3 126), (126, oIf1ne 139 129), (129, oIl 7 131), (131, oIl 8 133), (133, oIf2eq 152 136), (136, oGo 149), (139, oIl 7 141), (141, oIf1eq 152 144), (144, oIl 8 146), (146, oIf1ne 152 149), (149, oIl 4 151), (151, oIret), (152, oK (.int (nI 0)) 153), (153, oIs 9 155), (155, oIl 9 157), (157, oK (.int (nI 3)) 158), (158, oIf2ge 250 161), (161, oK (.int (nI 256)) 164), (164, oAl 0 165), (165, oK (.int (nI 0)) 166), (166, oIl 5 168), (168, oIl 9 170), (170, oCallV 12 mX12_steps 3 173), (173, oMul 174), (174, oAl 0 175), (175, oK (.int (nI 1)) 176), (176, oIl 6 178), (178, oIl 9 180), (180, oCallV 12 mX12_steps 3 183), (183, oAdd 184), (184, oIs 10 186), (186, oAl 0 187), (187, oGet 12 36 190), (190, oIl 10 192), (192, oZald 193), (193, oIf1eq 199 196), (196, oGo 244), (199, oAl 0 200), (200, oGet 12 36 203), (203, oIl 10 205), (205, oK (.int (nI 1)) 206), (206, oZast 207), (207, oAl 0 208), (208, oGet 12 34 211), (211, oAl 0 212), (212, oGet 12 37 215), (215, oIl 10 217), (217, oIast 218), (218, oAl 0 219), (219, oGet 12 35 222), (222, oAl 0 223), (223, oGet 12 37 226), (226, oK (.int (nI 3)) 227), (227, oIl 4 229), (229, oMul 230), (230, oIl 9 232), (232, oAdd 233), (233, oIast 234), (234, oAl 0 235), (235, oDup 236), (236, oGet 12 37 239), (239, oK (.int (nI 1)) 240), (240, oAdd 241), (241, oPutI 12 37 244), (244, oInc 9 (nI 1) 247), (247, oGo 155), (250, oInc 4 (nI 1) 253), (253, oGo 72), (256, oK (.int (-1)) 257), (257, oIret)]
def uX12_findPair : Nat → qP := q_tb lX12_findPair
set_option maxRecDepth 20000 in
theorem suX12_findPair : q_Snd mX12_findPair uX12_findPair := by
  refine q_tb_ok ?_
  unfold lX12_findPair
  refine q_fa (ok_aload_n (by decide +kernel : decode cX12_findPair 0 = .ok (.aload_n 0, 1)) rfl rfl) ?_
  refine q_fa (ok_iload_n (by decide +kernel : decode cX12_findPair 1 = .ok (.iload_n 1, 1)) rfl rfl) ?_
  refine q_fa (ok_iconst (by decide +kernel : decode cX12_findPair 2 = .ok (.iconst 0, 1)) rfl (by decide +kernel)) ?_
  refine q_fa (ok_callV (by decide +kernel : decode cX12_findPair 3 = .ok (.invokevirtual 282, 3)) rfl kX12_study0.1 kX12_study0.2.1 kX12_study0.2.2.1 kX12_study0.2.2.2.1 kX12_study0.2.2.2.2 (rfl : vwCl[12]? = some (RX12, TX12, 58)) g1343 gs76 g1341) ?_
  refine q_fa (ok_aload_n (by decide +kernel : decode cX12_findPair 6 = .ok (.aload_n 0, 1)) rfl rfl) ?_
  refine q_fa (ok_iload_n (by decide +kernel : decode cX12_findPair 7 = .ok (.iload_n 2, 1)) rfl rfl) ?_
  refine q_fa (ok_iconst (by decide +kernel : decode cX12_findPair 8 = .ok (.iconst 1, 1)) rfl (by decide +kernel)) ?_
  refine q_fa (ok_callV (by decide +kernel : decode cX12_findPair 9 = .ok (.invokevirtual 282, 3)) rfl kX12_study0.1 kX12_study0.2.1 kX12_study0.2.2.1 kX12_study0.2.2.2.1 kX12_study0.2.2.2.2 (rfl : vwCl[12]? = some (RX12, TX12, 58)) g1343 gs76 g1341) ?_
  refine q_fa (ok_iconst (by decide +kernel : decode cX12_findPair 12 = .ok (.iconst 0, 1)) rfl (by decide +kernel)) ?_
  refine q_fa (ok_istore (by decide +kernel : decode cX12_findPair 13 = .ok (.istore 4, 2)) rfl (by decide)) ?_
  refine q_fa (ok_iload (by decide +kernel : decode cX12_findPair 15 = .ok (.iload 4, 2)) rfl) ?_
  refine q_fa (ok_ldc (by decide +kernel : decode cX12_findPair 17 = .ok (.ldc 79, 2)) rfl g1004) ?_
  refine q_fa (ok_if2ge (by decide +kernel : decode cX12_findPair 19 = .ok (.if_icmp .ge 17, 3)) (by decide) rfl) ?_
  refine q_fa (ok_aload_n (by decide +kernel : decode cX12_findPair 22 = .ok (.aload_n 0, 1)) rfl rfl) ?_
  refine q_fa (ok_get (by decide +kernel : decode cX12_findPair 23 = .ok (.getfield 86, 3)) rfl (rfl : vwCl[12]? = some (RX12, TX12, 58)) inX12 (by decide) g1040) ?_
  refine q_fa (ok_iload (by decide +kernel : decode cX12_findPair 26 = .ok (.iload 4, 2)) rfl) ?_
  refine q_fa (ok_iconst (by decide +kernel : decode cX12_findPair 28 = .ok (.iconst 0, 1)) rfl (by decide +kernel)) ?_
  refine q_fa (ok_zastore (by decide +kernel : decode cX12_findPair 29 = .ok (.bastore, 1)) rfl) ?_
  refine q_fa (ok_iinc (by decide +kernel : decode cX12_findPair 30 = .ok (.iinc 4 1, 3)) rfl (by decide +kernel) (by decide)) ?_
  refine q_fa (ok_goto (by decide +kernel : decode cX12_findPair 33 = .ok (.goto (-18), 3)) (by decide)) ?_
  refine q_fa (ok_aload_n (by decide +kernel : decode cX12_findPair 36 = .ok (.aload_n 0, 1)) rfl rfl) ?_
  refine q_fa (ok_get (by decide +kernel : decode cX12_findPair 37 = .ok (.getfield 80, 3)) rfl (rfl : vwCl[12]? = some (RX12, TX12, 58)) inX12 (by decide) g1038) ?_
  refine q_fa (ok_iconst (by decide +kernel : decode cX12_findPair 40 = .ok (.iconst 0, 1)) rfl (by decide +kernel)) ?_
  refine q_fa (ok_ldcw (by decide +kernel : decode cX12_findPair 41 = .ok (.ldc_w 295, 3)) rfl g1373) ?_
  refine q_fa (ok_iastore (by decide +kernel : decode cX12_findPair 44 = .ok (.iastore, 1)) rfl) ?_
  refine q_fa (ok_aload_n (by decide +kernel : decode cX12_findPair 45 = .ok (.aload_n 0, 1)) rfl rfl) ?_
  refine q_fa (ok_get (by decide +kernel : decode cX12_findPair 46 = .ok (.getfield 83, 3)) rfl (rfl : vwCl[12]? = some (RX12, TX12, 58)) inX12 (by decide) g1039) ?_
  refine q_fa (ok_iconst (by decide +kernel : decode cX12_findPair 49 = .ok (.iconst 0, 1)) rfl (by decide +kernel)) ?_
  refine q_fa (ok_iconst (by decide +kernel : decode cX12_findPair 50 = .ok (.iconst (-1), 1)) rfl (by decide +kernel)) ?_
  refine q_fa (ok_iastore (by decide +kernel : decode cX12_findPair 51 = .ok (.iastore, 1)) rfl) ?_
  refine q_fa (ok_aload_n (by decide +kernel : decode cX12_findPair 52 = .ok (.aload_n 0, 1)) rfl rfl) ?_
  refine q_fa (ok_get (by decide +kernel : decode cX12_findPair 53 = .ok (.getfield 86, 3)) rfl (rfl : vwCl[12]? = some (RX12, TX12, 58)) inX12 (by decide) g1040) ?_
  refine q_fa (ok_aload_n (by decide +kernel : decode cX12_findPair 56 = .ok (.aload_n 0, 1)) rfl rfl) ?_
  refine q_fa (ok_get (by decide +kernel : decode cX12_findPair 57 = .ok (.getfield 80, 3)) rfl (rfl : vwCl[12]? = some (RX12, TX12, 58)) inX12 (by decide) g1038) ?_
  refine q_fa (ok_iconst (by decide +kernel : decode cX12_findPair 60 = .ok (.iconst 0, 1)) rfl (by decide +kernel)) ?_
  refine q_fa (ok_iaload (by decide +kernel : decode cX12_findPair 61 = .ok (.iaload, 1)) rfl) ?_
  refine q_fa (ok_iconst (by decide +kernel : decode cX12_findPair 62 = .ok (.iconst 1, 1)) rfl (by decide +kernel)) ?_
  refine q_fa (ok_zastore (by decide +kernel : decode cX12_findPair 63 = .ok (.bastore, 1)) rfl) ?_
  refine q_fa (ok_aload_n (by decide +kernel : decode cX12_findPair 64 = .ok (.aload_n 0, 1)) rfl rfl) ?_
  refine q_fa (ok_iconst (by decide +kernel : decode cX12_findPair 65 = .ok (.iconst 1, 1)) rfl (by decide +kernel)) ?_
  refine q_fa (ok_putI tyX12 (by decide +kernel : decode cX12_findPair 66 = .ok (.putfield 296, 3)) rfl (rfl : vwCl[12]? = some (RX12, TX12, 58)) inX12 tyX12_ok nmX12 (by decide) g1041 (Or.inl rfl) (by decide +kernel)) ?_
  refine q_fa (ok_iconst (by decide +kernel : decode cX12_findPair 69 = .ok (.iconst 0, 1)) rfl (by decide +kernel)) ?_
  refine q_fa (ok_istore (by decide +kernel : decode cX12_findPair 70 = .ok (.istore 4, 2)) rfl (by decide)) ?_
  refine q_fa (ok_iload (by decide +kernel : decode cX12_findPair 72 = .ok (.iload 4, 2)) rfl) ?_
  refine q_fa (ok_aload_n (by decide +kernel : decode cX12_findPair 74 = .ok (.aload_n 0, 1)) rfl rfl) ?_
  refine q_fa (ok_get (by decide +kernel : decode cX12_findPair 75 = .ok (.getfield 296, 3)) rfl (rfl : vwCl[12]? = some (RX12, TX12, 58)) inX12 (by decide) g1041) ?_
  refine q_fa (ok_if2ge (by decide +kernel : decode cX12_findPair 78 = .ok (.if_icmp .ge 178, 3)) (by decide) rfl) ?_
  refine q_fa (ok_aload_n (by decide +kernel : decode cX12_findPair 81 = .ok (.aload_n 0, 1)) rfl rfl) ?_
  refine q_fa (ok_get (by decide +kernel : decode cX12_findPair 82 = .ok (.getfield 80, 3)) rfl (rfl : vwCl[12]? = some (RX12, TX12, 58)) inX12 (by decide) g1038) ?_
  refine q_fa (ok_iload (by decide +kernel : decode cX12_findPair 85 = .ok (.iload 4, 2)) rfl) ?_
  refine q_fa (ok_iaload (by decide +kernel : decode cX12_findPair 87 = .ok (.iaload, 1)) rfl) ?_
  refine q_fa (ok_sipush (by decide +kernel : decode cX12_findPair 88 = .ok (.sipush 256, 3)) rfl (by decide +kernel)) ?_
  refine q_fa (ok_idiv (by decide +kernel : decode cX12_findPair 91 = .ok (.idiv, 1)) rfl) ?_
  refine q_fa (ok_istore (by decide +kernel : decode cX12_findPair 92 = .ok (.istore 5, 2)) rfl (by decide)) ?_
  refine q_fa (ok_aload_n (by decide +kernel : decode cX12_findPair 94 = .ok (.aload_n 0, 1)) rfl rfl) ?_
  refine q_fa (ok_get (by decide +kernel : decode cX12_findPair 95 = .ok (.getfield 80, 3)) rfl (rfl : vwCl[12]? = some (RX12, TX12, 58)) inX12 (by decide) g1038) ?_
  refine q_fa (ok_iload (by decide +kernel : decode cX12_findPair 98 = .ok (.iload 4, 2)) rfl) ?_
  refine q_fa (ok_iaload (by decide +kernel : decode cX12_findPair 100 = .ok (.iaload, 1)) rfl) ?_
  refine q_fa (ok_sipush (by decide +kernel : decode cX12_findPair 101 = .ok (.sipush 256, 3)) rfl (by decide +kernel)) ?_
  refine q_fa (ok_irem (by decide +kernel : decode cX12_findPair 104 = .ok (.irem, 1)) rfl) ?_
  refine q_fa (ok_istore (by decide +kernel : decode cX12_findPair 105 = .ok (.istore 6, 2)) rfl (by decide)) ?_
  refine q_fa (ok_aload_n (by decide +kernel : decode cX12_findPair 107 = .ok (.aload_n 0, 1)) rfl rfl) ?_
  refine q_fa (ok_iconst (by decide +kernel : decode cX12_findPair 108 = .ok (.iconst 0, 1)) rfl (by decide +kernel)) ?_
  refine q_fa (ok_iload (by decide +kernel : decode cX12_findPair 109 = .ok (.iload 5, 2)) rfl) ?_
  refine q_fa (ok_callV (by decide +kernel : decode cX12_findPair 111 = .ok (.invokevirtual 285, 3)) rfl kX12_ends0.1 kX12_ends0.2.1 kX12_ends0.2.2.1 kX12_ends0.2.2.2.1 kX12_ends0.2.2.2.2 (rfl : vwCl[12]? = some (RX12, TX12, 58)) g1355 gs79 g1353) ?_
  refine q_fa (ok_istore (by decide +kernel : decode cX12_findPair 114 = .ok (.istore 7, 2)) rfl (by decide)) ?_
  refine q_fa (ok_aload_n (by decide +kernel : decode cX12_findPair 116 = .ok (.aload_n 0, 1)) rfl rfl) ?_
  refine q_fa (ok_iconst (by decide +kernel : decode cX12_findPair 117 = .ok (.iconst 1, 1)) rfl (by decide +kernel)) ?_
  refine q_fa (ok_iload (by decide +kernel : decode cX12_findPair 118 = .ok (.iload 6, 2)) rfl) ?_
  refine q_fa (ok_callV (by decide +kernel : decode cX12_findPair 120 = .ok (.invokevirtual 285, 3)) rfl kX12_ends0.1 kX12_ends0.2.1 kX12_ends0.2.2.1 kX12_ends0.2.2.2.1 kX12_ends0.2.2.2.2 (rfl : vwCl[12]? = some (RX12, TX12, 58)) g1355 gs79 g1353) ?_
  refine q_fa (ok_istore (by decide +kernel : decode cX12_findPair 123 = .ok (.istore 8, 2)) rfl (by decide)) ?_
  refine q_fa (ok_iload_n (by decide +kernel : decode cX12_findPair 125 = .ok (.iload_n 3, 1)) rfl rfl) ?_
  refine q_fa (ok_if1ne (by decide +kernel : decode cX12_findPair 126 = .ok (.ifCond .ne 13, 3)) (by decide) rfl) ?_
  refine q_fa (ok_iload (by decide +kernel : decode cX12_findPair 129 = .ok (.iload 7, 2)) rfl) ?_
  refine q_fa (ok_iload (by decide +kernel : decode cX12_findPair 131 = .ok (.iload 8, 2)) rfl) ?_
  refine q_fa (ok_if2eq (by decide +kernel : decode cX12_findPair 133 = .ok (.if_icmp .eq 19, 3)) (by decide) rfl) ?_
  refine q_fa (ok_goto (by decide +kernel : decode cX12_findPair 136 = .ok (.goto 13, 3)) (by decide)) ?_
  refine q_fa (ok_iload (by decide +kernel : decode cX12_findPair 139 = .ok (.iload 7, 2)) rfl) ?_
  refine q_fa (ok_if1eq (by decide +kernel : decode cX12_findPair 141 = .ok (.ifCond .eq 11, 3)) (by decide) rfl) ?_
  refine q_fa (ok_iload (by decide +kernel : decode cX12_findPair 144 = .ok (.iload 8, 2)) rfl) ?_
  refine q_fa (ok_if1ne (by decide +kernel : decode cX12_findPair 146 = .ok (.ifCond .ne 6, 3)) (by decide) rfl) ?_
  refine q_fa (ok_iload (by decide +kernel : decode cX12_findPair 149 = .ok (.iload 4, 2)) rfl) ?_
  refine q_fa (ok_iret (by decide +kernel : decode cX12_findPair 151 = .ok (.ireturn, 1)) rfl) ?_
  refine q_fa (ok_iconst (by decide +kernel : decode cX12_findPair 152 = .ok (.iconst 0, 1)) rfl (by decide +kernel)) ?_
  refine q_fa (ok_istore (by decide +kernel : decode cX12_findPair 153 = .ok (.istore 9, 2)) rfl (by decide)) ?_
  refine q_fa (ok_iload (by decide +kernel : decode cX12_findPair 155 = .ok (.iload 9, 2)) rfl) ?_
  refine q_fa (ok_iconst (by decide +kernel : decode cX12_findPair 157 = .ok (.iconst 3, 1)) rfl (by decide +kernel)) ?_
  refine q_fa (ok_if2ge (by decide +kernel : decode cX12_findPair 158 = .ok (.if_icmp .ge 92, 3)) (by decide) rfl) ?_
  refine q_fa (ok_sipush (by decide +kernel : decode cX12_findPair 161 = .ok (.sipush 256, 3)) rfl (by decide +kernel)) ?_
  refine q_fa (ok_aload_n (by decide +kernel : decode cX12_findPair 164 = .ok (.aload_n 0, 1)) rfl rfl) ?_
  refine q_fa (ok_iconst (by decide +kernel : decode cX12_findPair 165 = .ok (.iconst 0, 1)) rfl (by decide +kernel)) ?_
  refine q_fa (ok_iload (by decide +kernel : decode cX12_findPair 166 = .ok (.iload 5, 2)) rfl) ?_
  refine q_fa (ok_iload (by decide +kernel : decode cX12_findPair 168 = .ok (.iload 9, 2)) rfl) ?_
  refine q_fa (ok_callV (by decide +kernel : decode cX12_findPair 170 = .ok (.invokevirtual 288, 3)) rfl kX12_steps.1 kX12_steps.2.1 kX12_steps.2.2.1 kX12_steps.2.2.2.1 kX12_steps.2.2.2.2 (rfl : vwCl[12]? = some (RX12, TX12, 58)) g1359 gs80 g1357) ?_
  refine q_fa (ok_imul (by decide +kernel : decode cX12_findPair 173 = .ok (.imul, 1)) rfl) ?_
  refine q_fa (ok_aload_n (by decide +kernel : decode cX12_findPair 174 = .ok (.aload_n 0, 1)) rfl rfl) ?_
  refine q_fa (ok_iconst (by decide +kernel : decode cX12_findPair 175 = .ok (.iconst 1, 1)) rfl (by decide +kernel)) ?_
  refine q_fa (ok_iload (by decide +kernel : decode cX12_findPair 176 = .ok (.iload 6, 2)) rfl) ?_
  refine q_fa (ok_iload (by decide +kernel : decode cX12_findPair 178 = .ok (.iload 9, 2)) rfl) ?_
  refine q_fa (ok_callV (by decide +kernel : decode cX12_findPair 180 = .ok (.invokevirtual 288, 3)) rfl kX12_steps.1 kX12_steps.2.1 kX12_steps.2.2.1 kX12_steps.2.2.2.1 kX12_steps.2.2.2.2 (rfl : vwCl[12]? = some (RX12, TX12, 58)) g1359 gs80 g1357) ?_
  refine q_fa (ok_iadd (by decide +kernel : decode cX12_findPair 183 = .ok (.iadd, 1)) rfl) ?_
  refine q_fa (ok_istore (by decide +kernel : decode cX12_findPair 184 = .ok (.istore 10, 2)) rfl (by decide)) ?_
  refine q_fa (ok_aload_n (by decide +kernel : decode cX12_findPair 186 = .ok (.aload_n 0, 1)) rfl rfl) ?_
  refine q_fa (ok_get (by decide +kernel : decode cX12_findPair 187 = .ok (.getfield 86, 3)) rfl (rfl : vwCl[12]? = some (RX12, TX12, 58)) inX12 (by decide) g1040) ?_
  refine q_fa (ok_iload (by decide +kernel : decode cX12_findPair 190 = .ok (.iload 10, 2)) rfl) ?_
  refine q_fa (ok_zaload (by decide +kernel : decode cX12_findPair 192 = .ok (.baload, 1)) rfl) ?_
  refine q_fa (ok_if1eq (by decide +kernel : decode cX12_findPair 193 = .ok (.ifCond .eq 6, 3)) (by decide) rfl) ?_
  refine q_fa (ok_goto (by decide +kernel : decode cX12_findPair 196 = .ok (.goto 48, 3)) (by decide)) ?_
  refine q_fa (ok_aload_n (by decide +kernel : decode cX12_findPair 199 = .ok (.aload_n 0, 1)) rfl rfl) ?_
  refine q_fa (ok_get (by decide +kernel : decode cX12_findPair 200 = .ok (.getfield 86, 3)) rfl (rfl : vwCl[12]? = some (RX12, TX12, 58)) inX12 (by decide) g1040) ?_
  refine q_fa (ok_iload (by decide +kernel : decode cX12_findPair 203 = .ok (.iload 10, 2)) rfl) ?_
  refine q_fa (ok_iconst (by decide +kernel : decode cX12_findPair 205 = .ok (.iconst 1, 1)) rfl (by decide +kernel)) ?_
  refine q_fa (ok_zastore (by decide +kernel : decode cX12_findPair 206 = .ok (.bastore, 1)) rfl) ?_
  refine q_fa (ok_aload_n (by decide +kernel : decode cX12_findPair 207 = .ok (.aload_n 0, 1)) rfl rfl) ?_
  refine q_fa (ok_get (by decide +kernel : decode cX12_findPair 208 = .ok (.getfield 80, 3)) rfl (rfl : vwCl[12]? = some (RX12, TX12, 58)) inX12 (by decide) g1038) ?_
  refine q_fa (ok_aload_n (by decide +kernel : decode cX12_findPair 211 = .ok (.aload_n 0, 1)) rfl rfl) ?_
  refine q_fa (ok_get (by decide +kernel : decode cX12_findPair 212 = .ok (.getfield 296, 3)) rfl (rfl : vwCl[12]? = some (RX12, TX12, 58)) inX12 (by decide) g1041) ?_
  refine q_fa (ok_iload (by decide +kernel : decode cX12_findPair 215 = .ok (.iload 10, 2)) rfl) ?_
  refine q_fa (ok_iastore (by decide +kernel : decode cX12_findPair 217 = .ok (.iastore, 1)) rfl) ?_
  refine q_fa (ok_aload_n (by decide +kernel : decode cX12_findPair 218 = .ok (.aload_n 0, 1)) rfl rfl) ?_
  refine q_fa (ok_get (by decide +kernel : decode cX12_findPair 219 = .ok (.getfield 83, 3)) rfl (rfl : vwCl[12]? = some (RX12, TX12, 58)) inX12 (by decide) g1039) ?_
  refine q_fa (ok_aload_n (by decide +kernel : decode cX12_findPair 222 = .ok (.aload_n 0, 1)) rfl rfl) ?_
  refine q_fa (ok_get (by decide +kernel : decode cX12_findPair 223 = .ok (.getfield 296, 3)) rfl (rfl : vwCl[12]? = some (RX12, TX12, 58)) inX12 (by decide) g1041) ?_
  refine q_fa (ok_iconst (by decide +kernel : decode cX12_findPair 226 = .ok (.iconst 3, 1)) rfl (by decide +kernel)) ?_
  refine q_fa (ok_iload (by decide +kernel : decode cX12_findPair 227 = .ok (.iload 4, 2)) rfl) ?_
  refine q_fa (ok_imul (by decide +kernel : decode cX12_findPair 229 = .ok (.imul, 1)) rfl) ?_
  refine q_fa (ok_iload (by decide +kernel : decode cX12_findPair 230 = .ok (.iload 9, 2)) rfl) ?_
  refine q_fa (ok_iadd (by decide +kernel : decode cX12_findPair 232 = .ok (.iadd, 1)) rfl) ?_
  refine q_fa (ok_iastore (by decide +kernel : decode cX12_findPair 233 = .ok (.iastore, 1)) rfl) ?_
  refine q_fa (ok_aload_n (by decide +kernel : decode cX12_findPair 234 = .ok (.aload_n 0, 1)) rfl rfl) ?_
  refine q_fa (ok_dup (by decide +kernel : decode cX12_findPair 235 = .ok (.dup, 1)) rfl) ?_
  refine q_fa (ok_get (by decide +kernel : decode cX12_findPair 236 = .ok (.getfield 296, 3)) rfl (rfl : vwCl[12]? = some (RX12, TX12, 58)) inX12 (by decide) g1041) ?_
  refine q_fa (ok_iconst (by decide +kernel : decode cX12_findPair 239 = .ok (.iconst 1, 1)) rfl (by decide +kernel)) ?_
  refine q_fa (ok_iadd (by decide +kernel : decode cX12_findPair 240 = .ok (.iadd, 1)) rfl) ?_
  refine q_fa (ok_putI tyX12 (by decide +kernel : decode cX12_findPair 241 = .ok (.putfield 296, 3)) rfl (rfl : vwCl[12]? = some (RX12, TX12, 58)) inX12 tyX12_ok nmX12 (by decide) g1041 (Or.inl rfl) (by decide +kernel)) ?_
  refine q_fa (ok_iinc (by decide +kernel : decode cX12_findPair 244 = .ok (.iinc 9 1, 3)) rfl (by decide +kernel) (by decide)) ?_
  refine q_fa (ok_goto (by decide +kernel : decode cX12_findPair 247 = .ok (.goto (-92), 3)) (by decide)) ?_
  refine q_fa (ok_iinc (by decide +kernel : decode cX12_findPair 250 = .ok (.iinc 4 1, 3)) rfl (by decide +kernel) (by decide)) ?_
  refine q_fa (ok_goto (by decide +kernel : decode cX12_findPair 253 = .ok (.goto (-181), 3)) (by decide)) ?_
  refine q_fa (ok_iconst (by decide +kernel : decode cX12_findPair 256 = .ok (.iconst (-1), 1)) rfl (by decide +kernel)) ?_
  refine q_fa (ok_iret (by decide +kernel : decode cX12_findPair 257 = .ok (.ireturn, 1)) rfl) ?_
  exact q_fa0
theorem exX12_findPair : ∃ t : Nat → qP, t = uX12_findPair := ⟨_, rfl⟩
noncomputable def tX12_findPair : Nat → qP := Classical.choose exX12_findPair
theorem teX12_findPair : tX12_findPair = uX12_findPair := Classical.choose_spec exX12_findPair
theorem sX12_findPair : q_Snd mX12_findPair tX12_findPair := by rw [teX12_findPair]; exact suX12_findPair
theorem tX12_findPair_0 : tX12_findPair 0 = oAl 0 1 := (congrFun teX12_findPair 0).trans rfl
theorem tX12_findPair_1 : tX12_findPair 1 = oIl 1 2 := (congrFun teX12_findPair 1).trans rfl
theorem tX12_findPair_2 : tX12_findPair 2 = oK (.int (nI 0)) 3 := (congrFun teX12_findPair 2).trans rfl
theorem tX12_findPair_3 : tX12_findPair 3 = oCallV 12 mX12_study0 2 6 := (congrFun teX12_findPair 3).trans rfl
theorem tX12_findPair_6 : tX12_findPair 6 = oAl 0 7 := (congrFun teX12_findPair 6).trans rfl
theorem tX12_findPair_7 : tX12_findPair 7 = oIl 2 8 := (congrFun teX12_findPair 7).trans rfl
theorem tX12_findPair_8 : tX12_findPair 8 = oK (.int (nI 1)) 9 := (congrFun teX12_findPair 8).trans rfl
theorem tX12_findPair_9 : tX12_findPair 9 = oCallV 12 mX12_study0 2 12 := (congrFun teX12_findPair 9).trans rfl
theorem tX12_findPair_12 : tX12_findPair 12 = oK (.int (nI 0)) 13 := (congrFun teX12_findPair 12).trans rfl
theorem tX12_findPair_13 : tX12_findPair 13 = oIs 4 15 := (congrFun teX12_findPair 13).trans rfl
theorem tX12_findPair_15 : tX12_findPair 15 = oIl 4 17 := (congrFun teX12_findPair 15).trans rfl
theorem tX12_findPair_17 : tX12_findPair 17 = oK (.int (nI 65536)) 19 := (congrFun teX12_findPair 17).trans rfl
theorem tX12_findPair_19 : tX12_findPair 19 = oIf2ge 36 22 := (congrFun teX12_findPair 19).trans rfl
theorem tX12_findPair_22 : tX12_findPair 22 = oAl 0 23 := (congrFun teX12_findPair 22).trans rfl
theorem tX12_findPair_23 : tX12_findPair 23 = oGet 12 36 26 := (congrFun teX12_findPair 23).trans rfl
theorem tX12_findPair_26 : tX12_findPair 26 = oIl 4 28 := (congrFun teX12_findPair 26).trans rfl
theorem tX12_findPair_28 : tX12_findPair 28 = oK (.int (nI 0)) 29 := (congrFun teX12_findPair 28).trans rfl
theorem tX12_findPair_29 : tX12_findPair 29 = oZast 30 := (congrFun teX12_findPair 29).trans rfl
theorem tX12_findPair_30 : tX12_findPair 30 = oInc 4 (nI 1) 33 := (congrFun teX12_findPair 30).trans rfl
theorem tX12_findPair_33 : tX12_findPair 33 = oGo 15 := (congrFun teX12_findPair 33).trans rfl
theorem tX12_findPair_36 : tX12_findPair 36 = oAl 0 37 := (congrFun teX12_findPair 36).trans rfl
theorem tX12_findPair_37 : tX12_findPair 37 = oGet 12 34 40 := (congrFun teX12_findPair 37).trans rfl
theorem tX12_findPair_40 : tX12_findPair 40 = oK (.int (nI 0)) 41 := (congrFun teX12_findPair 40).trans rfl
theorem tX12_findPair_41 : tX12_findPair 41 = oK (.int (nI 32896)) 44 := (congrFun teX12_findPair 41).trans rfl
theorem tX12_findPair_44 : tX12_findPair 44 = oIast 45 := (congrFun teX12_findPair 44).trans rfl
theorem tX12_findPair_45 : tX12_findPair 45 = oAl 0 46 := (congrFun teX12_findPair 45).trans rfl
theorem tX12_findPair_46 : tX12_findPair 46 = oGet 12 35 49 := (congrFun teX12_findPair 46).trans rfl
theorem tX12_findPair_49 : tX12_findPair 49 = oK (.int (nI 0)) 50 := (congrFun teX12_findPair 49).trans rfl
theorem tX12_findPair_50 : tX12_findPair 50 = oK (.int (-1)) 51 := (congrFun teX12_findPair 50).trans rfl
theorem tX12_findPair_51 : tX12_findPair 51 = oIast 52 := (congrFun teX12_findPair 51).trans rfl
theorem tX12_findPair_52 : tX12_findPair 52 = oAl 0 53 := (congrFun teX12_findPair 52).trans rfl
theorem tX12_findPair_53 : tX12_findPair 53 = oGet 12 36 56 := (congrFun teX12_findPair 53).trans rfl
theorem tX12_findPair_56 : tX12_findPair 56 = oAl 0 57 := (congrFun teX12_findPair 56).trans rfl
theorem tX12_findPair_57 : tX12_findPair 57 = oGet 12 34 60 := (congrFun teX12_findPair 57).trans rfl
theorem tX12_findPair_60 : tX12_findPair 60 = oK (.int (nI 0)) 61 := (congrFun teX12_findPair 60).trans rfl
theorem tX12_findPair_61 : tX12_findPair 61 = oIald 62 := (congrFun teX12_findPair 61).trans rfl
theorem tX12_findPair_62 : tX12_findPair 62 = oK (.int (nI 1)) 63 := (congrFun teX12_findPair 62).trans rfl
theorem tX12_findPair_63 : tX12_findPair 63 = oZast 64 := (congrFun teX12_findPair 63).trans rfl
theorem tX12_findPair_64 : tX12_findPair 64 = oAl 0 65 := (congrFun teX12_findPair 64).trans rfl
theorem tX12_findPair_65 : tX12_findPair 65 = oK (.int (nI 1)) 66 := (congrFun teX12_findPair 65).trans rfl
theorem tX12_findPair_66 : tX12_findPair 66 = oPutI 12 37 69 := (congrFun teX12_findPair 66).trans rfl
theorem tX12_findPair_69 : tX12_findPair 69 = oK (.int (nI 0)) 70 := (congrFun teX12_findPair 69).trans rfl
theorem tX12_findPair_70 : tX12_findPair 70 = oIs 4 72 := (congrFun teX12_findPair 70).trans rfl
theorem tX12_findPair_72 : tX12_findPair 72 = oIl 4 74 := (congrFun teX12_findPair 72).trans rfl
theorem tX12_findPair_74 : tX12_findPair 74 = oAl 0 75 := (congrFun teX12_findPair 74).trans rfl
theorem tX12_findPair_75 : tX12_findPair 75 = oGet 12 37 78 := (congrFun teX12_findPair 75).trans rfl
theorem tX12_findPair_78 : tX12_findPair 78 = oIf2ge 256 81 := (congrFun teX12_findPair 78).trans rfl
theorem tX12_findPair_81 : tX12_findPair 81 = oAl 0 82 := (congrFun teX12_findPair 81).trans rfl
theorem tX12_findPair_82 : tX12_findPair 82 = oGet 12 34 85 := (congrFun teX12_findPair 82).trans rfl
theorem tX12_findPair_85 : tX12_findPair 85 = oIl 4 87 := (congrFun teX12_findPair 85).trans rfl
theorem tX12_findPair_87 : tX12_findPair 87 = oIald 88 := (congrFun teX12_findPair 87).trans rfl
theorem tX12_findPair_88 : tX12_findPair 88 = oK (.int (nI 256)) 91 := (congrFun teX12_findPair 88).trans rfl
theorem tX12_findPair_91 : tX12_findPair 91 = oDiv 92 := (congrFun teX12_findPair 91).trans rfl
theorem tX12_findPair_92 : tX12_findPair 92 = oIs 5 94 := (congrFun teX12_findPair 92).trans rfl
theorem tX12_findPair_94 : tX12_findPair 94 = oAl 0 95 := (congrFun teX12_findPair 94).trans rfl
theorem tX12_findPair_95 : tX12_findPair 95 = oGet 12 34 98 := (congrFun teX12_findPair 95).trans rfl
theorem tX12_findPair_98 : tX12_findPair 98 = oIl 4 100 := (congrFun teX12_findPair 98).trans rfl
theorem tX12_findPair_100 : tX12_findPair 100 = oIald 101 := (congrFun teX12_findPair 100).trans rfl
theorem tX12_findPair_101 : tX12_findPair 101 = oK (.int (nI 256)) 104 := (congrFun teX12_findPair 101).trans rfl
theorem tX12_findPair_104 : tX12_findPair 104 = oRem 105 := (congrFun teX12_findPair 104).trans rfl
theorem tX12_findPair_105 : tX12_findPair 105 = oIs 6 107 := (congrFun teX12_findPair 105).trans rfl
theorem tX12_findPair_107 : tX12_findPair 107 = oAl 0 108 := (congrFun teX12_findPair 107).trans rfl
theorem tX12_findPair_108 : tX12_findPair 108 = oK (.int (nI 0)) 109 := (congrFun teX12_findPair 108).trans rfl
theorem tX12_findPair_109 : tX12_findPair 109 = oIl 5 111 := (congrFun teX12_findPair 109).trans rfl
theorem tX12_findPair_111 : tX12_findPair 111 = oCallV 12 mX12_ends0 2 114 := (congrFun teX12_findPair 111).trans rfl
theorem tX12_findPair_114 : tX12_findPair 114 = oIs 7 116 := (congrFun teX12_findPair 114).trans rfl
theorem tX12_findPair_116 : tX12_findPair 116 = oAl 0 117 := (congrFun teX12_findPair 116).trans rfl
theorem tX12_findPair_117 : tX12_findPair 117 = oK (.int (nI 1)) 118 := (congrFun teX12_findPair 117).trans rfl
theorem tX12_findPair_118 : tX12_findPair 118 = oIl 6 120 := (congrFun teX12_findPair 118).trans rfl
theorem tX12_findPair_120 : tX12_findPair 120 = oCallV 12 mX12_ends0 2 123 := (congrFun teX12_findPair 120).trans rfl
theorem tX12_findPair_123 : tX12_findPair 123 = oIs 8 125 := (congrFun teX12_findPair 123).trans rfl
theorem tX12_findPair_125 : tX12_findPair 125 = oIl 3 126 := (congrFun teX12_findPair 125).trans rfl
theorem tX12_findPair_126 : tX12_findPair 126 = oIf1ne 139 129 := (congrFun teX12_findPair 126).trans rfl
theorem tX12_findPair_129 : tX12_findPair 129 = oIl 7 131 := (congrFun teX12_findPair 129).trans rfl
theorem tX12_findPair_131 : tX12_findPair 131 = oIl 8 133 := (congrFun teX12_findPair 131).trans rfl
theorem tX12_findPair_133 : tX12_findPair 133 = oIf2eq 152 136 := (congrFun teX12_findPair 133).trans rfl
theorem tX12_findPair_136 : tX12_findPair 136 = oGo 149 := (congrFun teX12_findPair 136).trans rfl
theorem tX12_findPair_139 : tX12_findPair 139 = oIl 7 141 := (congrFun teX12_findPair 139).trans rfl
theorem tX12_findPair_141 : tX12_findPair 141 = oIf1eq 152 144 := (congrFun teX12_findPair 141).trans rfl
theorem tX12_findPair_144 : tX12_findPair 144 = oIl 8 146 := (congrFun teX12_findPair 144).trans rfl
theorem tX12_findPair_146 : tX12_findPair 146 = oIf1ne 152 149 := (congrFun teX12_findPair 146).trans rfl
theorem tX12_findPair_149 : tX12_findPair 149 = oIl 4 151 := (congrFun teX12_findPair 149).trans rfl
theorem tX12_findPair_151 : tX12_findPair 151 = oIret := (congrFun teX12_findPair 151).trans rfl
theorem tX12_findPair_152 : tX12_findPair 152 = oK (.int (nI 0)) 153 := (congrFun teX12_findPair 152).trans rfl
theorem tX12_findPair_153 : tX12_findPair 153 = oIs 9 155 := (congrFun teX12_findPair 153).trans rfl
theorem tX12_findPair_155 : tX12_findPair 155 = oIl 9 157 := (congrFun teX12_findPair 155).trans rfl
theorem tX12_findPair_157 : tX12_findPair 157 = oK (.int (nI 3)) 158 := (congrFun teX12_findPair 157).trans rfl
theorem tX12_findPair_158 : tX12_findPair 158 = oIf2ge 250 161 := (congrFun teX12_findPair 158).trans rfl
theorem tX12_findPair_161 : tX12_findPair 161 = oK (.int (nI 256)) 164 := (congrFun teX12_findPair 161).trans rfl
theorem tX12_findPair_164 : tX12_findPair 164 = oAl 0 165 := (congrFun teX12_findPair 164).trans rfl
theorem tX12_findPair_165 : tX12_findPair 165 = oK (.int (nI 0)) 166 := (congrFun teX12_findPair 165).trans rfl
theorem tX12_findPair_166 : tX12_findPair 166 = oIl 5 168 := (congrFun teX12_findPair 166).trans rfl
theorem tX12_findPair_168 : tX12_findPair 168 = oIl 9 170 := (congrFun teX12_findPair 168).trans rfl
theorem tX12_findPair_170 : tX12_findPair 170 = oCallV 12 mX12_steps 3 173 := (congrFun teX12_findPair 170).trans rfl
theorem tX12_findPair_173 : tX12_findPair 173 = oMul 174 := (congrFun teX12_findPair 173).trans rfl
theorem tX12_findPair_174 : tX12_findPair 174 = oAl 0 175 := (congrFun teX12_findPair 174).trans rfl
theorem tX12_findPair_175 : tX12_findPair 175 = oK (.int (nI 1)) 176 := (congrFun teX12_findPair 175).trans rfl
theorem tX12_findPair_176 : tX12_findPair 176 = oIl 6 178 := (congrFun teX12_findPair 176).trans rfl
theorem tX12_findPair_178 : tX12_findPair 178 = oIl 9 180 := (congrFun teX12_findPair 178).trans rfl
theorem tX12_findPair_180 : tX12_findPair 180 = oCallV 12 mX12_steps 3 183 := (congrFun teX12_findPair 180).trans rfl
theorem tX12_findPair_183 : tX12_findPair 183 = oAdd 184 := (congrFun teX12_findPair 183).trans rfl
theorem tX12_findPair_184 : tX12_findPair 184 = oIs 10 186 := (congrFun teX12_findPair 184).trans rfl
theorem tX12_findPair_186 : tX12_findPair 186 = oAl 0 187 := (congrFun teX12_findPair 186).trans rfl
theorem tX12_findPair_187 : tX12_findPair 187 = oGet 12 36 190 := (congrFun teX12_findPair 187).trans rfl
theorem tX12_findPair_190 : tX12_findPair 190 = oIl 10 192 := (congrFun teX12_findPair 190).trans rfl
theorem tX12_findPair_192 : tX12_findPair 192 = oZald 193 := (congrFun teX12_findPair 192).trans rfl
theorem tX12_findPair_193 : tX12_findPair 193 = oIf1eq 199 196 := (congrFun teX12_findPair 193).trans rfl
theorem tX12_findPair_196 : tX12_findPair 196 = oGo 244 := (congrFun teX12_findPair 196).trans rfl
theorem tX12_findPair_199 : tX12_findPair 199 = oAl 0 200 := (congrFun teX12_findPair 199).trans rfl
theorem tX12_findPair_200 : tX12_findPair 200 = oGet 12 36 203 := (congrFun teX12_findPair 200).trans rfl
theorem tX12_findPair_203 : tX12_findPair 203 = oIl 10 205 := (congrFun teX12_findPair 203).trans rfl
theorem tX12_findPair_205 : tX12_findPair 205 = oK (.int (nI 1)) 206 := (congrFun teX12_findPair 205).trans rfl
theorem tX12_findPair_206 : tX12_findPair 206 = oZast 207 := (congrFun teX12_findPair 206).trans rfl
theorem tX12_findPair_207 : tX12_findPair 207 = oAl 0 208 := (congrFun teX12_findPair 207).trans rfl
theorem tX12_findPair_208 : tX12_findPair 208 = oGet 12 34 211 := (congrFun teX12_findPair 208).trans rfl
theorem tX12_findPair_211 : tX12_findPair 211 = oAl 0 212 := (congrFun teX12_findPair 211).trans rfl
theorem tX12_findPair_212 : tX12_findPair 212 = oGet 12 37 215 := (congrFun teX12_findPair 212).trans rfl
theorem tX12_findPair_215 : tX12_findPair 215 = oIl 10 217 := (congrFun teX12_findPair 215).trans rfl
theorem tX12_findPair_217 : tX12_findPair 217 = oIast 218 := (congrFun teX12_findPair 217).trans rfl
theorem tX12_findPair_218 : tX12_findPair 218 = oAl 0 219 := (congrFun teX12_findPair 218).trans rfl
theorem tX12_findPair_219 : tX12_findPair 219 = oGet 12 35 222 := (congrFun teX12_findPair 219).trans rfl
theorem tX12_findPair_222 : tX12_findPair 222 = oAl 0 223 := (congrFun teX12_findPair 222).trans rfl
theorem tX12_findPair_223 : tX12_findPair 223 = oGet 12 37 226 := (congrFun teX12_findPair 223).trans rfl
theorem tX12_findPair_226 : tX12_findPair 226 = oK (.int (nI 3)) 227 := (congrFun teX12_findPair 226).trans rfl
theorem tX12_findPair_227 : tX12_findPair 227 = oIl 4 229 := (congrFun teX12_findPair 227).trans rfl
theorem tX12_findPair_229 : tX12_findPair 229 = oMul 230 := (congrFun teX12_findPair 229).trans rfl
theorem tX12_findPair_230 : tX12_findPair 230 = oIl 9 232 := (congrFun teX12_findPair 230).trans rfl
theorem tX12_findPair_232 : tX12_findPair 232 = oAdd 233 := (congrFun teX12_findPair 232).trans rfl
theorem tX12_findPair_233 : tX12_findPair 233 = oIast 234 := (congrFun teX12_findPair 233).trans rfl
theorem tX12_findPair_234 : tX12_findPair 234 = oAl 0 235 := (congrFun teX12_findPair 234).trans rfl
theorem tX12_findPair_235 : tX12_findPair 235 = oDup 236 := (congrFun teX12_findPair 235).trans rfl
theorem tX12_findPair_236 : tX12_findPair 236 = oGet 12 37 239 := (congrFun teX12_findPair 236).trans rfl
theorem tX12_findPair_239 : tX12_findPair 239 = oK (.int (nI 1)) 240 := (congrFun teX12_findPair 239).trans rfl
theorem tX12_findPair_240 : tX12_findPair 240 = oAdd 241 := (congrFun teX12_findPair 240).trans rfl
theorem tX12_findPair_241 : tX12_findPair 241 = oPutI 12 37 244 := (congrFun teX12_findPair 241).trans rfl
theorem tX12_findPair_244 : tX12_findPair 244 = oInc 9 (nI 1) 247 := (congrFun teX12_findPair 244).trans rfl
theorem tX12_findPair_247 : tX12_findPair 247 = oGo 155 := (congrFun teX12_findPair 247).trans rfl
theorem tX12_findPair_250 : tX12_findPair 250 = oInc 4 (nI 1) 253 := (congrFun teX12_findPair 250).trans rfl
theorem tX12_findPair_253 : tX12_findPair 253 = oGo 72 := (congrFun teX12_findPair 253).trans rfl
theorem tX12_findPair_256 : tX12_findPair 256 = oK (.int (-1)) 257 := (congrFun teX12_findPair 256).trans rfl
theorem tX12_findPair_257 : tX12_findPair 257 = oIret := (congrFun teX12_findPair 257).trans rfl
def lX12_alike : List (Nat × qP) := [(0, oAl 0 1), (1, oIl 1 2), (2, oCallV 12 mX12_has 1 5), (5, oIf1eq 16 8), (8, oAl 0 9), (9, oIl 2 10), (10, oCallV 12 mX12_has 1 13), (13, oIf1ne 20 16), (16, oK (.int (-1)) 17), (17, oGo 35), (20, oAl 0 21), (21, oIl 1 22), (22, oIl 2 23), (23, oK (.int (nI 0)) 24), (24, oCallV 12 mX12_findPair 3 27), (27, oIf1ge 34 30), (30, oK (.int (nI 1)) 31), (31, oGo 35), (34, oK (.int (nI 0)) 35), (35, oIret)]
def uX12_alike : Nat → qP := q_tb lX12_alike
set_option maxRecDepth 20000 in
theorem suX12_alike : q_Snd mX12_alike uX12_alike := by
  refine q_tb_ok ?_
  unfold lX12_alike
  refine q_fa (ok_aload_n (by decide +kernel : decode cX12_alike 0 = .ok (.aload_n 0, 1)) rfl rfl) ?_
  refine q_fa (ok_iload_n (by decide +kernel : decode cX12_alike 1 = .ok (.iload_n 1, 1)) rfl rfl) ?_
  refine q_fa (ok_callV (by decide +kernel : decode cX12_alike 2 = .ok (.invokevirtual 243, 3)) rfl kX12_has.1 kX12_has.2.1 kX12_has.2.2.1 kX12_has.2.2.2.1 kX12_has.2.2.2.2 (rfl : vwCl[12]? = some (RX12, TX12, 58)) g1255 gs60 g1253) ?_
  refine q_fa (ok_if1eq (by decide +kernel : decode cX12_alike 5 = .ok (.ifCond .eq 11, 3)) (by decide) rfl) ?_
  refine q_fa (ok_aload_n (by decide +kernel : decode cX12_alike 8 = .ok (.aload_n 0, 1)) rfl rfl) ?_
  refine q_fa (ok_iload_n (by decide +kernel : decode cX12_alike 9 = .ok (.iload_n 2, 1)) rfl rfl) ?_
  refine q_fa (ok_callV (by decide +kernel : decode cX12_alike 10 = .ok (.invokevirtual 243, 3)) rfl kX12_has.1 kX12_has.2.1 kX12_has.2.2.1 kX12_has.2.2.2.1 kX12_has.2.2.2.2 (rfl : vwCl[12]? = some (RX12, TX12, 58)) g1255 gs60 g1253) ?_
  refine q_fa (ok_if1ne (by decide +kernel : decode cX12_alike 13 = .ok (.ifCond .ne 7, 3)) (by decide) rfl) ?_
  refine q_fa (ok_iconst (by decide +kernel : decode cX12_alike 16 = .ok (.iconst (-1), 1)) rfl (by decide +kernel)) ?_
  refine q_fa (ok_goto (by decide +kernel : decode cX12_alike 17 = .ok (.goto 18, 3)) (by decide)) ?_
  refine q_fa (ok_aload_n (by decide +kernel : decode cX12_alike 20 = .ok (.aload_n 0, 1)) rfl rfl) ?_
  refine q_fa (ok_iload_n (by decide +kernel : decode cX12_alike 21 = .ok (.iload_n 1, 1)) rfl rfl) ?_
  refine q_fa (ok_iload_n (by decide +kernel : decode cX12_alike 22 = .ok (.iload_n 2, 1)) rfl rfl) ?_
  refine q_fa (ok_iconst (by decide +kernel : decode cX12_alike 23 = .ok (.iconst 0, 1)) rfl (by decide +kernel)) ?_
  refine q_fa (ok_callV (by decide +kernel : decode cX12_alike 24 = .ok (.invokevirtual 299, 3)) rfl kX12_findPair.1 kX12_findPair.2.1 kX12_findPair.2.2.1 kX12_findPair.2.2.2.1 kX12_findPair.2.2.2.2 (rfl : vwCl[12]? = some (RX12, TX12, 58)) g1371 gs81 g1369) ?_
  refine q_fa (ok_if1ge (by decide +kernel : decode cX12_alike 27 = .ok (.ifCond .ge 7, 3)) (by decide) rfl) ?_
  refine q_fa (ok_iconst (by decide +kernel : decode cX12_alike 30 = .ok (.iconst 1, 1)) rfl (by decide +kernel)) ?_
  refine q_fa (ok_goto (by decide +kernel : decode cX12_alike 31 = .ok (.goto 4, 3)) (by decide)) ?_
  refine q_fa (ok_iconst (by decide +kernel : decode cX12_alike 34 = .ok (.iconst 0, 1)) rfl (by decide +kernel)) ?_
  refine q_fa (ok_iret (by decide +kernel : decode cX12_alike 35 = .ok (.ireturn, 1)) rfl) ?_
  exact q_fa0
theorem exX12_alike : ∃ t : Nat → qP, t = uX12_alike := ⟨_, rfl⟩
noncomputable def tX12_alike : Nat → qP := Classical.choose exX12_alike
theorem teX12_alike : tX12_alike = uX12_alike := Classical.choose_spec exX12_alike
theorem sX12_alike : q_Snd mX12_alike tX12_alike := by rw [teX12_alike]; exact suX12_alike
theorem tX12_alike_0 : tX12_alike 0 = oAl 0 1 := (congrFun teX12_alike 0).trans rfl
theorem tX12_alike_1 : tX12_alike 1 = oIl 1 2 := (congrFun teX12_alike 1).trans rfl
theorem tX12_alike_2 : tX12_alike 2 = oCallV 12 mX12_has 1 5 := (congrFun teX12_alike 2).trans rfl
theorem tX12_alike_5 : tX12_alike 5 = oIf1eq 16 8 := (congrFun teX12_alike 5).trans rfl
theorem tX12_alike_8 : tX12_alike 8 = oAl 0 9 := (congrFun teX12_alike 8).trans rfl
theorem tX12_alike_9 : tX12_alike 9 = oIl 2 10 := (congrFun teX12_alike 9).trans rfl
theorem tX12_alike_10 : tX12_alike 10 = oCallV 12 mX12_has 1 13 := (congrFun teX12_alike 10).trans rfl
theorem tX12_alike_13 : tX12_alike 13 = oIf1ne 20 16 := (congrFun teX12_alike 13).trans rfl
theorem tX12_alike_16 : tX12_alike 16 = oK (.int (-1)) 17 := (congrFun teX12_alike 16).trans rfl
theorem tX12_alike_17 : tX12_alike 17 = oGo 35 := (congrFun teX12_alike 17).trans rfl
theorem tX12_alike_20 : tX12_alike 20 = oAl 0 21 := (congrFun teX12_alike 20).trans rfl
theorem tX12_alike_21 : tX12_alike 21 = oIl 1 22 := (congrFun teX12_alike 21).trans rfl
theorem tX12_alike_22 : tX12_alike 22 = oIl 2 23 := (congrFun teX12_alike 22).trans rfl
theorem tX12_alike_23 : tX12_alike 23 = oK (.int (nI 0)) 24 := (congrFun teX12_alike 23).trans rfl
theorem tX12_alike_24 : tX12_alike 24 = oCallV 12 mX12_findPair 3 27 := (congrFun teX12_alike 24).trans rfl
theorem tX12_alike_27 : tX12_alike 27 = oIf1ge 34 30 := (congrFun teX12_alike 27).trans rfl
theorem tX12_alike_30 : tX12_alike 30 = oK (.int (nI 1)) 31 := (congrFun teX12_alike 30).trans rfl
theorem tX12_alike_31 : tX12_alike 31 = oGo 35 := (congrFun teX12_alike 31).trans rfl
theorem tX12_alike_34 : tX12_alike 34 = oK (.int (nI 0)) 35 := (congrFun teX12_alike 34).trans rfl
theorem tX12_alike_35 : tX12_alike 35 = oIret := (congrFun teX12_alike 35).trans rfl
def lX12_parted : List (Nat × qP) := [(0, oAl 0 1), (1, oIl 1 2), (2, oCallV 12 mX12_has 1 5), (5, oIf1eq 16 8), (8, oAl 0 9), (9, oIl 2 10), (10, oCallV 12 mX12_has 1 13), (13, oIf1ne 18 16), (16, oK (.int (-1)) 17), (17, oIret), (18, oAl 0 19), (19, oIl 1 20), (20, oIl 2 21), (21, oK (.int (nI 0)) 22), (22, oCallV 12 mX12_findPair 3 25), (25, oIs 3 26), (26, oIl 3 27), (27, oIf1ge 33 30), (30, oK (.int (-2)) 32), (32, oIret), (33, oK (.int (nI 0)) 34), (34, oIs 4 36), (36, oK (.int (nI 0)) 37), (37, oIs 5 39), (39, oK (.int (nI 1)) 40), (40, oIs 6 42), (42, oAl 0 43), (43, oGet 12 35 46), (46, oIl 3 47), (47, oIald 48), (48, oIf1lt 98 51), (51, oIl 4 53), (53, oK (.int (nI 12)) 55), (55, oIf2ne 61 58), (58, oK (.int (-3)) 60), (60, oIret), (61, oIl 5 63), (63, oIl 6 65), (65, oAl 0 66), (66, oGet 12 35 69), (69, oIl 3 70), (70, oIald 71), (71, oK (.int (nI 3)) 72), (72, oRem 73), (73, oMul 74), (74, oAdd 75), (75, oIs 5 77), (77, oIl 6 79), (79, oK (.int (nI 3)) 80), (80, oMul 81), (81, oIs 6 83), (83, oInc 4 (nI 1) 86), (86, oAl 0 87), (87, oGet 12 35 90), (90, oIl 3 91), (91, oIald 92), (92, oK (.int (nI 3)) 93), (93, oDiv 94), (94, oIs 3 95), (95, oGo 42), (98, oIl 5 100), (100, oIl 6 102), (102, oAdd 103), (103, oIret)]
def uX12_parted : Nat → qP := q_tb lX12_parted
set_option maxRecDepth 20000 in
theorem suX12_parted : q_Snd mX12_parted uX12_parted := by
  refine q_tb_ok ?_
  unfold lX12_parted
  refine q_fa (ok_aload_n (by decide +kernel : decode cX12_parted 0 = .ok (.aload_n 0, 1)) rfl rfl) ?_
  refine q_fa (ok_iload_n (by decide +kernel : decode cX12_parted 1 = .ok (.iload_n 1, 1)) rfl rfl) ?_
  refine q_fa (ok_callV (by decide +kernel : decode cX12_parted 2 = .ok (.invokevirtual 243, 3)) rfl kX12_has.1 kX12_has.2.1 kX12_has.2.2.1 kX12_has.2.2.2.1 kX12_has.2.2.2.2 (rfl : vwCl[12]? = some (RX12, TX12, 58)) g1255 gs60 g1253) ?_
  refine q_fa (ok_if1eq (by decide +kernel : decode cX12_parted 5 = .ok (.ifCond .eq 11, 3)) (by decide) rfl) ?_
  refine q_fa (ok_aload_n (by decide +kernel : decode cX12_parted 8 = .ok (.aload_n 0, 1)) rfl rfl) ?_
  refine q_fa (ok_iload_n (by decide +kernel : decode cX12_parted 9 = .ok (.iload_n 2, 1)) rfl rfl) ?_
  refine q_fa (ok_callV (by decide +kernel : decode cX12_parted 10 = .ok (.invokevirtual 243, 3)) rfl kX12_has.1 kX12_has.2.1 kX12_has.2.2.1 kX12_has.2.2.2.1 kX12_has.2.2.2.2 (rfl : vwCl[12]? = some (RX12, TX12, 58)) g1255 gs60 g1253) ?_
  refine q_fa (ok_if1ne (by decide +kernel : decode cX12_parted 13 = .ok (.ifCond .ne 5, 3)) (by decide) rfl) ?_
  refine q_fa (ok_iconst (by decide +kernel : decode cX12_parted 16 = .ok (.iconst (-1), 1)) rfl (by decide +kernel)) ?_
  refine q_fa (ok_iret (by decide +kernel : decode cX12_parted 17 = .ok (.ireturn, 1)) rfl) ?_
  refine q_fa (ok_aload_n (by decide +kernel : decode cX12_parted 18 = .ok (.aload_n 0, 1)) rfl rfl) ?_
  refine q_fa (ok_iload_n (by decide +kernel : decode cX12_parted 19 = .ok (.iload_n 1, 1)) rfl rfl) ?_
  refine q_fa (ok_iload_n (by decide +kernel : decode cX12_parted 20 = .ok (.iload_n 2, 1)) rfl rfl) ?_
  refine q_fa (ok_iconst (by decide +kernel : decode cX12_parted 21 = .ok (.iconst 0, 1)) rfl (by decide +kernel)) ?_
  refine q_fa (ok_callV (by decide +kernel : decode cX12_parted 22 = .ok (.invokevirtual 299, 3)) rfl kX12_findPair.1 kX12_findPair.2.1 kX12_findPair.2.2.1 kX12_findPair.2.2.2.1 kX12_findPair.2.2.2.2 (rfl : vwCl[12]? = some (RX12, TX12, 58)) g1371 gs81 g1369) ?_
  refine q_fa (ok_istore_n (by decide +kernel : decode cX12_parted 25 = .ok (.istore_n 3, 1)) rfl rfl (by decide)) ?_
  refine q_fa (ok_iload_n (by decide +kernel : decode cX12_parted 26 = .ok (.iload_n 3, 1)) rfl rfl) ?_
  refine q_fa (ok_if1ge (by decide +kernel : decode cX12_parted 27 = .ok (.ifCond .ge 6, 3)) (by decide) rfl) ?_
  refine q_fa (ok_bipush (by decide +kernel : decode cX12_parted 30 = .ok (.bipush (-2), 2)) rfl (by decide +kernel)) ?_
  refine q_fa (ok_iret (by decide +kernel : decode cX12_parted 32 = .ok (.ireturn, 1)) rfl) ?_
  refine q_fa (ok_iconst (by decide +kernel : decode cX12_parted 33 = .ok (.iconst 0, 1)) rfl (by decide +kernel)) ?_
  refine q_fa (ok_istore (by decide +kernel : decode cX12_parted 34 = .ok (.istore 4, 2)) rfl (by decide)) ?_
  refine q_fa (ok_iconst (by decide +kernel : decode cX12_parted 36 = .ok (.iconst 0, 1)) rfl (by decide +kernel)) ?_
  refine q_fa (ok_istore (by decide +kernel : decode cX12_parted 37 = .ok (.istore 5, 2)) rfl (by decide)) ?_
  refine q_fa (ok_iconst (by decide +kernel : decode cX12_parted 39 = .ok (.iconst 1, 1)) rfl (by decide +kernel)) ?_
  refine q_fa (ok_istore (by decide +kernel : decode cX12_parted 40 = .ok (.istore 6, 2)) rfl (by decide)) ?_
  refine q_fa (ok_aload_n (by decide +kernel : decode cX12_parted 42 = .ok (.aload_n 0, 1)) rfl rfl) ?_
  refine q_fa (ok_get (by decide +kernel : decode cX12_parted 43 = .ok (.getfield 83, 3)) rfl (rfl : vwCl[12]? = some (RX12, TX12, 58)) inX12 (by decide) g1039) ?_
  refine q_fa (ok_iload_n (by decide +kernel : decode cX12_parted 46 = .ok (.iload_n 3, 1)) rfl rfl) ?_
  refine q_fa (ok_iaload (by decide +kernel : decode cX12_parted 47 = .ok (.iaload, 1)) rfl) ?_
  refine q_fa (ok_if1lt (by decide +kernel : decode cX12_parted 48 = .ok (.ifCond .lt 50, 3)) (by decide) rfl) ?_
  refine q_fa (ok_iload (by decide +kernel : decode cX12_parted 51 = .ok (.iload 4, 2)) rfl) ?_
  refine q_fa (ok_bipush (by decide +kernel : decode cX12_parted 53 = .ok (.bipush 12, 2)) rfl (by decide +kernel)) ?_
  refine q_fa (ok_if2ne (by decide +kernel : decode cX12_parted 55 = .ok (.if_icmp .ne 6, 3)) (by decide) rfl) ?_
  refine q_fa (ok_bipush (by decide +kernel : decode cX12_parted 58 = .ok (.bipush (-3), 2)) rfl (by decide +kernel)) ?_
  refine q_fa (ok_iret (by decide +kernel : decode cX12_parted 60 = .ok (.ireturn, 1)) rfl) ?_
  refine q_fa (ok_iload (by decide +kernel : decode cX12_parted 61 = .ok (.iload 5, 2)) rfl) ?_
  refine q_fa (ok_iload (by decide +kernel : decode cX12_parted 63 = .ok (.iload 6, 2)) rfl) ?_
  refine q_fa (ok_aload_n (by decide +kernel : decode cX12_parted 65 = .ok (.aload_n 0, 1)) rfl rfl) ?_
  refine q_fa (ok_get (by decide +kernel : decode cX12_parted 66 = .ok (.getfield 83, 3)) rfl (rfl : vwCl[12]? = some (RX12, TX12, 58)) inX12 (by decide) g1039) ?_
  refine q_fa (ok_iload_n (by decide +kernel : decode cX12_parted 69 = .ok (.iload_n 3, 1)) rfl rfl) ?_
  refine q_fa (ok_iaload (by decide +kernel : decode cX12_parted 70 = .ok (.iaload, 1)) rfl) ?_
  refine q_fa (ok_iconst (by decide +kernel : decode cX12_parted 71 = .ok (.iconst 3, 1)) rfl (by decide +kernel)) ?_
  refine q_fa (ok_irem (by decide +kernel : decode cX12_parted 72 = .ok (.irem, 1)) rfl) ?_
  refine q_fa (ok_imul (by decide +kernel : decode cX12_parted 73 = .ok (.imul, 1)) rfl) ?_
  refine q_fa (ok_iadd (by decide +kernel : decode cX12_parted 74 = .ok (.iadd, 1)) rfl) ?_
  refine q_fa (ok_istore (by decide +kernel : decode cX12_parted 75 = .ok (.istore 5, 2)) rfl (by decide)) ?_
  refine q_fa (ok_iload (by decide +kernel : decode cX12_parted 77 = .ok (.iload 6, 2)) rfl) ?_
  refine q_fa (ok_iconst (by decide +kernel : decode cX12_parted 79 = .ok (.iconst 3, 1)) rfl (by decide +kernel)) ?_
  refine q_fa (ok_imul (by decide +kernel : decode cX12_parted 80 = .ok (.imul, 1)) rfl) ?_
  refine q_fa (ok_istore (by decide +kernel : decode cX12_parted 81 = .ok (.istore 6, 2)) rfl (by decide)) ?_
  refine q_fa (ok_iinc (by decide +kernel : decode cX12_parted 83 = .ok (.iinc 4 1, 3)) rfl (by decide +kernel) (by decide)) ?_
  refine q_fa (ok_aload_n (by decide +kernel : decode cX12_parted 86 = .ok (.aload_n 0, 1)) rfl rfl) ?_
  refine q_fa (ok_get (by decide +kernel : decode cX12_parted 87 = .ok (.getfield 83, 3)) rfl (rfl : vwCl[12]? = some (RX12, TX12, 58)) inX12 (by decide) g1039) ?_
  refine q_fa (ok_iload_n (by decide +kernel : decode cX12_parted 90 = .ok (.iload_n 3, 1)) rfl rfl) ?_
  refine q_fa (ok_iaload (by decide +kernel : decode cX12_parted 91 = .ok (.iaload, 1)) rfl) ?_
  refine q_fa (ok_iconst (by decide +kernel : decode cX12_parted 92 = .ok (.iconst 3, 1)) rfl (by decide +kernel)) ?_
  refine q_fa (ok_idiv (by decide +kernel : decode cX12_parted 93 = .ok (.idiv, 1)) rfl) ?_
  refine q_fa (ok_istore_n (by decide +kernel : decode cX12_parted 94 = .ok (.istore_n 3, 1)) rfl rfl (by decide)) ?_
  refine q_fa (ok_goto (by decide +kernel : decode cX12_parted 95 = .ok (.goto (-53), 3)) (by decide)) ?_
  refine q_fa (ok_iload (by decide +kernel : decode cX12_parted 98 = .ok (.iload 5, 2)) rfl) ?_
  refine q_fa (ok_iload (by decide +kernel : decode cX12_parted 100 = .ok (.iload 6, 2)) rfl) ?_
  refine q_fa (ok_iadd (by decide +kernel : decode cX12_parted 102 = .ok (.iadd, 1)) rfl) ?_
  refine q_fa (ok_iret (by decide +kernel : decode cX12_parted 103 = .ok (.ireturn, 1)) rfl) ?_
  exact q_fa0
theorem exX12_parted : ∃ t : Nat → qP, t = uX12_parted := ⟨_, rfl⟩
noncomputable def tX12_parted : Nat → qP := Classical.choose exX12_parted
theorem teX12_parted : tX12_parted = uX12_parted := Classical.choose_spec exX12_parted
theorem sX12_parted : q_Snd mX12_parted tX12_parted := by rw [teX12_parted]; exact suX12_parted
theorem tX12_parted_0 : tX12_parted 0 = oAl 0 1 := (congrFun teX12_parted 0).trans rfl
theorem tX12_parted_1 : tX12_parted 1 = oIl 1 2 := (congrFun teX12_parted 1).trans rfl
theorem tX12_parted_2 : tX12_parted 2 = oCallV 12 mX12_has 1 5 := (congrFun teX12_parted 2).trans rfl
theorem tX12_parted_5 : tX12_parted 5 = oIf1eq 16 8 := (congrFun teX12_parted 5).trans rfl
theorem tX12_parted_8 : tX12_parted 8 = oAl 0 9 := (congrFun teX12_parted 8).trans rfl
theorem tX12_parted_9 : tX12_parted 9 = oIl 2 10 := (congrFun teX12_parted 9).trans rfl
theorem tX12_parted_10 : tX12_parted 10 = oCallV 12 mX12_has 1 13 := (congrFun teX12_parted 10).trans rfl
theorem tX12_parted_13 : tX12_parted 13 = oIf1ne 18 16 := (congrFun teX12_parted 13).trans rfl
theorem tX12_parted_16 : tX12_parted 16 = oK (.int (-1)) 17 := (congrFun teX12_parted 16).trans rfl
theorem tX12_parted_17 : tX12_parted 17 = oIret := (congrFun teX12_parted 17).trans rfl
theorem tX12_parted_18 : tX12_parted 18 = oAl 0 19 := (congrFun teX12_parted 18).trans rfl
theorem tX12_parted_19 : tX12_parted 19 = oIl 1 20 := (congrFun teX12_parted 19).trans rfl
theorem tX12_parted_20 : tX12_parted 20 = oIl 2 21 := (congrFun teX12_parted 20).trans rfl
theorem tX12_parted_21 : tX12_parted 21 = oK (.int (nI 0)) 22 := (congrFun teX12_parted 21).trans rfl
theorem tX12_parted_22 : tX12_parted 22 = oCallV 12 mX12_findPair 3 25 := (congrFun teX12_parted 22).trans rfl
theorem tX12_parted_25 : tX12_parted 25 = oIs 3 26 := (congrFun teX12_parted 25).trans rfl
theorem tX12_parted_26 : tX12_parted 26 = oIl 3 27 := (congrFun teX12_parted 26).trans rfl
theorem tX12_parted_27 : tX12_parted 27 = oIf1ge 33 30 := (congrFun teX12_parted 27).trans rfl
theorem tX12_parted_30 : tX12_parted 30 = oK (.int (-2)) 32 := (congrFun teX12_parted 30).trans rfl
theorem tX12_parted_32 : tX12_parted 32 = oIret := (congrFun teX12_parted 32).trans rfl
theorem tX12_parted_33 : tX12_parted 33 = oK (.int (nI 0)) 34 := (congrFun teX12_parted 33).trans rfl
theorem tX12_parted_34 : tX12_parted 34 = oIs 4 36 := (congrFun teX12_parted 34).trans rfl
theorem tX12_parted_36 : tX12_parted 36 = oK (.int (nI 0)) 37 := (congrFun teX12_parted 36).trans rfl
theorem tX12_parted_37 : tX12_parted 37 = oIs 5 39 := (congrFun teX12_parted 37).trans rfl
theorem tX12_parted_39 : tX12_parted 39 = oK (.int (nI 1)) 40 := (congrFun teX12_parted 39).trans rfl
theorem tX12_parted_40 : tX12_parted 40 = oIs 6 42 := (congrFun teX12_parted 40).trans rfl
theorem tX12_parted_42 : tX12_parted 42 = oAl 0 43 := (congrFun teX12_parted 42).trans rfl
theorem tX12_parted_43 : tX12_parted 43 = oGet 12 35 46 := (congrFun teX12_parted 43).trans rfl
theorem tX12_parted_46 : tX12_parted 46 = oIl 3 47 := (congrFun teX12_parted 46).trans rfl
theorem tX12_parted_47 : tX12_parted 47 = oIald 48 := (congrFun teX12_parted 47).trans rfl
theorem tX12_parted_48 : tX12_parted 48 = oIf1lt 98 51 := (congrFun teX12_parted 48).trans rfl
theorem tX12_parted_51 : tX12_parted 51 = oIl 4 53 := (congrFun teX12_parted 51).trans rfl
theorem tX12_parted_53 : tX12_parted 53 = oK (.int (nI 12)) 55 := (congrFun teX12_parted 53).trans rfl
theorem tX12_parted_55 : tX12_parted 55 = oIf2ne 61 58 := (congrFun teX12_parted 55).trans rfl
theorem tX12_parted_58 : tX12_parted 58 = oK (.int (-3)) 60 := (congrFun teX12_parted 58).trans rfl
theorem tX12_parted_60 : tX12_parted 60 = oIret := (congrFun teX12_parted 60).trans rfl
theorem tX12_parted_61 : tX12_parted 61 = oIl 5 63 := (congrFun teX12_parted 61).trans rfl
theorem tX12_parted_63 : tX12_parted 63 = oIl 6 65 := (congrFun teX12_parted 63).trans rfl
theorem tX12_parted_65 : tX12_parted 65 = oAl 0 66 := (congrFun teX12_parted 65).trans rfl
theorem tX12_parted_66 : tX12_parted 66 = oGet 12 35 69 := (congrFun teX12_parted 66).trans rfl
theorem tX12_parted_69 : tX12_parted 69 = oIl 3 70 := (congrFun teX12_parted 69).trans rfl
theorem tX12_parted_70 : tX12_parted 70 = oIald 71 := (congrFun teX12_parted 70).trans rfl
theorem tX12_parted_71 : tX12_parted 71 = oK (.int (nI 3)) 72 := (congrFun teX12_parted 71).trans rfl
theorem tX12_parted_72 : tX12_parted 72 = oRem 73 := (congrFun teX12_parted 72).trans rfl
theorem tX12_parted_73 : tX12_parted 73 = oMul 74 := (congrFun teX12_parted 73).trans rfl
theorem tX12_parted_74 : tX12_parted 74 = oAdd 75 := (congrFun teX12_parted 74).trans rfl
theorem tX12_parted_75 : tX12_parted 75 = oIs 5 77 := (congrFun teX12_parted 75).trans rfl
theorem tX12_parted_77 : tX12_parted 77 = oIl 6 79 := (congrFun teX12_parted 77).trans rfl
theorem tX12_parted_79 : tX12_parted 79 = oK (.int (nI 3)) 80 := (congrFun teX12_parted 79).trans rfl
theorem tX12_parted_80 : tX12_parted 80 = oMul 81 := (congrFun teX12_parted 80).trans rfl
theorem tX12_parted_81 : tX12_parted 81 = oIs 6 83 := (congrFun teX12_parted 81).trans rfl
theorem tX12_parted_83 : tX12_parted 83 = oInc 4 (nI 1) 86 := (congrFun teX12_parted 83).trans rfl
theorem tX12_parted_86 : tX12_parted 86 = oAl 0 87 := (congrFun teX12_parted 86).trans rfl
theorem tX12_parted_87 : tX12_parted 87 = oGet 12 35 90 := (congrFun teX12_parted 87).trans rfl
theorem tX12_parted_90 : tX12_parted 90 = oIl 3 91 := (congrFun teX12_parted 90).trans rfl
theorem tX12_parted_91 : tX12_parted 91 = oIald 92 := (congrFun teX12_parted 91).trans rfl
theorem tX12_parted_92 : tX12_parted 92 = oK (.int (nI 3)) 93 := (congrFun teX12_parted 92).trans rfl
theorem tX12_parted_93 : tX12_parted 93 = oDiv 94 := (congrFun teX12_parted 93).trans rfl
theorem tX12_parted_94 : tX12_parted 94 = oIs 3 95 := (congrFun teX12_parted 94).trans rfl
theorem tX12_parted_95 : tX12_parted 95 = oGo 42 := (congrFun teX12_parted 95).trans rfl
theorem tX12_parted_98 : tX12_parted 98 = oIl 5 100 := (congrFun teX12_parted 98).trans rfl
theorem tX12_parted_100 : tX12_parted 100 = oIl 6 102 := (congrFun teX12_parted 100).trans rfl
theorem tX12_parted_102 : tX12_parted 102 = oAdd 103 := (congrFun teX12_parted 102).trans rfl
theorem tX12_parted_103 : tX12_parted 103 = oIret := (congrFun teX12_parted 103).trans rfl
def lX12_inside : List (Nat × qP) := [(0, oAl 0 1), (1, oIl 1 2), (2, oCallV 12 mX12_has 1 5), (5, oIf1eq 16 8), (8, oAl 0 9), (9, oIl 2 10), (10, oCallV 12 mX12_has 1 13), (13, oIf1ne 20 16), (16, oK (.int (-1)) 17), (17, oGo 35), (20, oAl 0 21), (21, oIl 1 22), (22, oIl 2 23), (23, oK (.int (nI 1)) 24), (24, oCallV 12 mX12_findPair 3 27), (27, oIf1ge 34 30), (30, oK (.int (nI 1)) 31), (31, oGo 35), (34, oK (.int (nI 0)) 35), (35, oIret)]
def uX12_inside : Nat → qP := q_tb lX12_inside
set_option maxRecDepth 20000 in
theorem suX12_inside : q_Snd mX12_inside uX12_inside := by
  refine q_tb_ok ?_
  unfold lX12_inside
  refine q_fa (ok_aload_n (by decide +kernel : decode cX12_inside 0 = .ok (.aload_n 0, 1)) rfl rfl) ?_
  refine q_fa (ok_iload_n (by decide +kernel : decode cX12_inside 1 = .ok (.iload_n 1, 1)) rfl rfl) ?_
  refine q_fa (ok_callV (by decide +kernel : decode cX12_inside 2 = .ok (.invokevirtual 243, 3)) rfl kX12_has.1 kX12_has.2.1 kX12_has.2.2.1 kX12_has.2.2.2.1 kX12_has.2.2.2.2 (rfl : vwCl[12]? = some (RX12, TX12, 58)) g1255 gs60 g1253) ?_
  refine q_fa (ok_if1eq (by decide +kernel : decode cX12_inside 5 = .ok (.ifCond .eq 11, 3)) (by decide) rfl) ?_
  refine q_fa (ok_aload_n (by decide +kernel : decode cX12_inside 8 = .ok (.aload_n 0, 1)) rfl rfl) ?_
  refine q_fa (ok_iload_n (by decide +kernel : decode cX12_inside 9 = .ok (.iload_n 2, 1)) rfl rfl) ?_
  refine q_fa (ok_callV (by decide +kernel : decode cX12_inside 10 = .ok (.invokevirtual 243, 3)) rfl kX12_has.1 kX12_has.2.1 kX12_has.2.2.1 kX12_has.2.2.2.1 kX12_has.2.2.2.2 (rfl : vwCl[12]? = some (RX12, TX12, 58)) g1255 gs60 g1253) ?_
  refine q_fa (ok_if1ne (by decide +kernel : decode cX12_inside 13 = .ok (.ifCond .ne 7, 3)) (by decide) rfl) ?_
  refine q_fa (ok_iconst (by decide +kernel : decode cX12_inside 16 = .ok (.iconst (-1), 1)) rfl (by decide +kernel)) ?_
  refine q_fa (ok_goto (by decide +kernel : decode cX12_inside 17 = .ok (.goto 18, 3)) (by decide)) ?_
  refine q_fa (ok_aload_n (by decide +kernel : decode cX12_inside 20 = .ok (.aload_n 0, 1)) rfl rfl) ?_
  refine q_fa (ok_iload_n (by decide +kernel : decode cX12_inside 21 = .ok (.iload_n 1, 1)) rfl rfl) ?_
  refine q_fa (ok_iload_n (by decide +kernel : decode cX12_inside 22 = .ok (.iload_n 2, 1)) rfl rfl) ?_
  refine q_fa (ok_iconst (by decide +kernel : decode cX12_inside 23 = .ok (.iconst 1, 1)) rfl (by decide +kernel)) ?_
  refine q_fa (ok_callV (by decide +kernel : decode cX12_inside 24 = .ok (.invokevirtual 299, 3)) rfl kX12_findPair.1 kX12_findPair.2.1 kX12_findPair.2.2.1 kX12_findPair.2.2.2.1 kX12_findPair.2.2.2.2 (rfl : vwCl[12]? = some (RX12, TX12, 58)) g1371 gs81 g1369) ?_
  refine q_fa (ok_if1ge (by decide +kernel : decode cX12_inside 27 = .ok (.ifCond .ge 7, 3)) (by decide) rfl) ?_
  refine q_fa (ok_iconst (by decide +kernel : decode cX12_inside 30 = .ok (.iconst 1, 1)) rfl (by decide +kernel)) ?_
  refine q_fa (ok_goto (by decide +kernel : decode cX12_inside 31 = .ok (.goto 4, 3)) (by decide)) ?_
  refine q_fa (ok_iconst (by decide +kernel : decode cX12_inside 34 = .ok (.iconst 0, 1)) rfl (by decide +kernel)) ?_
  refine q_fa (ok_iret (by decide +kernel : decode cX12_inside 35 = .ok (.ireturn, 1)) rfl) ?_
  exact q_fa0
theorem exX12_inside : ∃ t : Nat → qP, t = uX12_inside := ⟨_, rfl⟩
noncomputable def tX12_inside : Nat → qP := Classical.choose exX12_inside
theorem teX12_inside : tX12_inside = uX12_inside := Classical.choose_spec exX12_inside
theorem sX12_inside : q_Snd mX12_inside tX12_inside := by rw [teX12_inside]; exact suX12_inside
theorem tX12_inside_0 : tX12_inside 0 = oAl 0 1 := (congrFun teX12_inside 0).trans rfl
theorem tX12_inside_1 : tX12_inside 1 = oIl 1 2 := (congrFun teX12_inside 1).trans rfl
theorem tX12_inside_2 : tX12_inside 2 = oCallV 12 mX12_has 1 5 := (congrFun teX12_inside 2).trans rfl
theorem tX12_inside_5 : tX12_inside 5 = oIf1eq 16 8 := (congrFun teX12_inside 5).trans rfl
theorem tX12_inside_8 : tX12_inside 8 = oAl 0 9 := (congrFun teX12_inside 8).trans rfl
theorem tX12_inside_9 : tX12_inside 9 = oIl 2 10 := (congrFun teX12_inside 9).trans rfl
theorem tX12_inside_10 : tX12_inside 10 = oCallV 12 mX12_has 1 13 := (congrFun teX12_inside 10).trans rfl
theorem tX12_inside_13 : tX12_inside 13 = oIf1ne 20 16 := (congrFun teX12_inside 13).trans rfl
theorem tX12_inside_16 : tX12_inside 16 = oK (.int (-1)) 17 := (congrFun teX12_inside 16).trans rfl
theorem tX12_inside_17 : tX12_inside 17 = oGo 35 := (congrFun teX12_inside 17).trans rfl
theorem tX12_inside_20 : tX12_inside 20 = oAl 0 21 := (congrFun teX12_inside 20).trans rfl
theorem tX12_inside_21 : tX12_inside 21 = oIl 1 22 := (congrFun teX12_inside 21).trans rfl
theorem tX12_inside_22 : tX12_inside 22 = oIl 2 23 := (congrFun teX12_inside 22).trans rfl
theorem tX12_inside_23 : tX12_inside 23 = oK (.int (nI 1)) 24 := (congrFun teX12_inside 23).trans rfl
theorem tX12_inside_24 : tX12_inside 24 = oCallV 12 mX12_findPair 3 27 := (congrFun teX12_inside 24).trans rfl
theorem tX12_inside_27 : tX12_inside 27 = oIf1ge 34 30 := (congrFun teX12_inside 27).trans rfl
theorem tX12_inside_30 : tX12_inside 30 = oK (.int (nI 1)) 31 := (congrFun teX12_inside 30).trans rfl
theorem tX12_inside_31 : tX12_inside 31 = oGo 35 := (congrFun teX12_inside 31).trans rfl
theorem tX12_inside_34 : tX12_inside 34 = oK (.int (nI 0)) 35 := (congrFun teX12_inside 34).trans rfl
theorem tX12_inside_35 : tX12_inside 35 = oIret := (congrFun teX12_inside 35).trans rfl
def lX12_show : List (Nat × qP) := [(0, oAl 0 1), (1, oIl 1 2), (2, oK (.int (nI 6)) 4), (4, oCallV 12 mX12_take 2 7), (7, oIf1eq 30 10), (10, oIl 2 11), (11, oK (.int (nI 0)) 12), (12, oK (.int (nI 3)) 13), (13, oCallS mX12_in 3 16), (16, oIf1eq 30 19), (19, oIl 4 21), (21, oK (.int (nI 1)) 22), (22, oK (.int (nI 99)) 24), (24, oCallS mX12_in 3 27), (27, oIf1ne 32 30), (30, oK (.int (-1)) 31), (31, oIret), (32, oIl 2 33), (33, oK (.int (nI 2)) 34), (34, oIf2ne 68 37), (37, oIl 3 38), (38, oIf1lt 72 41), (41, oIl 3 42), (42, oK (.int (nI 10)) 44), (44, oRem 45), (45, oK (.int (nI 1)) 46), (46, oIf2lt 72 49), (49, oIl 3 50), (50, oK (.int (nI 10)) 52), (52, oDiv 53), (53, oIl 3 54), (54, oK (.int (nI 10)) 56), (56, oRem 57), (57, oAdd 58), (58, oAl 0 59), (59, oGet 12 2 62), (62, oIf2le 74 65), (65, oGo 72), (68, oIl 3 69), (69, oIf1eq 74 72), (72, oK (.int (-1)) 73), (73, oIret), (74, oAl 0 75), (75, oGet 12 38 78), (78, oK (.int (nI 20)) 80), (80, oIf2ne 86 83), (83, oK (.int (-3)) 85), (85, oIret), (86, oAl 0 87), (87, oGet 12 39 90), (90, oAl 0 91), (91, oGet 12 38 94), (94, oIl 1 95), (95, oIast 96), (96, oAl 0 97), (97, oGet 12 40 100), (100, oAl 0 101), (101, oGet 12 38 104), (104, oIl 2 105), (105, oIast 106), (106, oAl 0 107), (107, oGet 12 41 110), (110, oAl 0 111), (111, oGet 12 38 114), (114, oIl 3 115), (115, oIast 116), (116, oAl 0 117), (117, oGet 12 42 120), (120, oAl 0 121), (121, oGet 12 38 124), (124, oIl 4 126), (126, oIast 127), (127, oAl 0 128), (128, oDup 129), (129, oGet 12 38 132), (132, oK (.int (nI 1)) 133), (133, oAdd 134), (134, oPutI 12 38 137), (137, oAl 0 138), (138, oGet 12 38 141), (141, oK (.int (nI 1)) 142), (142, oSub 143), (143, oIret)]
def uX12_show : Nat → qP := q_tb lX12_show
set_option maxRecDepth 20000 in
theorem suX12_show : q_Snd mX12_show uX12_show := by
  refine q_tb_ok ?_
  unfold lX12_show
  refine q_fa (ok_aload_n (by decide +kernel : decode cX12_show 0 = .ok (.aload_n 0, 1)) rfl rfl) ?_
  refine q_fa (ok_iload_n (by decide +kernel : decode cX12_show 1 = .ok (.iload_n 1, 1)) rfl rfl) ?_
  refine q_fa (ok_bipush (by decide +kernel : decode cX12_show 2 = .ok (.bipush 6, 2)) rfl (by decide +kernel)) ?_
  refine q_fa (ok_callV (by decide +kernel : decode cX12_show 4 = .ok (.invokevirtual 255, 3)) rfl kX12_take.1 kX12_take.2.1 kX12_take.2.2.1 kX12_take.2.2.2.1 kX12_take.2.2.2.2 (rfl : vwCl[12]? = some (RX12, TX12, 58)) g1307 gs69 g1305) ?_
  refine q_fa (ok_if1eq (by decide +kernel : decode cX12_show 7 = .ok (.ifCond .eq 23, 3)) (by decide) rfl) ?_
  refine q_fa (ok_iload_n (by decide +kernel : decode cX12_show 10 = .ok (.iload_n 2, 1)) rfl rfl) ?_
  refine q_fa (ok_iconst (by decide +kernel : decode cX12_show 11 = .ok (.iconst 0, 1)) rfl (by decide +kernel)) ?_
  refine q_fa (ok_iconst (by decide +kernel : decode cX12_show 12 = .ok (.iconst 3, 1)) rfl (by decide +kernel)) ?_
  refine q_fa (ok_callS (by decide +kernel : decode cX12_show 13 = .ok (.invokestatic 163, 3)) rfl kX12_in.1 kX12_in.2.1 kX12_in.2.2.1 kX12_in.2.2.2.1 kX12_in.2.2.2.2 g1185 g1184) ?_
  refine q_fa (ok_if1eq (by decide +kernel : decode cX12_show 16 = .ok (.ifCond .eq 14, 3)) (by decide) rfl) ?_
  refine q_fa (ok_iload (by decide +kernel : decode cX12_show 19 = .ok (.iload 4, 2)) rfl) ?_
  refine q_fa (ok_iconst (by decide +kernel : decode cX12_show 21 = .ok (.iconst 1, 1)) rfl (by decide +kernel)) ?_
  refine q_fa (ok_bipush (by decide +kernel : decode cX12_show 22 = .ok (.bipush 99, 2)) rfl (by decide +kernel)) ?_
  refine q_fa (ok_callS (by decide +kernel : decode cX12_show 24 = .ok (.invokestatic 163, 3)) rfl kX12_in.1 kX12_in.2.1 kX12_in.2.2.1 kX12_in.2.2.2.1 kX12_in.2.2.2.2 g1185 g1184) ?_
  refine q_fa (ok_if1ne (by decide +kernel : decode cX12_show 27 = .ok (.ifCond .ne 5, 3)) (by decide) rfl) ?_
  refine q_fa (ok_iconst (by decide +kernel : decode cX12_show 30 = .ok (.iconst (-1), 1)) rfl (by decide +kernel)) ?_
  refine q_fa (ok_iret (by decide +kernel : decode cX12_show 31 = .ok (.ireturn, 1)) rfl) ?_
  refine q_fa (ok_iload_n (by decide +kernel : decode cX12_show 32 = .ok (.iload_n 2, 1)) rfl rfl) ?_
  refine q_fa (ok_iconst (by decide +kernel : decode cX12_show 33 = .ok (.iconst 2, 1)) rfl (by decide +kernel)) ?_
  refine q_fa (ok_if2ne (by decide +kernel : decode cX12_show 34 = .ok (.if_icmp .ne 34, 3)) (by decide) rfl) ?_
  refine q_fa (ok_iload_n (by decide +kernel : decode cX12_show 37 = .ok (.iload_n 3, 1)) rfl rfl) ?_
  refine q_fa (ok_if1lt (by decide +kernel : decode cX12_show 38 = .ok (.ifCond .lt 34, 3)) (by decide) rfl) ?_
  refine q_fa (ok_iload_n (by decide +kernel : decode cX12_show 41 = .ok (.iload_n 3, 1)) rfl rfl) ?_
  refine q_fa (ok_bipush (by decide +kernel : decode cX12_show 42 = .ok (.bipush 10, 2)) rfl (by decide +kernel)) ?_
  refine q_fa (ok_irem (by decide +kernel : decode cX12_show 44 = .ok (.irem, 1)) rfl) ?_
  refine q_fa (ok_iconst (by decide +kernel : decode cX12_show 45 = .ok (.iconst 1, 1)) rfl (by decide +kernel)) ?_
  refine q_fa (ok_if2lt (by decide +kernel : decode cX12_show 46 = .ok (.if_icmp .lt 26, 3)) (by decide) rfl) ?_
  refine q_fa (ok_iload_n (by decide +kernel : decode cX12_show 49 = .ok (.iload_n 3, 1)) rfl rfl) ?_
  refine q_fa (ok_bipush (by decide +kernel : decode cX12_show 50 = .ok (.bipush 10, 2)) rfl (by decide +kernel)) ?_
  refine q_fa (ok_idiv (by decide +kernel : decode cX12_show 52 = .ok (.idiv, 1)) rfl) ?_
  refine q_fa (ok_iload_n (by decide +kernel : decode cX12_show 53 = .ok (.iload_n 3, 1)) rfl rfl) ?_
  refine q_fa (ok_bipush (by decide +kernel : decode cX12_show 54 = .ok (.bipush 10, 2)) rfl (by decide +kernel)) ?_
  refine q_fa (ok_irem (by decide +kernel : decode cX12_show 56 = .ok (.irem, 1)) rfl) ?_
  refine q_fa (ok_iadd (by decide +kernel : decode cX12_show 57 = .ok (.iadd, 1)) rfl) ?_
  refine q_fa (ok_aload_n (by decide +kernel : decode cX12_show 58 = .ok (.aload_n 0, 1)) rfl rfl) ?_
  refine q_fa (ok_get (by decide +kernel : decode cX12_show 59 = .ok (.getfield 135, 3)) rfl (rfl : vwCl[12]? = some (RX12, TX12, 58)) inX12 (by decide) g1006) ?_
  refine q_fa (ok_if2le (by decide +kernel : decode cX12_show 62 = .ok (.if_icmp .le 12, 3)) (by decide) rfl) ?_
  refine q_fa (ok_goto (by decide +kernel : decode cX12_show 65 = .ok (.goto 7, 3)) (by decide)) ?_
  refine q_fa (ok_iload_n (by decide +kernel : decode cX12_show 68 = .ok (.iload_n 3, 1)) rfl rfl) ?_
  refine q_fa (ok_if1eq (by decide +kernel : decode cX12_show 69 = .ok (.ifCond .eq 5, 3)) (by decide) rfl) ?_
  refine q_fa (ok_iconst (by decide +kernel : decode cX12_show 72 = .ok (.iconst (-1), 1)) rfl (by decide +kernel)) ?_
  refine q_fa (ok_iret (by decide +kernel : decode cX12_show 73 = .ok (.ireturn, 1)) rfl) ?_
  refine q_fa (ok_aload_n (by decide +kernel : decode cX12_show 74 = .ok (.aload_n 0, 1)) rfl rfl) ?_
  refine q_fa (ok_get (by decide +kernel : decode cX12_show 75 = .ok (.getfield 302, 3)) rfl (rfl : vwCl[12]? = some (RX12, TX12, 58)) inX12 (by decide) g1042) ?_
  refine q_fa (ok_bipush (by decide +kernel : decode cX12_show 78 = .ok (.bipush 20, 2)) rfl (by decide +kernel)) ?_
  refine q_fa (ok_if2ne (by decide +kernel : decode cX12_show 80 = .ok (.if_icmp .ne 6, 3)) (by decide) rfl) ?_
  refine q_fa (ok_bipush (by decide +kernel : decode cX12_show 83 = .ok (.bipush (-3), 2)) rfl (by decide +kernel)) ?_
  refine q_fa (ok_iret (by decide +kernel : decode cX12_show 85 = .ok (.ireturn, 1)) rfl) ?_
  refine q_fa (ok_aload_n (by decide +kernel : decode cX12_show 86 = .ok (.aload_n 0, 1)) rfl rfl) ?_
  refine q_fa (ok_get (by decide +kernel : decode cX12_show 87 = .ok (.getfield 89, 3)) rfl (rfl : vwCl[12]? = some (RX12, TX12, 58)) inX12 (by decide) g1043) ?_
  refine q_fa (ok_aload_n (by decide +kernel : decode cX12_show 90 = .ok (.aload_n 0, 1)) rfl rfl) ?_
  refine q_fa (ok_get (by decide +kernel : decode cX12_show 91 = .ok (.getfield 302, 3)) rfl (rfl : vwCl[12]? = some (RX12, TX12, 58)) inX12 (by decide) g1042) ?_
  refine q_fa (ok_iload_n (by decide +kernel : decode cX12_show 94 = .ok (.iload_n 1, 1)) rfl rfl) ?_
  refine q_fa (ok_iastore (by decide +kernel : decode cX12_show 95 = .ok (.iastore, 1)) rfl) ?_
  refine q_fa (ok_aload_n (by decide +kernel : decode cX12_show 96 = .ok (.aload_n 0, 1)) rfl rfl) ?_
  refine q_fa (ok_get (by decide +kernel : decode cX12_show 97 = .ok (.getfield 92, 3)) rfl (rfl : vwCl[12]? = some (RX12, TX12, 58)) inX12 (by decide) g1044) ?_
  refine q_fa (ok_aload_n (by decide +kernel : decode cX12_show 100 = .ok (.aload_n 0, 1)) rfl rfl) ?_
  refine q_fa (ok_get (by decide +kernel : decode cX12_show 101 = .ok (.getfield 302, 3)) rfl (rfl : vwCl[12]? = some (RX12, TX12, 58)) inX12 (by decide) g1042) ?_
  refine q_fa (ok_iload_n (by decide +kernel : decode cX12_show 104 = .ok (.iload_n 2, 1)) rfl rfl) ?_
  refine q_fa (ok_iastore (by decide +kernel : decode cX12_show 105 = .ok (.iastore, 1)) rfl) ?_
  refine q_fa (ok_aload_n (by decide +kernel : decode cX12_show 106 = .ok (.aload_n 0, 1)) rfl rfl) ?_
  refine q_fa (ok_get (by decide +kernel : decode cX12_show 107 = .ok (.getfield 95, 3)) rfl (rfl : vwCl[12]? = some (RX12, TX12, 58)) inX12 (by decide) g1045) ?_
  refine q_fa (ok_aload_n (by decide +kernel : decode cX12_show 110 = .ok (.aload_n 0, 1)) rfl rfl) ?_
  refine q_fa (ok_get (by decide +kernel : decode cX12_show 111 = .ok (.getfield 302, 3)) rfl (rfl : vwCl[12]? = some (RX12, TX12, 58)) inX12 (by decide) g1042) ?_
  refine q_fa (ok_iload_n (by decide +kernel : decode cX12_show 114 = .ok (.iload_n 3, 1)) rfl rfl) ?_
  refine q_fa (ok_iastore (by decide +kernel : decode cX12_show 115 = .ok (.iastore, 1)) rfl) ?_
  refine q_fa (ok_aload_n (by decide +kernel : decode cX12_show 116 = .ok (.aload_n 0, 1)) rfl rfl) ?_
  refine q_fa (ok_get (by decide +kernel : decode cX12_show 117 = .ok (.getfield 98, 3)) rfl (rfl : vwCl[12]? = some (RX12, TX12, 58)) inX12 (by decide) g1046) ?_
  refine q_fa (ok_aload_n (by decide +kernel : decode cX12_show 120 = .ok (.aload_n 0, 1)) rfl rfl) ?_
  refine q_fa (ok_get (by decide +kernel : decode cX12_show 121 = .ok (.getfield 302, 3)) rfl (rfl : vwCl[12]? = some (RX12, TX12, 58)) inX12 (by decide) g1042) ?_
  refine q_fa (ok_iload (by decide +kernel : decode cX12_show 124 = .ok (.iload 4, 2)) rfl) ?_
  refine q_fa (ok_iastore (by decide +kernel : decode cX12_show 126 = .ok (.iastore, 1)) rfl) ?_
  refine q_fa (ok_aload_n (by decide +kernel : decode cX12_show 127 = .ok (.aload_n 0, 1)) rfl rfl) ?_
  refine q_fa (ok_dup (by decide +kernel : decode cX12_show 128 = .ok (.dup, 1)) rfl) ?_
  refine q_fa (ok_get (by decide +kernel : decode cX12_show 129 = .ok (.getfield 302, 3)) rfl (rfl : vwCl[12]? = some (RX12, TX12, 58)) inX12 (by decide) g1042) ?_
  refine q_fa (ok_iconst (by decide +kernel : decode cX12_show 132 = .ok (.iconst 1, 1)) rfl (by decide +kernel)) ?_
  refine q_fa (ok_iadd (by decide +kernel : decode cX12_show 133 = .ok (.iadd, 1)) rfl) ?_
  refine q_fa (ok_putI tyX12 (by decide +kernel : decode cX12_show 134 = .ok (.putfield 302, 3)) rfl (rfl : vwCl[12]? = some (RX12, TX12, 58)) inX12 tyX12_ok nmX12 (by decide) g1042 (Or.inl rfl) (by decide +kernel)) ?_
  refine q_fa (ok_aload_n (by decide +kernel : decode cX12_show 137 = .ok (.aload_n 0, 1)) rfl rfl) ?_
  refine q_fa (ok_get (by decide +kernel : decode cX12_show 138 = .ok (.getfield 302, 3)) rfl (rfl : vwCl[12]? = some (RX12, TX12, 58)) inX12 (by decide) g1042) ?_
  refine q_fa (ok_iconst (by decide +kernel : decode cX12_show 141 = .ok (.iconst 1, 1)) rfl (by decide +kernel)) ?_
  refine q_fa (ok_isub (by decide +kernel : decode cX12_show 142 = .ok (.isub, 1)) rfl) ?_
  refine q_fa (ok_iret (by decide +kernel : decode cX12_show 143 = .ok (.ireturn, 1)) rfl) ?_
  exact q_fa0
theorem exX12_show : ∃ t : Nat → qP, t = uX12_show := ⟨_, rfl⟩
noncomputable def tX12_show : Nat → qP := Classical.choose exX12_show
theorem teX12_show : tX12_show = uX12_show := Classical.choose_spec exX12_show
theorem sX12_show : q_Snd mX12_show tX12_show := by rw [teX12_show]; exact suX12_show
theorem tX12_show_0 : tX12_show 0 = oAl 0 1 := (congrFun teX12_show 0).trans rfl
theorem tX12_show_1 : tX12_show 1 = oIl 1 2 := (congrFun teX12_show 1).trans rfl
theorem tX12_show_2 : tX12_show 2 = oK (.int (nI 6)) 4 := (congrFun teX12_show 2).trans rfl
theorem tX12_show_4 : tX12_show 4 = oCallV 12 mX12_take 2 7 := (congrFun teX12_show 4).trans rfl
theorem tX12_show_7 : tX12_show 7 = oIf1eq 30 10 := (congrFun teX12_show 7).trans rfl
theorem tX12_show_10 : tX12_show 10 = oIl 2 11 := (congrFun teX12_show 10).trans rfl
theorem tX12_show_11 : tX12_show 11 = oK (.int (nI 0)) 12 := (congrFun teX12_show 11).trans rfl
theorem tX12_show_12 : tX12_show 12 = oK (.int (nI 3)) 13 := (congrFun teX12_show 12).trans rfl
theorem tX12_show_13 : tX12_show 13 = oCallS mX12_in 3 16 := (congrFun teX12_show 13).trans rfl
theorem tX12_show_16 : tX12_show 16 = oIf1eq 30 19 := (congrFun teX12_show 16).trans rfl
theorem tX12_show_19 : tX12_show 19 = oIl 4 21 := (congrFun teX12_show 19).trans rfl
theorem tX12_show_21 : tX12_show 21 = oK (.int (nI 1)) 22 := (congrFun teX12_show 21).trans rfl
theorem tX12_show_22 : tX12_show 22 = oK (.int (nI 99)) 24 := (congrFun teX12_show 22).trans rfl
theorem tX12_show_24 : tX12_show 24 = oCallS mX12_in 3 27 := (congrFun teX12_show 24).trans rfl
theorem tX12_show_27 : tX12_show 27 = oIf1ne 32 30 := (congrFun teX12_show 27).trans rfl
theorem tX12_show_30 : tX12_show 30 = oK (.int (-1)) 31 := (congrFun teX12_show 30).trans rfl
theorem tX12_show_31 : tX12_show 31 = oIret := (congrFun teX12_show 31).trans rfl
theorem tX12_show_32 : tX12_show 32 = oIl 2 33 := (congrFun teX12_show 32).trans rfl
theorem tX12_show_33 : tX12_show 33 = oK (.int (nI 2)) 34 := (congrFun teX12_show 33).trans rfl
theorem tX12_show_34 : tX12_show 34 = oIf2ne 68 37 := (congrFun teX12_show 34).trans rfl
theorem tX12_show_37 : tX12_show 37 = oIl 3 38 := (congrFun teX12_show 37).trans rfl
theorem tX12_show_38 : tX12_show 38 = oIf1lt 72 41 := (congrFun teX12_show 38).trans rfl
theorem tX12_show_41 : tX12_show 41 = oIl 3 42 := (congrFun teX12_show 41).trans rfl
theorem tX12_show_42 : tX12_show 42 = oK (.int (nI 10)) 44 := (congrFun teX12_show 42).trans rfl
theorem tX12_show_44 : tX12_show 44 = oRem 45 := (congrFun teX12_show 44).trans rfl
theorem tX12_show_45 : tX12_show 45 = oK (.int (nI 1)) 46 := (congrFun teX12_show 45).trans rfl
theorem tX12_show_46 : tX12_show 46 = oIf2lt 72 49 := (congrFun teX12_show 46).trans rfl
theorem tX12_show_49 : tX12_show 49 = oIl 3 50 := (congrFun teX12_show 49).trans rfl
theorem tX12_show_50 : tX12_show 50 = oK (.int (nI 10)) 52 := (congrFun teX12_show 50).trans rfl
theorem tX12_show_52 : tX12_show 52 = oDiv 53 := (congrFun teX12_show 52).trans rfl
theorem tX12_show_53 : tX12_show 53 = oIl 3 54 := (congrFun teX12_show 53).trans rfl
theorem tX12_show_54 : tX12_show 54 = oK (.int (nI 10)) 56 := (congrFun teX12_show 54).trans rfl
theorem tX12_show_56 : tX12_show 56 = oRem 57 := (congrFun teX12_show 56).trans rfl
theorem tX12_show_57 : tX12_show 57 = oAdd 58 := (congrFun teX12_show 57).trans rfl
theorem tX12_show_58 : tX12_show 58 = oAl 0 59 := (congrFun teX12_show 58).trans rfl
theorem tX12_show_59 : tX12_show 59 = oGet 12 2 62 := (congrFun teX12_show 59).trans rfl
theorem tX12_show_62 : tX12_show 62 = oIf2le 74 65 := (congrFun teX12_show 62).trans rfl
theorem tX12_show_65 : tX12_show 65 = oGo 72 := (congrFun teX12_show 65).trans rfl
theorem tX12_show_68 : tX12_show 68 = oIl 3 69 := (congrFun teX12_show 68).trans rfl
theorem tX12_show_69 : tX12_show 69 = oIf1eq 74 72 := (congrFun teX12_show 69).trans rfl
theorem tX12_show_72 : tX12_show 72 = oK (.int (-1)) 73 := (congrFun teX12_show 72).trans rfl
theorem tX12_show_73 : tX12_show 73 = oIret := (congrFun teX12_show 73).trans rfl
theorem tX12_show_74 : tX12_show 74 = oAl 0 75 := (congrFun teX12_show 74).trans rfl
theorem tX12_show_75 : tX12_show 75 = oGet 12 38 78 := (congrFun teX12_show 75).trans rfl
theorem tX12_show_78 : tX12_show 78 = oK (.int (nI 20)) 80 := (congrFun teX12_show 78).trans rfl
theorem tX12_show_80 : tX12_show 80 = oIf2ne 86 83 := (congrFun teX12_show 80).trans rfl
theorem tX12_show_83 : tX12_show 83 = oK (.int (-3)) 85 := (congrFun teX12_show 83).trans rfl
theorem tX12_show_85 : tX12_show 85 = oIret := (congrFun teX12_show 85).trans rfl
theorem tX12_show_86 : tX12_show 86 = oAl 0 87 := (congrFun teX12_show 86).trans rfl
theorem tX12_show_87 : tX12_show 87 = oGet 12 39 90 := (congrFun teX12_show 87).trans rfl
theorem tX12_show_90 : tX12_show 90 = oAl 0 91 := (congrFun teX12_show 90).trans rfl
theorem tX12_show_91 : tX12_show 91 = oGet 12 38 94 := (congrFun teX12_show 91).trans rfl
theorem tX12_show_94 : tX12_show 94 = oIl 1 95 := (congrFun teX12_show 94).trans rfl
theorem tX12_show_95 : tX12_show 95 = oIast 96 := (congrFun teX12_show 95).trans rfl
theorem tX12_show_96 : tX12_show 96 = oAl 0 97 := (congrFun teX12_show 96).trans rfl
theorem tX12_show_97 : tX12_show 97 = oGet 12 40 100 := (congrFun teX12_show 97).trans rfl
theorem tX12_show_100 : tX12_show 100 = oAl 0 101 := (congrFun teX12_show 100).trans rfl
theorem tX12_show_101 : tX12_show 101 = oGet 12 38 104 := (congrFun teX12_show 101).trans rfl
theorem tX12_show_104 : tX12_show 104 = oIl 2 105 := (congrFun teX12_show 104).trans rfl
theorem tX12_show_105 : tX12_show 105 = oIast 106 := (congrFun teX12_show 105).trans rfl
theorem tX12_show_106 : tX12_show 106 = oAl 0 107 := (congrFun teX12_show 106).trans rfl
theorem tX12_show_107 : tX12_show 107 = oGet 12 41 110 := (congrFun teX12_show 107).trans rfl
theorem tX12_show_110 : tX12_show 110 = oAl 0 111 := (congrFun teX12_show 110).trans rfl
theorem tX12_show_111 : tX12_show 111 = oGet 12 38 114 := (congrFun teX12_show 111).trans rfl
theorem tX12_show_114 : tX12_show 114 = oIl 3 115 := (congrFun teX12_show 114).trans rfl
theorem tX12_show_115 : tX12_show 115 = oIast 116 := (congrFun teX12_show 115).trans rfl
theorem tX12_show_116 : tX12_show 116 = oAl 0 117 := (congrFun teX12_show 116).trans rfl
theorem tX12_show_117 : tX12_show 117 = oGet 12 42 120 := (congrFun teX12_show 117).trans rfl
theorem tX12_show_120 : tX12_show 120 = oAl 0 121 := (congrFun teX12_show 120).trans rfl
theorem tX12_show_121 : tX12_show 121 = oGet 12 38 124 := (congrFun teX12_show 121).trans rfl
theorem tX12_show_124 : tX12_show 124 = oIl 4 126 := (congrFun teX12_show 124).trans rfl
theorem tX12_show_126 : tX12_show 126 = oIast 127 := (congrFun teX12_show 126).trans rfl
theorem tX12_show_127 : tX12_show 127 = oAl 0 128 := (congrFun teX12_show 127).trans rfl
theorem tX12_show_128 : tX12_show 128 = oDup 129 := (congrFun teX12_show 128).trans rfl
theorem tX12_show_129 : tX12_show 129 = oGet 12 38 132 := (congrFun teX12_show 129).trans rfl
theorem tX12_show_132 : tX12_show 132 = oK (.int (nI 1)) 133 := (congrFun teX12_show 132).trans rfl
theorem tX12_show_133 : tX12_show 133 = oAdd 134 := (congrFun teX12_show 133).trans rfl
theorem tX12_show_134 : tX12_show 134 = oPutI 12 38 137 := (congrFun teX12_show 134).trans rfl
theorem tX12_show_137 : tX12_show 137 = oAl 0 138 := (congrFun teX12_show 137).trans rfl
theorem tX12_show_138 : tX12_show 138 = oGet 12 38 141 := (congrFun teX12_show 138).trans rfl
theorem tX12_show_141 : tX12_show 141 = oK (.int (nI 1)) 142 := (congrFun teX12_show 141).trans rfl
theorem tX12_show_142 : tX12_show 142 = oSub 143 := (congrFun teX12_show 142).trans rfl
theorem tX12_show_143 : tX12_show 143 = oIret := (congrFun teX12_show 143).trans rfl
def lX12_isShowing : List (Nat × qP) := [(0, oIl 1 1), (1, oK (.int (nI 0)) 2), (2, oAl 0 3), (3, oGet 12 38 6), (6, oK (.int (nI 1)) 7), (7, oSub 8), (8, oCallS mX12_in 3 11), (11, oZret)]
def uX12_isShowing : Nat → qP := q_tb lX12_isShowing
set_option maxRecDepth 20000 in
theorem suX12_isShowing : q_Snd mX12_isShowing uX12_isShowing := by
  refine q_tb_ok ?_
  unfold lX12_isShowing
  refine q_fa (ok_iload_n (by decide +kernel : decode cX12_isShowing 0 = .ok (.iload_n 1, 1)) rfl rfl) ?_
  refine q_fa (ok_iconst (by decide +kernel : decode cX12_isShowing 1 = .ok (.iconst 0, 1)) rfl (by decide +kernel)) ?_
  refine q_fa (ok_aload_n (by decide +kernel : decode cX12_isShowing 2 = .ok (.aload_n 0, 1)) rfl rfl) ?_
  refine q_fa (ok_get (by decide +kernel : decode cX12_isShowing 3 = .ok (.getfield 302, 3)) rfl (rfl : vwCl[12]? = some (RX12, TX12, 58)) inX12 (by decide) g1042) ?_
  refine q_fa (ok_iconst (by decide +kernel : decode cX12_isShowing 6 = .ok (.iconst 1, 1)) rfl (by decide +kernel)) ?_
  refine q_fa (ok_isub (by decide +kernel : decode cX12_isShowing 7 = .ok (.isub, 1)) rfl) ?_
  refine q_fa (ok_callS (by decide +kernel : decode cX12_isShowing 8 = .ok (.invokestatic 163, 3)) rfl kX12_in.1 kX12_in.2.1 kX12_in.2.2.1 kX12_in.2.2.2.1 kX12_in.2.2.2.2 g1185 g1184) ?_
  refine q_fa (ok_zret (by decide +kernel : decode cX12_isShowing 11 = .ok (.ireturn, 1)) rfl) ?_
  exact q_fa0
theorem exX12_isShowing : ∃ t : Nat → qP, t = uX12_isShowing := ⟨_, rfl⟩
noncomputable def tX12_isShowing : Nat → qP := Classical.choose exX12_isShowing
theorem teX12_isShowing : tX12_isShowing = uX12_isShowing := Classical.choose_spec exX12_isShowing
theorem sX12_isShowing : q_Snd mX12_isShowing tX12_isShowing := by rw [teX12_isShowing]; exact suX12_isShowing
theorem tX12_isShowing_0 : tX12_isShowing 0 = oIl 1 1 := (congrFun teX12_isShowing 0).trans rfl
theorem tX12_isShowing_1 : tX12_isShowing 1 = oK (.int (nI 0)) 2 := (congrFun teX12_isShowing 1).trans rfl
theorem tX12_isShowing_2 : tX12_isShowing 2 = oAl 0 3 := (congrFun teX12_isShowing 2).trans rfl
theorem tX12_isShowing_3 : tX12_isShowing 3 = oGet 12 38 6 := (congrFun teX12_isShowing 3).trans rfl
theorem tX12_isShowing_6 : tX12_isShowing 6 = oK (.int (nI 1)) 7 := (congrFun teX12_isShowing 6).trans rfl
theorem tX12_isShowing_7 : tX12_isShowing 7 = oSub 8 := (congrFun teX12_isShowing 7).trans rfl
theorem tX12_isShowing_8 : tX12_isShowing 8 = oCallS mX12_in 3 11 := (congrFun teX12_isShowing 8).trans rfl
theorem tX12_isShowing_11 : tX12_isShowing 11 = oZret := (congrFun teX12_isShowing 11).trans rfl
def lX12_back : List (Nat × qP) := [(0, oAl 0 1), (1, oIl 1 2), (2, oCallV 12 mX12_isShowing 1 5), (5, oIf1eq 17 8), (8, oIl 2 9), (9, oK (.int (nI 0)) 10), (10, oK (.int (nI 1)) 11), (11, oCallS mX12_in 3 14), (14, oIf1ne 19 17), (17, oK (.int (-1)) 18), (18, oIret), (19, oAl 0 20), (20, oGet 12 43 23), (23, oIl 1 24), (24, oZald 25), (25, oIf1eq 32 28), (28, oK (.int (nI 1)) 29), (29, oGo 33), (32, oK (.int (nI 0)) 33), (33, oIs 3 34), (34, oAl 0 35), (35, oGet 12 43 38), (38, oIl 1 39), (39, oIl 2 40), (40, oK (.int (nI 1)) 41), (41, oIf2ne 48 44), (44, oK (.int (nI 1)) 45), (45, oGo 49), (48, oK (.int (nI 0)) 49), (49, oZast 50), (50, oIl 3 51), (51, oIret)]
def uX12_back : Nat → qP := q_tb lX12_back
set_option maxRecDepth 20000 in
theorem suX12_back : q_Snd mX12_back uX12_back := by
  refine q_tb_ok ?_
  unfold lX12_back
  refine q_fa (ok_aload_n (by decide +kernel : decode cX12_back 0 = .ok (.aload_n 0, 1)) rfl rfl) ?_
  refine q_fa (ok_iload_n (by decide +kernel : decode cX12_back 1 = .ok (.iload_n 1, 1)) rfl rfl) ?_
  refine q_fa (ok_callV (by decide +kernel : decode cX12_back 2 = .ok (.invokevirtual 305, 3)) rfl kX12_isShowing.1 kX12_isShowing.2.1 kX12_isShowing.2.2.1 kX12_isShowing.2.2.2.1 kX12_isShowing.2.2.2.2 (rfl : vwCl[12]? = some (RX12, TX12, 58)) g1392 gs82 g1390) ?_
  refine q_fa (ok_if1eq (by decide +kernel : decode cX12_back 5 = .ok (.ifCond .eq 12, 3)) (by decide) rfl) ?_
  refine q_fa (ok_iload_n (by decide +kernel : decode cX12_back 8 = .ok (.iload_n 2, 1)) rfl rfl) ?_
  refine q_fa (ok_iconst (by decide +kernel : decode cX12_back 9 = .ok (.iconst 0, 1)) rfl (by decide +kernel)) ?_
  refine q_fa (ok_iconst (by decide +kernel : decode cX12_back 10 = .ok (.iconst 1, 1)) rfl (by decide +kernel)) ?_
  refine q_fa (ok_callS (by decide +kernel : decode cX12_back 11 = .ok (.invokestatic 163, 3)) rfl kX12_in.1 kX12_in.2.1 kX12_in.2.2.1 kX12_in.2.2.2.1 kX12_in.2.2.2.2 g1185 g1184) ?_
  refine q_fa (ok_if1ne (by decide +kernel : decode cX12_back 14 = .ok (.ifCond .ne 5, 3)) (by decide) rfl) ?_
  refine q_fa (ok_iconst (by decide +kernel : decode cX12_back 17 = .ok (.iconst (-1), 1)) rfl (by decide +kernel)) ?_
  refine q_fa (ok_iret (by decide +kernel : decode cX12_back 18 = .ok (.ireturn, 1)) rfl) ?_
  refine q_fa (ok_aload_n (by decide +kernel : decode cX12_back 19 = .ok (.aload_n 0, 1)) rfl rfl) ?_
  refine q_fa (ok_get (by decide +kernel : decode cX12_back 20 = .ok (.getfield 101, 3)) rfl (rfl : vwCl[12]? = some (RX12, TX12, 58)) inX12 (by decide) g1047) ?_
  refine q_fa (ok_iload_n (by decide +kernel : decode cX12_back 23 = .ok (.iload_n 1, 1)) rfl rfl) ?_
  refine q_fa (ok_zaload (by decide +kernel : decode cX12_back 24 = .ok (.baload, 1)) rfl) ?_
  refine q_fa (ok_if1eq (by decide +kernel : decode cX12_back 25 = .ok (.ifCond .eq 7, 3)) (by decide) rfl) ?_
  refine q_fa (ok_iconst (by decide +kernel : decode cX12_back 28 = .ok (.iconst 1, 1)) rfl (by decide +kernel)) ?_
  refine q_fa (ok_goto (by decide +kernel : decode cX12_back 29 = .ok (.goto 4, 3)) (by decide)) ?_
  refine q_fa (ok_iconst (by decide +kernel : decode cX12_back 32 = .ok (.iconst 0, 1)) rfl (by decide +kernel)) ?_
  refine q_fa (ok_istore_n (by decide +kernel : decode cX12_back 33 = .ok (.istore_n 3, 1)) rfl rfl (by decide)) ?_
  refine q_fa (ok_aload_n (by decide +kernel : decode cX12_back 34 = .ok (.aload_n 0, 1)) rfl rfl) ?_
  refine q_fa (ok_get (by decide +kernel : decode cX12_back 35 = .ok (.getfield 101, 3)) rfl (rfl : vwCl[12]? = some (RX12, TX12, 58)) inX12 (by decide) g1047) ?_
  refine q_fa (ok_iload_n (by decide +kernel : decode cX12_back 38 = .ok (.iload_n 1, 1)) rfl rfl) ?_
  refine q_fa (ok_iload_n (by decide +kernel : decode cX12_back 39 = .ok (.iload_n 2, 1)) rfl rfl) ?_
  refine q_fa (ok_iconst (by decide +kernel : decode cX12_back 40 = .ok (.iconst 1, 1)) rfl (by decide +kernel)) ?_
  refine q_fa (ok_if2ne (by decide +kernel : decode cX12_back 41 = .ok (.if_icmp .ne 7, 3)) (by decide) rfl) ?_
  refine q_fa (ok_iconst (by decide +kernel : decode cX12_back 44 = .ok (.iconst 1, 1)) rfl (by decide +kernel)) ?_
  refine q_fa (ok_goto (by decide +kernel : decode cX12_back 45 = .ok (.goto 4, 3)) (by decide)) ?_
  refine q_fa (ok_iconst (by decide +kernel : decode cX12_back 48 = .ok (.iconst 0, 1)) rfl (by decide +kernel)) ?_
  refine q_fa (ok_zastore (by decide +kernel : decode cX12_back 49 = .ok (.bastore, 1)) rfl) ?_
  refine q_fa (ok_iload_n (by decide +kernel : decode cX12_back 50 = .ok (.iload_n 3, 1)) rfl rfl) ?_
  refine q_fa (ok_iret (by decide +kernel : decode cX12_back 51 = .ok (.ireturn, 1)) rfl) ?_
  exact q_fa0
theorem exX12_back : ∃ t : Nat → qP, t = uX12_back := ⟨_, rfl⟩
noncomputable def tX12_back : Nat → qP := Classical.choose exX12_back
theorem teX12_back : tX12_back = uX12_back := Classical.choose_spec exX12_back
theorem sX12_back : q_Snd mX12_back tX12_back := by rw [teX12_back]; exact suX12_back
theorem tX12_back_0 : tX12_back 0 = oAl 0 1 := (congrFun teX12_back 0).trans rfl
theorem tX12_back_1 : tX12_back 1 = oIl 1 2 := (congrFun teX12_back 1).trans rfl
theorem tX12_back_2 : tX12_back 2 = oCallV 12 mX12_isShowing 1 5 := (congrFun teX12_back 2).trans rfl
theorem tX12_back_5 : tX12_back 5 = oIf1eq 17 8 := (congrFun teX12_back 5).trans rfl
theorem tX12_back_8 : tX12_back 8 = oIl 2 9 := (congrFun teX12_back 8).trans rfl
theorem tX12_back_9 : tX12_back 9 = oK (.int (nI 0)) 10 := (congrFun teX12_back 9).trans rfl
theorem tX12_back_10 : tX12_back 10 = oK (.int (nI 1)) 11 := (congrFun teX12_back 10).trans rfl
theorem tX12_back_11 : tX12_back 11 = oCallS mX12_in 3 14 := (congrFun teX12_back 11).trans rfl
theorem tX12_back_14 : tX12_back 14 = oIf1ne 19 17 := (congrFun teX12_back 14).trans rfl
theorem tX12_back_17 : tX12_back 17 = oK (.int (-1)) 18 := (congrFun teX12_back 17).trans rfl
theorem tX12_back_18 : tX12_back 18 = oIret := (congrFun teX12_back 18).trans rfl
theorem tX12_back_19 : tX12_back 19 = oAl 0 20 := (congrFun teX12_back 19).trans rfl
theorem tX12_back_20 : tX12_back 20 = oGet 12 43 23 := (congrFun teX12_back 20).trans rfl
theorem tX12_back_23 : tX12_back 23 = oIl 1 24 := (congrFun teX12_back 23).trans rfl
theorem tX12_back_24 : tX12_back 24 = oZald 25 := (congrFun teX12_back 24).trans rfl
theorem tX12_back_25 : tX12_back 25 = oIf1eq 32 28 := (congrFun teX12_back 25).trans rfl
theorem tX12_back_28 : tX12_back 28 = oK (.int (nI 1)) 29 := (congrFun teX12_back 28).trans rfl
theorem tX12_back_29 : tX12_back 29 = oGo 33 := (congrFun teX12_back 29).trans rfl
theorem tX12_back_32 : tX12_back 32 = oK (.int (nI 0)) 33 := (congrFun teX12_back 32).trans rfl
theorem tX12_back_33 : tX12_back 33 = oIs 3 34 := (congrFun teX12_back 33).trans rfl
theorem tX12_back_34 : tX12_back 34 = oAl 0 35 := (congrFun teX12_back 34).trans rfl
theorem tX12_back_35 : tX12_back 35 = oGet 12 43 38 := (congrFun teX12_back 35).trans rfl
theorem tX12_back_38 : tX12_back 38 = oIl 1 39 := (congrFun teX12_back 38).trans rfl
theorem tX12_back_39 : tX12_back 39 = oIl 2 40 := (congrFun teX12_back 39).trans rfl
theorem tX12_back_40 : tX12_back 40 = oK (.int (nI 1)) 41 := (congrFun teX12_back 40).trans rfl
theorem tX12_back_41 : tX12_back 41 = oIf2ne 48 44 := (congrFun teX12_back 41).trans rfl
theorem tX12_back_44 : tX12_back 44 = oK (.int (nI 1)) 45 := (congrFun teX12_back 44).trans rfl
theorem tX12_back_45 : tX12_back 45 = oGo 49 := (congrFun teX12_back 45).trans rfl
theorem tX12_back_48 : tX12_back 48 = oK (.int (nI 0)) 49 := (congrFun teX12_back 48).trans rfl
theorem tX12_back_49 : tX12_back 49 = oZast 50 := (congrFun teX12_back 49).trans rfl
theorem tX12_back_50 : tX12_back 50 = oIl 3 51 := (congrFun teX12_back 50).trans rfl
theorem tX12_back_51 : tX12_back 51 = oIret := (congrFun teX12_back 51).trans rfl
def lX12_agrees0 : List (Nat × qP) := [(0, oAl 0 1), (1, oAl 0 2), (2, oGet 12 39 5), (5, oIl 2 6), (6, oIald 7), (7, oK (.int (nI 6)) 9), (9, oCallV 12 mX12_take 2 12), (12, oIs 3 13), (13, oAl 0 14), (14, oGet 12 40 17), (17, oIl 2 18), (18, oIald 19), (19, oTab 0 [44, 58, 64] 100), (44, oAl 0 45), (45, oIl 1 46), (46, oCallV 12 mX12_isFit 1 49), (49, oIf1ne 56 52), (52, oK (.int (nI 1)) 53), (53, oGo 57), (56, oK (.int (nI 0)) 57), (57, oZret), (58, oAl 0 59), (59, oIl 1 60), (60, oCallV 12 mX12_isFit 1 63), (63, oZret), (64, oAl 0 65), (65, oIl 1 66), (66, oCallV 12 mX12_outOf 1 69), (69, oK (.int (nI 100)) 71), (71, oAl 0 72), (72, oGet 12 41 75), (75, oIl 2 76), (76, oIald 77), (77, oK (.int (nI 10)) 79), (79, oDiv 80), (80, oMul 81), (81, oAl 0 82), (82, oGet 12 41 85), (85, oIl 2 86), (86, oIald 87), (87, oK (.int (nI 10)) 89), (89, oRem 90), (90, oAdd 91), (91, oIf2ne 98 94), (94, oK (.int (nI 1)) 95), (95, oGo 99), (98, oK (.int (nI 0)) 99), (99, oZret), (100, oAl 0 101), (101, oIl 1 102), (102, oCallV 12 mX12_outOf 1 105), (105, oK (.int (-2)) 107), (107, oIf2ne 114 110), (110, oK (.int (nI 1)) 111), (111, oGo 115), (114, oK (.int (nI 0)) 115), (115, oZret)]
def uX12_agrees0 : Nat → qP := q_tb lX12_agrees0
set_option maxRecDepth 20000 in
theorem suX12_agrees0 : q_Snd mX12_agrees0 uX12_agrees0 := by
  refine q_tb_ok ?_
  unfold lX12_agrees0
  refine q_fa (ok_aload_n (by decide +kernel : decode cX12_agrees0 0 = .ok (.aload_n 0, 1)) rfl rfl) ?_
  refine q_fa (ok_aload_n (by decide +kernel : decode cX12_agrees0 1 = .ok (.aload_n 0, 1)) rfl rfl) ?_
  refine q_fa (ok_get (by decide +kernel : decode cX12_agrees0 2 = .ok (.getfield 89, 3)) rfl (rfl : vwCl[12]? = some (RX12, TX12, 58)) inX12 (by decide) g1043) ?_
  refine q_fa (ok_iload_n (by decide +kernel : decode cX12_agrees0 5 = .ok (.iload_n 2, 1)) rfl rfl) ?_
  refine q_fa (ok_iaload (by decide +kernel : decode cX12_agrees0 6 = .ok (.iaload, 1)) rfl) ?_
  refine q_fa (ok_bipush (by decide +kernel : decode cX12_agrees0 7 = .ok (.bipush 6, 2)) rfl (by decide +kernel)) ?_
  refine q_fa (ok_callV (by decide +kernel : decode cX12_agrees0 9 = .ok (.invokevirtual 255, 3)) rfl kX12_take.1 kX12_take.2.1 kX12_take.2.2.1 kX12_take.2.2.2.1 kX12_take.2.2.2.2 (rfl : vwCl[12]? = some (RX12, TX12, 58)) g1307 gs69 g1305) ?_
  refine q_fa (ok_istore_n (by decide +kernel : decode cX12_agrees0 12 = .ok (.istore_n 3, 1)) rfl rfl (by decide)) ?_
  refine q_fa (ok_aload_n (by decide +kernel : decode cX12_agrees0 13 = .ok (.aload_n 0, 1)) rfl rfl) ?_
  refine q_fa (ok_get (by decide +kernel : decode cX12_agrees0 14 = .ok (.getfield 92, 3)) rfl (rfl : vwCl[12]? = some (RX12, TX12, 58)) inX12 (by decide) g1044) ?_
  refine q_fa (ok_iload_n (by decide +kernel : decode cX12_agrees0 17 = .ok (.iload_n 2, 1)) rfl rfl) ?_
  refine q_fa (ok_iaload (by decide +kernel : decode cX12_agrees0 18 = .ok (.iaload, 1)) rfl) ?_
  refine q_fa (ok_table (by decide +kernel : decode cX12_agrees0 19 = .ok (.tableswitch 81 0 2 #[25, 39, 45], 25)) (by decide) (by decide) (by decide) (by decide) (by decide)) ?_
  refine q_fa (ok_aload_n (by decide +kernel : decode cX12_agrees0 44 = .ok (.aload_n 0, 1)) rfl rfl) ?_
  refine q_fa (ok_iload_n (by decide +kernel : decode cX12_agrees0 45 = .ok (.iload_n 1, 1)) rfl rfl) ?_
  refine q_fa (ok_callV (by decide +kernel : decode cX12_agrees0 46 = .ok (.invokevirtual 259, 3)) rfl kX12_isFit.1 kX12_isFit.2.1 kX12_isFit.2.2.1 kX12_isFit.2.2.2.1 kX12_isFit.2.2.2.2 (rfl : vwCl[12]? = some (RX12, TX12, 58)) g1311 gs70 g1309) ?_
  refine q_fa (ok_if1ne (by decide +kernel : decode cX12_agrees0 49 = .ok (.ifCond .ne 7, 3)) (by decide) rfl) ?_
  refine q_fa (ok_iconst (by decide +kernel : decode cX12_agrees0 52 = .ok (.iconst 1, 1)) rfl (by decide +kernel)) ?_
  refine q_fa (ok_goto (by decide +kernel : decode cX12_agrees0 53 = .ok (.goto 4, 3)) (by decide)) ?_
  refine q_fa (ok_iconst (by decide +kernel : decode cX12_agrees0 56 = .ok (.iconst 0, 1)) rfl (by decide +kernel)) ?_
  refine q_fa (ok_zret (by decide +kernel : decode cX12_agrees0 57 = .ok (.ireturn, 1)) rfl) ?_
  refine q_fa (ok_aload_n (by decide +kernel : decode cX12_agrees0 58 = .ok (.aload_n 0, 1)) rfl rfl) ?_
  refine q_fa (ok_iload_n (by decide +kernel : decode cX12_agrees0 59 = .ok (.iload_n 1, 1)) rfl rfl) ?_
  refine q_fa (ok_callV (by decide +kernel : decode cX12_agrees0 60 = .ok (.invokevirtual 259, 3)) rfl kX12_isFit.1 kX12_isFit.2.1 kX12_isFit.2.2.1 kX12_isFit.2.2.2.1 kX12_isFit.2.2.2.2 (rfl : vwCl[12]? = some (RX12, TX12, 58)) g1311 gs70 g1309) ?_
  refine q_fa (ok_zret (by decide +kernel : decode cX12_agrees0 63 = .ok (.ireturn, 1)) rfl) ?_
  refine q_fa (ok_aload_n (by decide +kernel : decode cX12_agrees0 64 = .ok (.aload_n 0, 1)) rfl rfl) ?_
  refine q_fa (ok_iload_n (by decide +kernel : decode cX12_agrees0 65 = .ok (.iload_n 1, 1)) rfl rfl) ?_
  refine q_fa (ok_callV (by decide +kernel : decode cX12_agrees0 66 = .ok (.invokevirtual 262, 3)) rfl kX12_outOf.1 kX12_outOf.2.1 kX12_outOf.2.2.1 kX12_outOf.2.2.2.1 kX12_outOf.2.2.2.2 (rfl : vwCl[12]? = some (RX12, TX12, 58)) g1331 gs74 g1329) ?_
  refine q_fa (ok_bipush (by decide +kernel : decode cX12_agrees0 69 = .ok (.bipush 100, 2)) rfl (by decide +kernel)) ?_
  refine q_fa (ok_aload_n (by decide +kernel : decode cX12_agrees0 71 = .ok (.aload_n 0, 1)) rfl rfl) ?_
  refine q_fa (ok_get (by decide +kernel : decode cX12_agrees0 72 = .ok (.getfield 95, 3)) rfl (rfl : vwCl[12]? = some (RX12, TX12, 58)) inX12 (by decide) g1045) ?_
  refine q_fa (ok_iload_n (by decide +kernel : decode cX12_agrees0 75 = .ok (.iload_n 2, 1)) rfl rfl) ?_
  refine q_fa (ok_iaload (by decide +kernel : decode cX12_agrees0 76 = .ok (.iaload, 1)) rfl) ?_
  refine q_fa (ok_bipush (by decide +kernel : decode cX12_agrees0 77 = .ok (.bipush 10, 2)) rfl (by decide +kernel)) ?_
  refine q_fa (ok_idiv (by decide +kernel : decode cX12_agrees0 79 = .ok (.idiv, 1)) rfl) ?_
  refine q_fa (ok_imul (by decide +kernel : decode cX12_agrees0 80 = .ok (.imul, 1)) rfl) ?_
  refine q_fa (ok_aload_n (by decide +kernel : decode cX12_agrees0 81 = .ok (.aload_n 0, 1)) rfl rfl) ?_
  refine q_fa (ok_get (by decide +kernel : decode cX12_agrees0 82 = .ok (.getfield 95, 3)) rfl (rfl : vwCl[12]? = some (RX12, TX12, 58)) inX12 (by decide) g1045) ?_
  refine q_fa (ok_iload_n (by decide +kernel : decode cX12_agrees0 85 = .ok (.iload_n 2, 1)) rfl rfl) ?_
  refine q_fa (ok_iaload (by decide +kernel : decode cX12_agrees0 86 = .ok (.iaload, 1)) rfl) ?_
  refine q_fa (ok_bipush (by decide +kernel : decode cX12_agrees0 87 = .ok (.bipush 10, 2)) rfl (by decide +kernel)) ?_
  refine q_fa (ok_irem (by decide +kernel : decode cX12_agrees0 89 = .ok (.irem, 1)) rfl) ?_
  refine q_fa (ok_iadd (by decide +kernel : decode cX12_agrees0 90 = .ok (.iadd, 1)) rfl) ?_
  refine q_fa (ok_if2ne (by decide +kernel : decode cX12_agrees0 91 = .ok (.if_icmp .ne 7, 3)) (by decide) rfl) ?_
  refine q_fa (ok_iconst (by decide +kernel : decode cX12_agrees0 94 = .ok (.iconst 1, 1)) rfl (by decide +kernel)) ?_
  refine q_fa (ok_goto (by decide +kernel : decode cX12_agrees0 95 = .ok (.goto 4, 3)) (by decide)) ?_
  refine q_fa (ok_iconst (by decide +kernel : decode cX12_agrees0 98 = .ok (.iconst 0, 1)) rfl (by decide +kernel)) ?_
  refine q_fa (ok_zret (by decide +kernel : decode cX12_agrees0 99 = .ok (.ireturn, 1)) rfl) ?_
  refine q_fa (ok_aload_n (by decide +kernel : decode cX12_agrees0 100 = .ok (.aload_n 0, 1)) rfl rfl) ?_
  refine q_fa (ok_iload_n (by decide +kernel : decode cX12_agrees0 101 = .ok (.iload_n 1, 1)) rfl rfl) ?_
  refine q_fa (ok_callV (by decide +kernel : decode cX12_agrees0 102 = .ok (.invokevirtual 262, 3)) rfl kX12_outOf.1 kX12_outOf.2.1 kX12_outOf.2.2.1 kX12_outOf.2.2.2.1 kX12_outOf.2.2.2.2 (rfl : vwCl[12]? = some (RX12, TX12, 58)) g1331 gs74 g1329) ?_
  refine q_fa (ok_bipush (by decide +kernel : decode cX12_agrees0 105 = .ok (.bipush (-2), 2)) rfl (by decide +kernel)) ?_
  refine q_fa (ok_if2ne (by decide +kernel : decode cX12_agrees0 107 = .ok (.if_icmp .ne 7, 3)) (by decide) rfl) ?_
  refine q_fa (ok_iconst (by decide +kernel : decode cX12_agrees0 110 = .ok (.iconst 1, 1)) rfl (by decide +kernel)) ?_
  refine q_fa (ok_goto (by decide +kernel : decode cX12_agrees0 111 = .ok (.goto 4, 3)) (by decide)) ?_
  refine q_fa (ok_iconst (by decide +kernel : decode cX12_agrees0 114 = .ok (.iconst 0, 1)) rfl (by decide +kernel)) ?_
  refine q_fa (ok_zret (by decide +kernel : decode cX12_agrees0 115 = .ok (.ireturn, 1)) rfl) ?_
  exact q_fa0
theorem exX12_agrees0 : ∃ t : Nat → qP, t = uX12_agrees0 := ⟨_, rfl⟩
noncomputable def tX12_agrees0 : Nat → qP := Classical.choose exX12_agrees0
theorem teX12_agrees0 : tX12_agrees0 = uX12_agrees0 := Classical.choose_spec exX12_agrees0
theorem sX12_agrees0 : q_Snd mX12_agrees0 tX12_agrees0 := by rw [teX12_agrees0]; exact suX12_agrees0
theorem tX12_agrees0_0 : tX12_agrees0 0 = oAl 0 1 := (congrFun teX12_agrees0 0).trans rfl
theorem tX12_agrees0_1 : tX12_agrees0 1 = oAl 0 2 := (congrFun teX12_agrees0 1).trans rfl
theorem tX12_agrees0_2 : tX12_agrees0 2 = oGet 12 39 5 := (congrFun teX12_agrees0 2).trans rfl
theorem tX12_agrees0_5 : tX12_agrees0 5 = oIl 2 6 := (congrFun teX12_agrees0 5).trans rfl
theorem tX12_agrees0_6 : tX12_agrees0 6 = oIald 7 := (congrFun teX12_agrees0 6).trans rfl
theorem tX12_agrees0_7 : tX12_agrees0 7 = oK (.int (nI 6)) 9 := (congrFun teX12_agrees0 7).trans rfl
theorem tX12_agrees0_9 : tX12_agrees0 9 = oCallV 12 mX12_take 2 12 := (congrFun teX12_agrees0 9).trans rfl
theorem tX12_agrees0_12 : tX12_agrees0 12 = oIs 3 13 := (congrFun teX12_agrees0 12).trans rfl
theorem tX12_agrees0_13 : tX12_agrees0 13 = oAl 0 14 := (congrFun teX12_agrees0 13).trans rfl
theorem tX12_agrees0_14 : tX12_agrees0 14 = oGet 12 40 17 := (congrFun teX12_agrees0 14).trans rfl
theorem tX12_agrees0_17 : tX12_agrees0 17 = oIl 2 18 := (congrFun teX12_agrees0 17).trans rfl
theorem tX12_agrees0_18 : tX12_agrees0 18 = oIald 19 := (congrFun teX12_agrees0 18).trans rfl
theorem tX12_agrees0_19 : tX12_agrees0 19 = oTab 0 [44, 58, 64] 100 := (congrFun teX12_agrees0 19).trans rfl
theorem tX12_agrees0_44 : tX12_agrees0 44 = oAl 0 45 := (congrFun teX12_agrees0 44).trans rfl
theorem tX12_agrees0_45 : tX12_agrees0 45 = oIl 1 46 := (congrFun teX12_agrees0 45).trans rfl
theorem tX12_agrees0_46 : tX12_agrees0 46 = oCallV 12 mX12_isFit 1 49 := (congrFun teX12_agrees0 46).trans rfl
theorem tX12_agrees0_49 : tX12_agrees0 49 = oIf1ne 56 52 := (congrFun teX12_agrees0 49).trans rfl
theorem tX12_agrees0_52 : tX12_agrees0 52 = oK (.int (nI 1)) 53 := (congrFun teX12_agrees0 52).trans rfl
theorem tX12_agrees0_53 : tX12_agrees0 53 = oGo 57 := (congrFun teX12_agrees0 53).trans rfl
theorem tX12_agrees0_56 : tX12_agrees0 56 = oK (.int (nI 0)) 57 := (congrFun teX12_agrees0 56).trans rfl
theorem tX12_agrees0_57 : tX12_agrees0 57 = oZret := (congrFun teX12_agrees0 57).trans rfl
theorem tX12_agrees0_58 : tX12_agrees0 58 = oAl 0 59 := (congrFun teX12_agrees0 58).trans rfl
theorem tX12_agrees0_59 : tX12_agrees0 59 = oIl 1 60 := (congrFun teX12_agrees0 59).trans rfl
theorem tX12_agrees0_60 : tX12_agrees0 60 = oCallV 12 mX12_isFit 1 63 := (congrFun teX12_agrees0 60).trans rfl
theorem tX12_agrees0_63 : tX12_agrees0 63 = oZret := (congrFun teX12_agrees0 63).trans rfl
theorem tX12_agrees0_64 : tX12_agrees0 64 = oAl 0 65 := (congrFun teX12_agrees0 64).trans rfl
theorem tX12_agrees0_65 : tX12_agrees0 65 = oIl 1 66 := (congrFun teX12_agrees0 65).trans rfl
theorem tX12_agrees0_66 : tX12_agrees0 66 = oCallV 12 mX12_outOf 1 69 := (congrFun teX12_agrees0 66).trans rfl
theorem tX12_agrees0_69 : tX12_agrees0 69 = oK (.int (nI 100)) 71 := (congrFun teX12_agrees0 69).trans rfl
theorem tX12_agrees0_71 : tX12_agrees0 71 = oAl 0 72 := (congrFun teX12_agrees0 71).trans rfl
theorem tX12_agrees0_72 : tX12_agrees0 72 = oGet 12 41 75 := (congrFun teX12_agrees0 72).trans rfl
theorem tX12_agrees0_75 : tX12_agrees0 75 = oIl 2 76 := (congrFun teX12_agrees0 75).trans rfl
theorem tX12_agrees0_76 : tX12_agrees0 76 = oIald 77 := (congrFun teX12_agrees0 76).trans rfl
theorem tX12_agrees0_77 : tX12_agrees0 77 = oK (.int (nI 10)) 79 := (congrFun teX12_agrees0 77).trans rfl
theorem tX12_agrees0_79 : tX12_agrees0 79 = oDiv 80 := (congrFun teX12_agrees0 79).trans rfl
theorem tX12_agrees0_80 : tX12_agrees0 80 = oMul 81 := (congrFun teX12_agrees0 80).trans rfl
theorem tX12_agrees0_81 : tX12_agrees0 81 = oAl 0 82 := (congrFun teX12_agrees0 81).trans rfl
theorem tX12_agrees0_82 : tX12_agrees0 82 = oGet 12 41 85 := (congrFun teX12_agrees0 82).trans rfl
theorem tX12_agrees0_85 : tX12_agrees0 85 = oIl 2 86 := (congrFun teX12_agrees0 85).trans rfl
theorem tX12_agrees0_86 : tX12_agrees0 86 = oIald 87 := (congrFun teX12_agrees0 86).trans rfl
theorem tX12_agrees0_87 : tX12_agrees0 87 = oK (.int (nI 10)) 89 := (congrFun teX12_agrees0 87).trans rfl
theorem tX12_agrees0_89 : tX12_agrees0 89 = oRem 90 := (congrFun teX12_agrees0 89).trans rfl
theorem tX12_agrees0_90 : tX12_agrees0 90 = oAdd 91 := (congrFun teX12_agrees0 90).trans rfl
theorem tX12_agrees0_91 : tX12_agrees0 91 = oIf2ne 98 94 := (congrFun teX12_agrees0 91).trans rfl
theorem tX12_agrees0_94 : tX12_agrees0 94 = oK (.int (nI 1)) 95 := (congrFun teX12_agrees0 94).trans rfl
theorem tX12_agrees0_95 : tX12_agrees0 95 = oGo 99 := (congrFun teX12_agrees0 95).trans rfl
theorem tX12_agrees0_98 : tX12_agrees0 98 = oK (.int (nI 0)) 99 := (congrFun teX12_agrees0 98).trans rfl
theorem tX12_agrees0_99 : tX12_agrees0 99 = oZret := (congrFun teX12_agrees0 99).trans rfl
theorem tX12_agrees0_100 : tX12_agrees0 100 = oAl 0 101 := (congrFun teX12_agrees0 100).trans rfl
theorem tX12_agrees0_101 : tX12_agrees0 101 = oIl 1 102 := (congrFun teX12_agrees0 101).trans rfl
theorem tX12_agrees0_102 : tX12_agrees0 102 = oCallV 12 mX12_outOf 1 105 := (congrFun teX12_agrees0 102).trans rfl
theorem tX12_agrees0_105 : tX12_agrees0 105 = oK (.int (-2)) 107 := (congrFun teX12_agrees0 105).trans rfl
theorem tX12_agrees0_107 : tX12_agrees0 107 = oIf2ne 114 110 := (congrFun teX12_agrees0 107).trans rfl
theorem tX12_agrees0_110 : tX12_agrees0 110 = oK (.int (nI 1)) 111 := (congrFun teX12_agrees0 110).trans rfl
theorem tX12_agrees0_111 : tX12_agrees0 111 = oGo 115 := (congrFun teX12_agrees0 111).trans rfl
theorem tX12_agrees0_114 : tX12_agrees0 114 = oK (.int (nI 0)) 115 := (congrFun teX12_agrees0 114).trans rfl
theorem tX12_agrees0_115 : tX12_agrees0 115 = oZret := (congrFun teX12_agrees0 115).trans rfl
def lX12_agrees : List (Nat × qP) := [(0, oAl 0 1), (1, oIl 1 2), (2, oCallV 12 mX12_has 1 5), (5, oIf1eq 16 8), (8, oAl 0 9), (9, oIl 2 10), (10, oCallV 12 mX12_isShowing 1 13), (13, oIf1ne 18 16), (16, oK (.int (-1)) 17), (17, oIret), (18, oAl 0 19), (19, oK (.int (nI 6000)) 22), (22, oPutI 12 10 25), (25, oAl 0 26), (26, oAl 0 27), (27, oIl 1 28), (28, oCallV 12 mX12_treeOf 1 31), (31, oIl 2 32), (32, oCallV 12 mX12_agrees0 2 35), (35, oIf1eq 42 38), (38, oK (.int (nI 1)) 39), (39, oGo 43), (42, oK (.int (nI 0)) 43), (43, oIret)]
def uX12_agrees : Nat → qP := q_tb lX12_agrees
set_option maxRecDepth 20000 in
theorem suX12_agrees : q_Snd mX12_agrees uX12_agrees := by
  refine q_tb_ok ?_
  unfold lX12_agrees
  refine q_fa (ok_aload_n (by decide +kernel : decode cX12_agrees 0 = .ok (.aload_n 0, 1)) rfl rfl) ?_
  refine q_fa (ok_iload_n (by decide +kernel : decode cX12_agrees 1 = .ok (.iload_n 1, 1)) rfl rfl) ?_
  refine q_fa (ok_callV (by decide +kernel : decode cX12_agrees 2 = .ok (.invokevirtual 243, 3)) rfl kX12_has.1 kX12_has.2.1 kX12_has.2.2.1 kX12_has.2.2.2.1 kX12_has.2.2.2.2 (rfl : vwCl[12]? = some (RX12, TX12, 58)) g1255 gs60 g1253) ?_
  refine q_fa (ok_if1eq (by decide +kernel : decode cX12_agrees 5 = .ok (.ifCond .eq 11, 3)) (by decide) rfl) ?_
  refine q_fa (ok_aload_n (by decide +kernel : decode cX12_agrees 8 = .ok (.aload_n 0, 1)) rfl rfl) ?_
  refine q_fa (ok_iload_n (by decide +kernel : decode cX12_agrees 9 = .ok (.iload_n 2, 1)) rfl rfl) ?_
  refine q_fa (ok_callV (by decide +kernel : decode cX12_agrees 10 = .ok (.invokevirtual 305, 3)) rfl kX12_isShowing.1 kX12_isShowing.2.1 kX12_isShowing.2.2.1 kX12_isShowing.2.2.2.1 kX12_isShowing.2.2.2.2 (rfl : vwCl[12]? = some (RX12, TX12, 58)) g1392 gs82 g1390) ?_
  refine q_fa (ok_if1ne (by decide +kernel : decode cX12_agrees 13 = .ok (.ifCond .ne 5, 3)) (by decide) rfl) ?_
  refine q_fa (ok_iconst (by decide +kernel : decode cX12_agrees 16 = .ok (.iconst (-1), 1)) rfl (by decide +kernel)) ?_
  refine q_fa (ok_iret (by decide +kernel : decode cX12_agrees 17 = .ok (.ireturn, 1)) rfl) ?_
  refine q_fa (ok_aload_n (by decide +kernel : decode cX12_agrees 18 = .ok (.aload_n 0, 1)) rfl rfl) ?_
  refine q_fa (ok_sipush (by decide +kernel : decode cX12_agrees 19 = .ok (.sipush 6000, 3)) rfl (by decide +kernel)) ?_
  refine q_fa (ok_putI tyX12 (by decide +kernel : decode cX12_agrees 22 = .ok (.putfield 34, 3)) rfl (rfl : vwCl[12]? = some (RX12, TX12, 58)) inX12 tyX12_ok nmX12 (by decide) g1014 (Or.inl rfl) (by decide +kernel)) ?_
  refine q_fa (ok_aload_n (by decide +kernel : decode cX12_agrees 25 = .ok (.aload_n 0, 1)) rfl rfl) ?_
  refine q_fa (ok_aload_n (by decide +kernel : decode cX12_agrees 26 = .ok (.aload_n 0, 1)) rfl rfl) ?_
  refine q_fa (ok_iload_n (by decide +kernel : decode cX12_agrees 27 = .ok (.iload_n 1, 1)) rfl rfl) ?_
  refine q_fa (ok_callV (by decide +kernel : decode cX12_agrees 28 = .ok (.invokevirtual 246, 3)) rfl kX12_treeOf.1 kX12_treeOf.2.1 kX12_treeOf.2.2.1 kX12_treeOf.2.2.2.1 kX12_treeOf.2.2.2.2 (rfl : vwCl[12]? = some (RX12, TX12, 58)) g1259 gs61 g1257) ?_
  refine q_fa (ok_iload_n (by decide +kernel : decode cX12_agrees 31 = .ok (.iload_n 2, 1)) rfl rfl) ?_
  refine q_fa (ok_callV (by decide +kernel : decode cX12_agrees 32 = .ok (.invokevirtual 308, 3)) rfl kX12_agrees0.1 kX12_agrees0.2.1 kX12_agrees0.2.2.1 kX12_agrees0.2.2.2.1 kX12_agrees0.2.2.2.2 (rfl : vwCl[12]? = some (RX12, TX12, 58)) g1400 gs83 g1398) ?_
  refine q_fa (ok_if1eq (by decide +kernel : decode cX12_agrees 35 = .ok (.ifCond .eq 7, 3)) (by decide) rfl) ?_
  refine q_fa (ok_iconst (by decide +kernel : decode cX12_agrees 38 = .ok (.iconst 1, 1)) rfl (by decide +kernel)) ?_
  refine q_fa (ok_goto (by decide +kernel : decode cX12_agrees 39 = .ok (.goto 4, 3)) (by decide)) ?_
  refine q_fa (ok_iconst (by decide +kernel : decode cX12_agrees 42 = .ok (.iconst 0, 1)) rfl (by decide +kernel)) ?_
  refine q_fa (ok_iret (by decide +kernel : decode cX12_agrees 43 = .ok (.ireturn, 1)) rfl) ?_
  exact q_fa0
theorem exX12_agrees : ∃ t : Nat → qP, t = uX12_agrees := ⟨_, rfl⟩
noncomputable def tX12_agrees : Nat → qP := Classical.choose exX12_agrees
theorem teX12_agrees : tX12_agrees = uX12_agrees := Classical.choose_spec exX12_agrees
theorem sX12_agrees : q_Snd mX12_agrees tX12_agrees := by rw [teX12_agrees]; exact suX12_agrees
theorem tX12_agrees_0 : tX12_agrees 0 = oAl 0 1 := (congrFun teX12_agrees 0).trans rfl
theorem tX12_agrees_1 : tX12_agrees 1 = oIl 1 2 := (congrFun teX12_agrees 1).trans rfl
theorem tX12_agrees_2 : tX12_agrees 2 = oCallV 12 mX12_has 1 5 := (congrFun teX12_agrees 2).trans rfl
theorem tX12_agrees_5 : tX12_agrees 5 = oIf1eq 16 8 := (congrFun teX12_agrees 5).trans rfl
theorem tX12_agrees_8 : tX12_agrees 8 = oAl 0 9 := (congrFun teX12_agrees 8).trans rfl
theorem tX12_agrees_9 : tX12_agrees 9 = oIl 2 10 := (congrFun teX12_agrees 9).trans rfl
theorem tX12_agrees_10 : tX12_agrees 10 = oCallV 12 mX12_isShowing 1 13 := (congrFun teX12_agrees 10).trans rfl
theorem tX12_agrees_13 : tX12_agrees 13 = oIf1ne 18 16 := (congrFun teX12_agrees 13).trans rfl
theorem tX12_agrees_16 : tX12_agrees 16 = oK (.int (-1)) 17 := (congrFun teX12_agrees 16).trans rfl
theorem tX12_agrees_17 : tX12_agrees 17 = oIret := (congrFun teX12_agrees 17).trans rfl
theorem tX12_agrees_18 : tX12_agrees 18 = oAl 0 19 := (congrFun teX12_agrees 18).trans rfl
theorem tX12_agrees_19 : tX12_agrees 19 = oK (.int (nI 6000)) 22 := (congrFun teX12_agrees 19).trans rfl
theorem tX12_agrees_22 : tX12_agrees 22 = oPutI 12 10 25 := (congrFun teX12_agrees 22).trans rfl
theorem tX12_agrees_25 : tX12_agrees 25 = oAl 0 26 := (congrFun teX12_agrees 25).trans rfl
theorem tX12_agrees_26 : tX12_agrees 26 = oAl 0 27 := (congrFun teX12_agrees 26).trans rfl
theorem tX12_agrees_27 : tX12_agrees 27 = oIl 1 28 := (congrFun teX12_agrees 27).trans rfl
theorem tX12_agrees_28 : tX12_agrees 28 = oCallV 12 mX12_treeOf 1 31 := (congrFun teX12_agrees 28).trans rfl
theorem tX12_agrees_31 : tX12_agrees 31 = oIl 2 32 := (congrFun teX12_agrees 31).trans rfl
theorem tX12_agrees_32 : tX12_agrees 32 = oCallV 12 mX12_agrees0 2 35 := (congrFun teX12_agrees 32).trans rfl
theorem tX12_agrees_35 : tX12_agrees 35 = oIf1eq 42 38 := (congrFun teX12_agrees 35).trans rfl
theorem tX12_agrees_38 : tX12_agrees 38 = oK (.int (nI 1)) 39 := (congrFun teX12_agrees 38).trans rfl
theorem tX12_agrees_39 : tX12_agrees 39 = oGo 43 := (congrFun teX12_agrees 39).trans rfl
theorem tX12_agrees_42 : tX12_agrees 42 = oK (.int (nI 0)) 43 := (congrFun teX12_agrees 42).trans rfl
theorem tX12_agrees_43 : tX12_agrees 43 = oIret := (congrFun teX12_agrees 43).trans rfl
def lX12_paidBy : List (Nat × qP) := [(0, oK (.int (nI 0)) 1), (1, oIs 2 2), (2, oK (.int (nI 0)) 3), (3, oIs 3 4), (4, oIl 3 5), (5, oAl 0 6), (6, oGet 12 38 9), (9, oIf2ge 49 12), (12, oIl 2 13), (13, oAl 0 14), (14, oGet 12 43 17), (17, oIl 3 18), (18, oZald 19), (19, oIf1ne 31 22), (22, oAl 0 23), (23, oIl 1 24), (24, oIl 3 25), (25, oCallV 12 mX12_agrees0 2 28), (28, oIf1eq 35 31), (31, oK (.int (nI 0)) 32), (32, oGo 41), (35, oAl 0 36), (36, oGet 12 42 39), (39, oIl 3 40), (40, oIald 41), (41, oAdd 42), (42, oIs 2 43), (43, oInc 3 (nI 1) 46), (46, oGo 4), (49, oIl 2 50), (50, oIret)]
def uX12_paidBy : Nat → qP := q_tb lX12_paidBy
set_option maxRecDepth 20000 in
theorem suX12_paidBy : q_Snd mX12_paidBy uX12_paidBy := by
  refine q_tb_ok ?_
  unfold lX12_paidBy
  refine q_fa (ok_iconst (by decide +kernel : decode cX12_paidBy 0 = .ok (.iconst 0, 1)) rfl (by decide +kernel)) ?_
  refine q_fa (ok_istore_n (by decide +kernel : decode cX12_paidBy 1 = .ok (.istore_n 2, 1)) rfl rfl (by decide)) ?_
  refine q_fa (ok_iconst (by decide +kernel : decode cX12_paidBy 2 = .ok (.iconst 0, 1)) rfl (by decide +kernel)) ?_
  refine q_fa (ok_istore_n (by decide +kernel : decode cX12_paidBy 3 = .ok (.istore_n 3, 1)) rfl rfl (by decide)) ?_
  refine q_fa (ok_iload_n (by decide +kernel : decode cX12_paidBy 4 = .ok (.iload_n 3, 1)) rfl rfl) ?_
  refine q_fa (ok_aload_n (by decide +kernel : decode cX12_paidBy 5 = .ok (.aload_n 0, 1)) rfl rfl) ?_
  refine q_fa (ok_get (by decide +kernel : decode cX12_paidBy 6 = .ok (.getfield 302, 3)) rfl (rfl : vwCl[12]? = some (RX12, TX12, 58)) inX12 (by decide) g1042) ?_
  refine q_fa (ok_if2ge (by decide +kernel : decode cX12_paidBy 9 = .ok (.if_icmp .ge 40, 3)) (by decide) rfl) ?_
  refine q_fa (ok_iload_n (by decide +kernel : decode cX12_paidBy 12 = .ok (.iload_n 2, 1)) rfl rfl) ?_
  refine q_fa (ok_aload_n (by decide +kernel : decode cX12_paidBy 13 = .ok (.aload_n 0, 1)) rfl rfl) ?_
  refine q_fa (ok_get (by decide +kernel : decode cX12_paidBy 14 = .ok (.getfield 101, 3)) rfl (rfl : vwCl[12]? = some (RX12, TX12, 58)) inX12 (by decide) g1047) ?_
  refine q_fa (ok_iload_n (by decide +kernel : decode cX12_paidBy 17 = .ok (.iload_n 3, 1)) rfl rfl) ?_
  refine q_fa (ok_zaload (by decide +kernel : decode cX12_paidBy 18 = .ok (.baload, 1)) rfl) ?_
  refine q_fa (ok_if1ne (by decide +kernel : decode cX12_paidBy 19 = .ok (.ifCond .ne 12, 3)) (by decide) rfl) ?_
  refine q_fa (ok_aload_n (by decide +kernel : decode cX12_paidBy 22 = .ok (.aload_n 0, 1)) rfl rfl) ?_
  refine q_fa (ok_iload_n (by decide +kernel : decode cX12_paidBy 23 = .ok (.iload_n 1, 1)) rfl rfl) ?_
  refine q_fa (ok_iload_n (by decide +kernel : decode cX12_paidBy 24 = .ok (.iload_n 3, 1)) rfl rfl) ?_
  refine q_fa (ok_callV (by decide +kernel : decode cX12_paidBy 25 = .ok (.invokevirtual 308, 3)) rfl kX12_agrees0.1 kX12_agrees0.2.1 kX12_agrees0.2.2.1 kX12_agrees0.2.2.2.1 kX12_agrees0.2.2.2.2 (rfl : vwCl[12]? = some (RX12, TX12, 58)) g1400 gs83 g1398) ?_
  refine q_fa (ok_if1eq (by decide +kernel : decode cX12_paidBy 28 = .ok (.ifCond .eq 7, 3)) (by decide) rfl) ?_
  refine q_fa (ok_iconst (by decide +kernel : decode cX12_paidBy 31 = .ok (.iconst 0, 1)) rfl (by decide +kernel)) ?_
  refine q_fa (ok_goto (by decide +kernel : decode cX12_paidBy 32 = .ok (.goto 9, 3)) (by decide)) ?_
  refine q_fa (ok_aload_n (by decide +kernel : decode cX12_paidBy 35 = .ok (.aload_n 0, 1)) rfl rfl) ?_
  refine q_fa (ok_get (by decide +kernel : decode cX12_paidBy 36 = .ok (.getfield 98, 3)) rfl (rfl : vwCl[12]? = some (RX12, TX12, 58)) inX12 (by decide) g1046) ?_
  refine q_fa (ok_iload_n (by decide +kernel : decode cX12_paidBy 39 = .ok (.iload_n 3, 1)) rfl rfl) ?_
  refine q_fa (ok_iaload (by decide +kernel : decode cX12_paidBy 40 = .ok (.iaload, 1)) rfl) ?_
  refine q_fa (ok_iadd (by decide +kernel : decode cX12_paidBy 41 = .ok (.iadd, 1)) rfl) ?_
  refine q_fa (ok_istore_n (by decide +kernel : decode cX12_paidBy 42 = .ok (.istore_n 2, 1)) rfl rfl (by decide)) ?_
  refine q_fa (ok_iinc (by decide +kernel : decode cX12_paidBy 43 = .ok (.iinc 3 1, 3)) rfl (by decide +kernel) (by decide)) ?_
  refine q_fa (ok_goto (by decide +kernel : decode cX12_paidBy 46 = .ok (.goto (-42), 3)) (by decide)) ?_
  refine q_fa (ok_iload_n (by decide +kernel : decode cX12_paidBy 49 = .ok (.iload_n 2, 1)) rfl rfl) ?_
  refine q_fa (ok_iret (by decide +kernel : decode cX12_paidBy 50 = .ok (.ireturn, 1)) rfl) ?_
  exact q_fa0
theorem exX12_paidBy : ∃ t : Nat → qP, t = uX12_paidBy := ⟨_, rfl⟩
noncomputable def tX12_paidBy : Nat → qP := Classical.choose exX12_paidBy
theorem teX12_paidBy : tX12_paidBy = uX12_paidBy := Classical.choose_spec exX12_paidBy
theorem sX12_paidBy : q_Snd mX12_paidBy tX12_paidBy := by rw [teX12_paidBy]; exact suX12_paidBy
theorem tX12_paidBy_0 : tX12_paidBy 0 = oK (.int (nI 0)) 1 := (congrFun teX12_paidBy 0).trans rfl
theorem tX12_paidBy_1 : tX12_paidBy 1 = oIs 2 2 := (congrFun teX12_paidBy 1).trans rfl
theorem tX12_paidBy_2 : tX12_paidBy 2 = oK (.int (nI 0)) 3 := (congrFun teX12_paidBy 2).trans rfl
theorem tX12_paidBy_3 : tX12_paidBy 3 = oIs 3 4 := (congrFun teX12_paidBy 3).trans rfl
theorem tX12_paidBy_4 : tX12_paidBy 4 = oIl 3 5 := (congrFun teX12_paidBy 4).trans rfl
theorem tX12_paidBy_5 : tX12_paidBy 5 = oAl 0 6 := (congrFun teX12_paidBy 5).trans rfl
theorem tX12_paidBy_6 : tX12_paidBy 6 = oGet 12 38 9 := (congrFun teX12_paidBy 6).trans rfl
theorem tX12_paidBy_9 : tX12_paidBy 9 = oIf2ge 49 12 := (congrFun teX12_paidBy 9).trans rfl
theorem tX12_paidBy_12 : tX12_paidBy 12 = oIl 2 13 := (congrFun teX12_paidBy 12).trans rfl
theorem tX12_paidBy_13 : tX12_paidBy 13 = oAl 0 14 := (congrFun teX12_paidBy 13).trans rfl
theorem tX12_paidBy_14 : tX12_paidBy 14 = oGet 12 43 17 := (congrFun teX12_paidBy 14).trans rfl
theorem tX12_paidBy_17 : tX12_paidBy 17 = oIl 3 18 := (congrFun teX12_paidBy 17).trans rfl
theorem tX12_paidBy_18 : tX12_paidBy 18 = oZald 19 := (congrFun teX12_paidBy 18).trans rfl
theorem tX12_paidBy_19 : tX12_paidBy 19 = oIf1ne 31 22 := (congrFun teX12_paidBy 19).trans rfl
theorem tX12_paidBy_22 : tX12_paidBy 22 = oAl 0 23 := (congrFun teX12_paidBy 22).trans rfl
theorem tX12_paidBy_23 : tX12_paidBy 23 = oIl 1 24 := (congrFun teX12_paidBy 23).trans rfl
theorem tX12_paidBy_24 : tX12_paidBy 24 = oIl 3 25 := (congrFun teX12_paidBy 24).trans rfl
theorem tX12_paidBy_25 : tX12_paidBy 25 = oCallV 12 mX12_agrees0 2 28 := (congrFun teX12_paidBy 25).trans rfl
theorem tX12_paidBy_28 : tX12_paidBy 28 = oIf1eq 35 31 := (congrFun teX12_paidBy 28).trans rfl
theorem tX12_paidBy_31 : tX12_paidBy 31 = oK (.int (nI 0)) 32 := (congrFun teX12_paidBy 31).trans rfl
theorem tX12_paidBy_32 : tX12_paidBy 32 = oGo 41 := (congrFun teX12_paidBy 32).trans rfl
theorem tX12_paidBy_35 : tX12_paidBy 35 = oAl 0 36 := (congrFun teX12_paidBy 35).trans rfl
theorem tX12_paidBy_36 : tX12_paidBy 36 = oGet 12 42 39 := (congrFun teX12_paidBy 36).trans rfl
theorem tX12_paidBy_39 : tX12_paidBy 39 = oIl 3 40 := (congrFun teX12_paidBy 39).trans rfl
theorem tX12_paidBy_40 : tX12_paidBy 40 = oIald 41 := (congrFun teX12_paidBy 40).trans rfl
theorem tX12_paidBy_41 : tX12_paidBy 41 = oAdd 42 := (congrFun teX12_paidBy 41).trans rfl
theorem tX12_paidBy_42 : tX12_paidBy 42 = oIs 2 43 := (congrFun teX12_paidBy 42).trans rfl
theorem tX12_paidBy_43 : tX12_paidBy 43 = oInc 3 (nI 1) 46 := (congrFun teX12_paidBy 43).trans rfl
theorem tX12_paidBy_46 : tX12_paidBy 46 = oGo 4 := (congrFun teX12_paidBy 46).trans rfl
theorem tX12_paidBy_49 : tX12_paidBy 49 = oIl 2 50 := (congrFun teX12_paidBy 49).trans rfl
theorem tX12_paidBy_50 : tX12_paidBy 50 = oIret := (congrFun teX12_paidBy 50).trans rfl
def lX12_paid : List (Nat × qP) := [(0, oAl 0 1), (1, oIl 1 2), (2, oCallV 12 mX12_has 1 5), (5, oIf1ne 10 8), (8, oK (.int (-1)) 9), (9, oIret), (10, oAl 0 11), (11, oK (.int (nI 6000)) 14), (14, oPutI 12 10 17), (17, oAl 0 18), (18, oAl 0 19), (19, oIl 1 20), (20, oCallV 12 mX12_treeOf 1 23), (23, oCallV 12 mX12_paidBy 1 26), (26, oIret)]
def uX12_paid : Nat → qP := q_tb lX12_paid
set_option maxRecDepth 20000 in
theorem suX12_paid : q_Snd mX12_paid uX12_paid := by
  refine q_tb_ok ?_
  unfold lX12_paid
  refine q_fa (ok_aload_n (by decide +kernel : decode cX12_paid 0 = .ok (.aload_n 0, 1)) rfl rfl) ?_
  refine q_fa (ok_iload_n (by decide +kernel : decode cX12_paid 1 = .ok (.iload_n 1, 1)) rfl rfl) ?_
  refine q_fa (ok_callV (by decide +kernel : decode cX12_paid 2 = .ok (.invokevirtual 243, 3)) rfl kX12_has.1 kX12_has.2.1 kX12_has.2.2.1 kX12_has.2.2.2.1 kX12_has.2.2.2.2 (rfl : vwCl[12]? = some (RX12, TX12, 58)) g1255 gs60 g1253) ?_
  refine q_fa (ok_if1ne (by decide +kernel : decode cX12_paid 5 = .ok (.ifCond .ne 5, 3)) (by decide) rfl) ?_
  refine q_fa (ok_iconst (by decide +kernel : decode cX12_paid 8 = .ok (.iconst (-1), 1)) rfl (by decide +kernel)) ?_
  refine q_fa (ok_iret (by decide +kernel : decode cX12_paid 9 = .ok (.ireturn, 1)) rfl) ?_
  refine q_fa (ok_aload_n (by decide +kernel : decode cX12_paid 10 = .ok (.aload_n 0, 1)) rfl rfl) ?_
  refine q_fa (ok_sipush (by decide +kernel : decode cX12_paid 11 = .ok (.sipush 6000, 3)) rfl (by decide +kernel)) ?_
  refine q_fa (ok_putI tyX12 (by decide +kernel : decode cX12_paid 14 = .ok (.putfield 34, 3)) rfl (rfl : vwCl[12]? = some (RX12, TX12, 58)) inX12 tyX12_ok nmX12 (by decide) g1014 (Or.inl rfl) (by decide +kernel)) ?_
  refine q_fa (ok_aload_n (by decide +kernel : decode cX12_paid 17 = .ok (.aload_n 0, 1)) rfl rfl) ?_
  refine q_fa (ok_aload_n (by decide +kernel : decode cX12_paid 18 = .ok (.aload_n 0, 1)) rfl rfl) ?_
  refine q_fa (ok_iload_n (by decide +kernel : decode cX12_paid 19 = .ok (.iload_n 1, 1)) rfl rfl) ?_
  refine q_fa (ok_callV (by decide +kernel : decode cX12_paid 20 = .ok (.invokevirtual 246, 3)) rfl kX12_treeOf.1 kX12_treeOf.2.1 kX12_treeOf.2.2.1 kX12_treeOf.2.2.2.1 kX12_treeOf.2.2.2.2 (rfl : vwCl[12]? = some (RX12, TX12, 58)) g1259 gs61 g1257) ?_
  refine q_fa (ok_callV (by decide +kernel : decode cX12_paid 23 = .ok (.invokevirtual 311, 3)) rfl kX12_paidBy.1 kX12_paidBy.2.1 kX12_paidBy.2.2.1 kX12_paidBy.2.2.2.1 kX12_paidBy.2.2.2.2 (rfl : vwCl[12]? = some (RX12, TX12, 58)) g1408 gs84 g1406) ?_
  refine q_fa (ok_iret (by decide +kernel : decode cX12_paid 26 = .ok (.ireturn, 1)) rfl) ?_
  exact q_fa0
theorem exX12_paid : ∃ t : Nat → qP, t = uX12_paid := ⟨_, rfl⟩
noncomputable def tX12_paid : Nat → qP := Classical.choose exX12_paid
theorem teX12_paid : tX12_paid = uX12_paid := Classical.choose_spec exX12_paid
theorem sX12_paid : q_Snd mX12_paid tX12_paid := by rw [teX12_paid]; exact suX12_paid
theorem tX12_paid_0 : tX12_paid 0 = oAl 0 1 := (congrFun teX12_paid 0).trans rfl
theorem tX12_paid_1 : tX12_paid 1 = oIl 1 2 := (congrFun teX12_paid 1).trans rfl
theorem tX12_paid_2 : tX12_paid 2 = oCallV 12 mX12_has 1 5 := (congrFun teX12_paid 2).trans rfl
theorem tX12_paid_5 : tX12_paid 5 = oIf1ne 10 8 := (congrFun teX12_paid 5).trans rfl
theorem tX12_paid_8 : tX12_paid 8 = oK (.int (-1)) 9 := (congrFun teX12_paid 8).trans rfl
theorem tX12_paid_9 : tX12_paid 9 = oIret := (congrFun teX12_paid 9).trans rfl
theorem tX12_paid_10 : tX12_paid 10 = oAl 0 11 := (congrFun teX12_paid 10).trans rfl
theorem tX12_paid_11 : tX12_paid 11 = oK (.int (nI 6000)) 14 := (congrFun teX12_paid 11).trans rfl
theorem tX12_paid_14 : tX12_paid 14 = oPutI 12 10 17 := (congrFun teX12_paid 14).trans rfl
theorem tX12_paid_17 : tX12_paid 17 = oAl 0 18 := (congrFun teX12_paid 17).trans rfl
theorem tX12_paid_18 : tX12_paid 18 = oAl 0 19 := (congrFun teX12_paid 18).trans rfl
theorem tX12_paid_19 : tX12_paid 19 = oIl 1 20 := (congrFun teX12_paid 19).trans rfl
theorem tX12_paid_20 : tX12_paid 20 = oCallV 12 mX12_treeOf 1 23 := (congrFun teX12_paid 20).trans rfl
theorem tX12_paid_23 : tX12_paid 23 = oCallV 12 mX12_paidBy 1 26 := (congrFun teX12_paid 23).trans rfl
theorem tX12_paid_26 : tX12_paid 26 = oIret := (congrFun teX12_paid 26).trans rfl
def lX12_number : List (Nat × qP) := [(0, oAl 0 1), (1, oGet 12 47 4), (4, oK (.int (nI 0)) 5), (5, oIald 6), (6, oIf1le 10 9), (9, oVret), (10, oK (.int (nI 0)) 11), (11, oIs 1 12), (12, oK (.int (nI 1)) 13), (13, oIs 2 14), (14, oK (.int (nI 0)) 15), (15, oIs 3 16), (16, oIl 3 17), (17, oK (.int (nI 5)) 18), (18, oIf2ge 59 21), (21, oIl 2 22), (22, oIs 4 24), (24, oIl 4 26), (26, oK (.int (nI 2)) 27), (27, oIl 2 28), (28, oMul 29), (29, oIf2ge 49 32), (32, oAl 0 33), (33, oGet 12 47 36), (36, oIl 1 37), (37, oIl 4 39), (39, oIast 40), (40, oInc 1 (nI 1) 43), (43, oInc 4 (nI 1) 46), (46, oGo 24), (49, oIl 2 50), (50, oK (.int (nI 3)) 51), (51, oMul 52), (52, oIs 2 53), (53, oInc 3 (nI 1) 56), (56, oGo 16), (59, oVret)]
def uX12_number : Nat → qP := q_tb lX12_number
set_option maxRecDepth 20000 in
theorem suX12_number : q_Snd mX12_number uX12_number := by
  refine q_tb_ok ?_
  unfold lX12_number
  refine q_fa (ok_aload_n (by decide +kernel : decode cX12_number 0 = .ok (.aload_n 0, 1)) rfl rfl) ?_
  refine q_fa (ok_get (by decide +kernel : decode cX12_number 1 = .ok (.getfield 114, 3)) rfl (rfl : vwCl[12]? = some (RX12, TX12, 58)) inX12 (by decide) g1051) ?_
  refine q_fa (ok_iconst (by decide +kernel : decode cX12_number 4 = .ok (.iconst 0, 1)) rfl (by decide +kernel)) ?_
  refine q_fa (ok_iaload (by decide +kernel : decode cX12_number 5 = .ok (.iaload, 1)) rfl) ?_
  refine q_fa (ok_if1le (by decide +kernel : decode cX12_number 6 = .ok (.ifCond .le 4, 3)) (by decide) rfl) ?_
  refine q_fa (ok_vret (by decide +kernel : decode cX12_number 9 = .ok (.return_, 1)) rfl) ?_
  refine q_fa (ok_iconst (by decide +kernel : decode cX12_number 10 = .ok (.iconst 0, 1)) rfl (by decide +kernel)) ?_
  refine q_fa (ok_istore_n (by decide +kernel : decode cX12_number 11 = .ok (.istore_n 1, 1)) rfl rfl (by decide)) ?_
  refine q_fa (ok_iconst (by decide +kernel : decode cX12_number 12 = .ok (.iconst 1, 1)) rfl (by decide +kernel)) ?_
  refine q_fa (ok_istore_n (by decide +kernel : decode cX12_number 13 = .ok (.istore_n 2, 1)) rfl rfl (by decide)) ?_
  refine q_fa (ok_iconst (by decide +kernel : decode cX12_number 14 = .ok (.iconst 0, 1)) rfl (by decide +kernel)) ?_
  refine q_fa (ok_istore_n (by decide +kernel : decode cX12_number 15 = .ok (.istore_n 3, 1)) rfl rfl (by decide)) ?_
  refine q_fa (ok_iload_n (by decide +kernel : decode cX12_number 16 = .ok (.iload_n 3, 1)) rfl rfl) ?_
  refine q_fa (ok_iconst (by decide +kernel : decode cX12_number 17 = .ok (.iconst 5, 1)) rfl (by decide +kernel)) ?_
  refine q_fa (ok_if2ge (by decide +kernel : decode cX12_number 18 = .ok (.if_icmp .ge 41, 3)) (by decide) rfl) ?_
  refine q_fa (ok_iload_n (by decide +kernel : decode cX12_number 21 = .ok (.iload_n 2, 1)) rfl rfl) ?_
  refine q_fa (ok_istore (by decide +kernel : decode cX12_number 22 = .ok (.istore 4, 2)) rfl (by decide)) ?_
  refine q_fa (ok_iload (by decide +kernel : decode cX12_number 24 = .ok (.iload 4, 2)) rfl) ?_
  refine q_fa (ok_iconst (by decide +kernel : decode cX12_number 26 = .ok (.iconst 2, 1)) rfl (by decide +kernel)) ?_
  refine q_fa (ok_iload_n (by decide +kernel : decode cX12_number 27 = .ok (.iload_n 2, 1)) rfl rfl) ?_
  refine q_fa (ok_imul (by decide +kernel : decode cX12_number 28 = .ok (.imul, 1)) rfl) ?_
  refine q_fa (ok_if2ge (by decide +kernel : decode cX12_number 29 = .ok (.if_icmp .ge 20, 3)) (by decide) rfl) ?_
  refine q_fa (ok_aload_n (by decide +kernel : decode cX12_number 32 = .ok (.aload_n 0, 1)) rfl rfl) ?_
  refine q_fa (ok_get (by decide +kernel : decode cX12_number 33 = .ok (.getfield 114, 3)) rfl (rfl : vwCl[12]? = some (RX12, TX12, 58)) inX12 (by decide) g1051) ?_
  refine q_fa (ok_iload_n (by decide +kernel : decode cX12_number 36 = .ok (.iload_n 1, 1)) rfl rfl) ?_
  refine q_fa (ok_iload (by decide +kernel : decode cX12_number 37 = .ok (.iload 4, 2)) rfl) ?_
  refine q_fa (ok_iastore (by decide +kernel : decode cX12_number 39 = .ok (.iastore, 1)) rfl) ?_
  refine q_fa (ok_iinc (by decide +kernel : decode cX12_number 40 = .ok (.iinc 1 1, 3)) rfl (by decide +kernel) (by decide)) ?_
  refine q_fa (ok_iinc (by decide +kernel : decode cX12_number 43 = .ok (.iinc 4 1, 3)) rfl (by decide +kernel) (by decide)) ?_
  refine q_fa (ok_goto (by decide +kernel : decode cX12_number 46 = .ok (.goto (-22), 3)) (by decide)) ?_
  refine q_fa (ok_iload_n (by decide +kernel : decode cX12_number 49 = .ok (.iload_n 2, 1)) rfl rfl) ?_
  refine q_fa (ok_iconst (by decide +kernel : decode cX12_number 50 = .ok (.iconst 3, 1)) rfl (by decide +kernel)) ?_
  refine q_fa (ok_imul (by decide +kernel : decode cX12_number 51 = .ok (.imul, 1)) rfl) ?_
  refine q_fa (ok_istore_n (by decide +kernel : decode cX12_number 52 = .ok (.istore_n 2, 1)) rfl rfl (by decide)) ?_
  refine q_fa (ok_iinc (by decide +kernel : decode cX12_number 53 = .ok (.iinc 3 1, 3)) rfl (by decide +kernel) (by decide)) ?_
  refine q_fa (ok_goto (by decide +kernel : decode cX12_number 56 = .ok (.goto (-40), 3)) (by decide)) ?_
  refine q_fa (ok_vret (by decide +kernel : decode cX12_number 59 = .ok (.return_, 1)) rfl) ?_
  exact q_fa0
theorem exX12_number : ∃ t : Nat → qP, t = uX12_number := ⟨_, rfl⟩
noncomputable def tX12_number : Nat → qP := Classical.choose exX12_number
theorem teX12_number : tX12_number = uX12_number := Classical.choose_spec exX12_number
theorem sX12_number : q_Snd mX12_number tX12_number := by rw [teX12_number]; exact suX12_number
theorem tX12_number_0 : tX12_number 0 = oAl 0 1 := (congrFun teX12_number 0).trans rfl
theorem tX12_number_1 : tX12_number 1 = oGet 12 47 4 := (congrFun teX12_number 1).trans rfl
theorem tX12_number_4 : tX12_number 4 = oK (.int (nI 0)) 5 := (congrFun teX12_number 4).trans rfl
theorem tX12_number_5 : tX12_number 5 = oIald 6 := (congrFun teX12_number 5).trans rfl
theorem tX12_number_6 : tX12_number 6 = oIf1le 10 9 := (congrFun teX12_number 6).trans rfl
theorem tX12_number_9 : tX12_number 9 = oVret := (congrFun teX12_number 9).trans rfl
theorem tX12_number_10 : tX12_number 10 = oK (.int (nI 0)) 11 := (congrFun teX12_number 10).trans rfl
theorem tX12_number_11 : tX12_number 11 = oIs 1 12 := (congrFun teX12_number 11).trans rfl
theorem tX12_number_12 : tX12_number 12 = oK (.int (nI 1)) 13 := (congrFun teX12_number 12).trans rfl
theorem tX12_number_13 : tX12_number 13 = oIs 2 14 := (congrFun teX12_number 13).trans rfl
theorem tX12_number_14 : tX12_number 14 = oK (.int (nI 0)) 15 := (congrFun teX12_number 14).trans rfl
theorem tX12_number_15 : tX12_number 15 = oIs 3 16 := (congrFun teX12_number 15).trans rfl
theorem tX12_number_16 : tX12_number 16 = oIl 3 17 := (congrFun teX12_number 16).trans rfl
theorem tX12_number_17 : tX12_number 17 = oK (.int (nI 5)) 18 := (congrFun teX12_number 17).trans rfl
theorem tX12_number_18 : tX12_number 18 = oIf2ge 59 21 := (congrFun teX12_number 18).trans rfl
theorem tX12_number_21 : tX12_number 21 = oIl 2 22 := (congrFun teX12_number 21).trans rfl
theorem tX12_number_22 : tX12_number 22 = oIs 4 24 := (congrFun teX12_number 22).trans rfl
theorem tX12_number_24 : tX12_number 24 = oIl 4 26 := (congrFun teX12_number 24).trans rfl
theorem tX12_number_26 : tX12_number 26 = oK (.int (nI 2)) 27 := (congrFun teX12_number 26).trans rfl
theorem tX12_number_27 : tX12_number 27 = oIl 2 28 := (congrFun teX12_number 27).trans rfl
theorem tX12_number_28 : tX12_number 28 = oMul 29 := (congrFun teX12_number 28).trans rfl
theorem tX12_number_29 : tX12_number 29 = oIf2ge 49 32 := (congrFun teX12_number 29).trans rfl
theorem tX12_number_32 : tX12_number 32 = oAl 0 33 := (congrFun teX12_number 32).trans rfl
theorem tX12_number_33 : tX12_number 33 = oGet 12 47 36 := (congrFun teX12_number 33).trans rfl
theorem tX12_number_36 : tX12_number 36 = oIl 1 37 := (congrFun teX12_number 36).trans rfl
theorem tX12_number_37 : tX12_number 37 = oIl 4 39 := (congrFun teX12_number 37).trans rfl
theorem tX12_number_39 : tX12_number 39 = oIast 40 := (congrFun teX12_number 39).trans rfl
theorem tX12_number_40 : tX12_number 40 = oInc 1 (nI 1) 43 := (congrFun teX12_number 40).trans rfl
theorem tX12_number_43 : tX12_number 43 = oInc 4 (nI 1) 46 := (congrFun teX12_number 43).trans rfl
theorem tX12_number_46 : tX12_number 46 = oGo 24 := (congrFun teX12_number 46).trans rfl
theorem tX12_number_49 : tX12_number 49 = oIl 2 50 := (congrFun teX12_number 49).trans rfl
theorem tX12_number_50 : tX12_number 50 = oK (.int (nI 3)) 51 := (congrFun teX12_number 50).trans rfl
theorem tX12_number_51 : tX12_number 51 = oMul 52 := (congrFun teX12_number 51).trans rfl
theorem tX12_number_52 : tX12_number 52 = oIs 2 53 := (congrFun teX12_number 52).trans rfl
theorem tX12_number_53 : tX12_number 53 = oInc 3 (nI 1) 56 := (congrFun teX12_number 53).trans rfl
theorem tX12_number_56 : tX12_number 56 = oGo 16 := (congrFun teX12_number 56).trans rfl
theorem tX12_number_59 : tX12_number 59 = oVret := (congrFun teX12_number 59).trans rfl
def lX12_know : List (Nat × qP) := [(0, oAl 0 1), (1, oGet 12 44 4), (4, oIl 1 5), (5, oZald 6), (6, oIf1eq 10 9), (9, oVret), (10, oAl 0 11), (11, oCallV 12 mX12_number 0 14), (14, oAl 0 15), (15, oGet 12 44 18), (18, oIl 1 19), (19, oK (.int (nI 1)) 20), (20, oZast 21), (21, oK (.int (nI 0)) 22), (22, oIs 2 23), (23, oIl 2 24), (24, oK (.int (nI 121)) 26), (26, oIf2ge 94 29), (29, oAl 0 30), (30, oAl 0 31), (31, oGet 12 47 34), (34, oIl 2 35), (35, oIald 36), (36, oK (.int (nI 4)) 37), (37, oCallV 12 mX12_take 2 40), (40, oIs 3 41), (41, oAl 0 42), (42, oIl 1 43), (43, oCallV 12 mX12_isFit 1 46), (46, oIf1ne 52 49), (49, oGo 88), (52, oIl 2 53), (53, oK (.int (nI 64)) 55), (55, oIf2ge 73 58), (58, oAl 0 59), (59, oGet 12 45 62), (62, oIl 1 63), (63, oDup2 64), (64, oLald 65), (65, oK (.long 1) 66), (66, oIl 2 67), (67, oLshl 68), (68, oLor 69), (69, oLast 70), (70, oGo 88), (73, oAl 0 74), (74, oGet 12 46 77), (77, oIl 1 78), (78, oDup2 79), (79, oLald 80), (80, oK (.long 1) 81), (81, oIl 2 82), (82, oK (.int (nI 64)) 84), (84, oSub 85), (85, oLshl 86), (86, oLor 87), (87, oLast 88), (88, oInc 2 (nI 1) 91), (91, oGo 23), (94, oVret)]
def uX12_know : Nat → qP := q_tb lX12_know
set_option maxRecDepth 20000 in
theorem suX12_know : q_Snd mX12_know uX12_know := by
  refine q_tb_ok ?_
  unfold lX12_know
  refine q_fa (ok_aload_n (by decide +kernel : decode cX12_know 0 = .ok (.aload_n 0, 1)) rfl rfl) ?_
  refine q_fa (ok_get (by decide +kernel : decode cX12_know 1 = .ok (.getfield 104, 3)) rfl (rfl : vwCl[12]? = some (RX12, TX12, 58)) inX12 (by decide) g1048) ?_
  refine q_fa (ok_iload_n (by decide +kernel : decode cX12_know 4 = .ok (.iload_n 1, 1)) rfl rfl) ?_
  refine q_fa (ok_zaload (by decide +kernel : decode cX12_know 5 = .ok (.baload, 1)) rfl) ?_
  refine q_fa (ok_if1eq (by decide +kernel : decode cX12_know 6 = .ok (.ifCond .eq 4, 3)) (by decide) rfl) ?_
  refine q_fa (ok_vret (by decide +kernel : decode cX12_know 9 = .ok (.return_, 1)) rfl) ?_
  refine q_fa (ok_aload_n (by decide +kernel : decode cX12_know 10 = .ok (.aload_n 0, 1)) rfl rfl) ?_
  refine q_fa (ok_callV (by decide +kernel : decode cX12_know 11 = .ok (.invokevirtual 314, 3)) rfl kX12_number.1 kX12_number.2.1 kX12_number.2.2.1 kX12_number.2.2.2.1 kX12_number.2.2.2.2 (rfl : vwCl[12]? = some (RX12, TX12, 58)) g1435 gs89 g1433) ?_
  refine q_fa (ok_aload_n (by decide +kernel : decode cX12_know 14 = .ok (.aload_n 0, 1)) rfl rfl) ?_
  refine q_fa (ok_get (by decide +kernel : decode cX12_know 15 = .ok (.getfield 104, 3)) rfl (rfl : vwCl[12]? = some (RX12, TX12, 58)) inX12 (by decide) g1048) ?_
  refine q_fa (ok_iload_n (by decide +kernel : decode cX12_know 18 = .ok (.iload_n 1, 1)) rfl rfl) ?_
  refine q_fa (ok_iconst (by decide +kernel : decode cX12_know 19 = .ok (.iconst 1, 1)) rfl (by decide +kernel)) ?_
  refine q_fa (ok_zastore (by decide +kernel : decode cX12_know 20 = .ok (.bastore, 1)) rfl) ?_
  refine q_fa (ok_iconst (by decide +kernel : decode cX12_know 21 = .ok (.iconst 0, 1)) rfl (by decide +kernel)) ?_
  refine q_fa (ok_istore_n (by decide +kernel : decode cX12_know 22 = .ok (.istore_n 2, 1)) rfl rfl (by decide)) ?_
  refine q_fa (ok_iload_n (by decide +kernel : decode cX12_know 23 = .ok (.iload_n 2, 1)) rfl rfl) ?_
  refine q_fa (ok_bipush (by decide +kernel : decode cX12_know 24 = .ok (.bipush 121, 2)) rfl (by decide +kernel)) ?_
  refine q_fa (ok_if2ge (by decide +kernel : decode cX12_know 26 = .ok (.if_icmp .ge 68, 3)) (by decide) rfl) ?_
  refine q_fa (ok_aload_n (by decide +kernel : decode cX12_know 29 = .ok (.aload_n 0, 1)) rfl rfl) ?_
  refine q_fa (ok_aload_n (by decide +kernel : decode cX12_know 30 = .ok (.aload_n 0, 1)) rfl rfl) ?_
  refine q_fa (ok_get (by decide +kernel : decode cX12_know 31 = .ok (.getfield 114, 3)) rfl (rfl : vwCl[12]? = some (RX12, TX12, 58)) inX12 (by decide) g1051) ?_
  refine q_fa (ok_iload_n (by decide +kernel : decode cX12_know 34 = .ok (.iload_n 2, 1)) rfl rfl) ?_
  refine q_fa (ok_iaload (by decide +kernel : decode cX12_know 35 = .ok (.iaload, 1)) rfl) ?_
  refine q_fa (ok_iconst (by decide +kernel : decode cX12_know 36 = .ok (.iconst 4, 1)) rfl (by decide +kernel)) ?_
  refine q_fa (ok_callV (by decide +kernel : decode cX12_know 37 = .ok (.invokevirtual 255, 3)) rfl kX12_take.1 kX12_take.2.1 kX12_take.2.2.1 kX12_take.2.2.2.1 kX12_take.2.2.2.2 (rfl : vwCl[12]? = some (RX12, TX12, 58)) g1307 gs69 g1305) ?_
  refine q_fa (ok_istore_n (by decide +kernel : decode cX12_know 40 = .ok (.istore_n 3, 1)) rfl rfl (by decide)) ?_
  refine q_fa (ok_aload_n (by decide +kernel : decode cX12_know 41 = .ok (.aload_n 0, 1)) rfl rfl) ?_
  refine q_fa (ok_iload_n (by decide +kernel : decode cX12_know 42 = .ok (.iload_n 1, 1)) rfl rfl) ?_
  refine q_fa (ok_callV (by decide +kernel : decode cX12_know 43 = .ok (.invokevirtual 259, 3)) rfl kX12_isFit.1 kX12_isFit.2.1 kX12_isFit.2.2.1 kX12_isFit.2.2.2.1 kX12_isFit.2.2.2.2 (rfl : vwCl[12]? = some (RX12, TX12, 58)) g1311 gs70 g1309) ?_
  refine q_fa (ok_if1ne (by decide +kernel : decode cX12_know 46 = .ok (.ifCond .ne 6, 3)) (by decide) rfl) ?_
  refine q_fa (ok_goto (by decide +kernel : decode cX12_know 49 = .ok (.goto 39, 3)) (by decide)) ?_
  refine q_fa (ok_iload_n (by decide +kernel : decode cX12_know 52 = .ok (.iload_n 2, 1)) rfl rfl) ?_
  refine q_fa (ok_bipush (by decide +kernel : decode cX12_know 53 = .ok (.bipush 64, 2)) rfl (by decide +kernel)) ?_
  refine q_fa (ok_if2ge (by decide +kernel : decode cX12_know 55 = .ok (.if_icmp .ge 18, 3)) (by decide) rfl) ?_
  refine q_fa (ok_aload_n (by decide +kernel : decode cX12_know 58 = .ok (.aload_n 0, 1)) rfl rfl) ?_
  refine q_fa (ok_get (by decide +kernel : decode cX12_know 59 = .ok (.getfield 107, 3)) rfl (rfl : vwCl[12]? = some (RX12, TX12, 58)) inX12 (by decide) g1049) ?_
  refine q_fa (ok_iload_n (by decide +kernel : decode cX12_know 62 = .ok (.iload_n 1, 1)) rfl rfl) ?_
  refine q_fa (ok_dup2 (by decide +kernel : decode cX12_know 63 = .ok (.dup2, 1)) rfl) ?_
  refine q_fa (ok_laload (by decide +kernel : decode cX12_know 64 = .ok (.laload, 1)) rfl) ?_
  refine q_fa (ok_lconst (by decide +kernel : decode cX12_know 65 = .ok (.lconst 1, 1)) rfl (by decide +kernel)) ?_
  refine q_fa (ok_iload_n (by decide +kernel : decode cX12_know 66 = .ok (.iload_n 2, 1)) rfl rfl) ?_
  refine q_fa (ok_lshl (by decide +kernel : decode cX12_know 67 = .ok (.lshl, 1)) rfl) ?_
  refine q_fa (ok_lor (by decide +kernel : decode cX12_know 68 = .ok (.lor, 1)) rfl) ?_
  refine q_fa (ok_lastore (by decide +kernel : decode cX12_know 69 = .ok (.lastore, 1)) rfl) ?_
  refine q_fa (ok_goto (by decide +kernel : decode cX12_know 70 = .ok (.goto 18, 3)) (by decide)) ?_
  refine q_fa (ok_aload_n (by decide +kernel : decode cX12_know 73 = .ok (.aload_n 0, 1)) rfl rfl) ?_
  refine q_fa (ok_get (by decide +kernel : decode cX12_know 74 = .ok (.getfield 111, 3)) rfl (rfl : vwCl[12]? = some (RX12, TX12, 58)) inX12 (by decide) g1050) ?_
  refine q_fa (ok_iload_n (by decide +kernel : decode cX12_know 77 = .ok (.iload_n 1, 1)) rfl rfl) ?_
  refine q_fa (ok_dup2 (by decide +kernel : decode cX12_know 78 = .ok (.dup2, 1)) rfl) ?_
  refine q_fa (ok_laload (by decide +kernel : decode cX12_know 79 = .ok (.laload, 1)) rfl) ?_
  refine q_fa (ok_lconst (by decide +kernel : decode cX12_know 80 = .ok (.lconst 1, 1)) rfl (by decide +kernel)) ?_
  refine q_fa (ok_iload_n (by decide +kernel : decode cX12_know 81 = .ok (.iload_n 2, 1)) rfl rfl) ?_
  refine q_fa (ok_bipush (by decide +kernel : decode cX12_know 82 = .ok (.bipush 64, 2)) rfl (by decide +kernel)) ?_
  refine q_fa (ok_isub (by decide +kernel : decode cX12_know 84 = .ok (.isub, 1)) rfl) ?_
  refine q_fa (ok_lshl (by decide +kernel : decode cX12_know 85 = .ok (.lshl, 1)) rfl) ?_
  refine q_fa (ok_lor (by decide +kernel : decode cX12_know 86 = .ok (.lor, 1)) rfl) ?_
  refine q_fa (ok_lastore (by decide +kernel : decode cX12_know 87 = .ok (.lastore, 1)) rfl) ?_
  refine q_fa (ok_iinc (by decide +kernel : decode cX12_know 88 = .ok (.iinc 2 1, 3)) rfl (by decide +kernel) (by decide)) ?_
  refine q_fa (ok_goto (by decide +kernel : decode cX12_know 91 = .ok (.goto (-68), 3)) (by decide)) ?_
  refine q_fa (ok_vret (by decide +kernel : decode cX12_know 94 = .ok (.return_, 1)) rfl) ?_
  exact q_fa0
theorem exX12_know : ∃ t : Nat → qP, t = uX12_know := ⟨_, rfl⟩
noncomputable def tX12_know : Nat → qP := Classical.choose exX12_know
theorem teX12_know : tX12_know = uX12_know := Classical.choose_spec exX12_know
theorem sX12_know : q_Snd mX12_know tX12_know := by rw [teX12_know]; exact suX12_know
theorem tX12_know_0 : tX12_know 0 = oAl 0 1 := (congrFun teX12_know 0).trans rfl
theorem tX12_know_1 : tX12_know 1 = oGet 12 44 4 := (congrFun teX12_know 1).trans rfl
theorem tX12_know_4 : tX12_know 4 = oIl 1 5 := (congrFun teX12_know 4).trans rfl
theorem tX12_know_5 : tX12_know 5 = oZald 6 := (congrFun teX12_know 5).trans rfl
theorem tX12_know_6 : tX12_know 6 = oIf1eq 10 9 := (congrFun teX12_know 6).trans rfl
theorem tX12_know_9 : tX12_know 9 = oVret := (congrFun teX12_know 9).trans rfl
theorem tX12_know_10 : tX12_know 10 = oAl 0 11 := (congrFun teX12_know 10).trans rfl
theorem tX12_know_11 : tX12_know 11 = oCallV 12 mX12_number 0 14 := (congrFun teX12_know 11).trans rfl
theorem tX12_know_14 : tX12_know 14 = oAl 0 15 := (congrFun teX12_know 14).trans rfl
theorem tX12_know_15 : tX12_know 15 = oGet 12 44 18 := (congrFun teX12_know 15).trans rfl
theorem tX12_know_18 : tX12_know 18 = oIl 1 19 := (congrFun teX12_know 18).trans rfl
theorem tX12_know_19 : tX12_know 19 = oK (.int (nI 1)) 20 := (congrFun teX12_know 19).trans rfl
theorem tX12_know_20 : tX12_know 20 = oZast 21 := (congrFun teX12_know 20).trans rfl
theorem tX12_know_21 : tX12_know 21 = oK (.int (nI 0)) 22 := (congrFun teX12_know 21).trans rfl
theorem tX12_know_22 : tX12_know 22 = oIs 2 23 := (congrFun teX12_know 22).trans rfl
theorem tX12_know_23 : tX12_know 23 = oIl 2 24 := (congrFun teX12_know 23).trans rfl
theorem tX12_know_24 : tX12_know 24 = oK (.int (nI 121)) 26 := (congrFun teX12_know 24).trans rfl
theorem tX12_know_26 : tX12_know 26 = oIf2ge 94 29 := (congrFun teX12_know 26).trans rfl
theorem tX12_know_29 : tX12_know 29 = oAl 0 30 := (congrFun teX12_know 29).trans rfl
theorem tX12_know_30 : tX12_know 30 = oAl 0 31 := (congrFun teX12_know 30).trans rfl
theorem tX12_know_31 : tX12_know 31 = oGet 12 47 34 := (congrFun teX12_know 31).trans rfl
theorem tX12_know_34 : tX12_know 34 = oIl 2 35 := (congrFun teX12_know 34).trans rfl
theorem tX12_know_35 : tX12_know 35 = oIald 36 := (congrFun teX12_know 35).trans rfl
theorem tX12_know_36 : tX12_know 36 = oK (.int (nI 4)) 37 := (congrFun teX12_know 36).trans rfl
theorem tX12_know_37 : tX12_know 37 = oCallV 12 mX12_take 2 40 := (congrFun teX12_know 37).trans rfl
theorem tX12_know_40 : tX12_know 40 = oIs 3 41 := (congrFun teX12_know 40).trans rfl
theorem tX12_know_41 : tX12_know 41 = oAl 0 42 := (congrFun teX12_know 41).trans rfl
theorem tX12_know_42 : tX12_know 42 = oIl 1 43 := (congrFun teX12_know 42).trans rfl
theorem tX12_know_43 : tX12_know 43 = oCallV 12 mX12_isFit 1 46 := (congrFun teX12_know 43).trans rfl
theorem tX12_know_46 : tX12_know 46 = oIf1ne 52 49 := (congrFun teX12_know 46).trans rfl
theorem tX12_know_49 : tX12_know 49 = oGo 88 := (congrFun teX12_know 49).trans rfl
theorem tX12_know_52 : tX12_know 52 = oIl 2 53 := (congrFun teX12_know 52).trans rfl
theorem tX12_know_53 : tX12_know 53 = oK (.int (nI 64)) 55 := (congrFun teX12_know 53).trans rfl
theorem tX12_know_55 : tX12_know 55 = oIf2ge 73 58 := (congrFun teX12_know 55).trans rfl
theorem tX12_know_58 : tX12_know 58 = oAl 0 59 := (congrFun teX12_know 58).trans rfl
theorem tX12_know_59 : tX12_know 59 = oGet 12 45 62 := (congrFun teX12_know 59).trans rfl
theorem tX12_know_62 : tX12_know 62 = oIl 1 63 := (congrFun teX12_know 62).trans rfl
theorem tX12_know_63 : tX12_know 63 = oDup2 64 := (congrFun teX12_know 63).trans rfl
theorem tX12_know_64 : tX12_know 64 = oLald 65 := (congrFun teX12_know 64).trans rfl
theorem tX12_know_65 : tX12_know 65 = oK (.long 1) 66 := (congrFun teX12_know 65).trans rfl
theorem tX12_know_66 : tX12_know 66 = oIl 2 67 := (congrFun teX12_know 66).trans rfl
theorem tX12_know_67 : tX12_know 67 = oLshl 68 := (congrFun teX12_know 67).trans rfl
theorem tX12_know_68 : tX12_know 68 = oLor 69 := (congrFun teX12_know 68).trans rfl
theorem tX12_know_69 : tX12_know 69 = oLast 70 := (congrFun teX12_know 69).trans rfl
theorem tX12_know_70 : tX12_know 70 = oGo 88 := (congrFun teX12_know 70).trans rfl
theorem tX12_know_73 : tX12_know 73 = oAl 0 74 := (congrFun teX12_know 73).trans rfl
theorem tX12_know_74 : tX12_know 74 = oGet 12 46 77 := (congrFun teX12_know 74).trans rfl
theorem tX12_know_77 : tX12_know 77 = oIl 1 78 := (congrFun teX12_know 77).trans rfl
theorem tX12_know_78 : tX12_know 78 = oDup2 79 := (congrFun teX12_know 78).trans rfl
theorem tX12_know_79 : tX12_know 79 = oLald 80 := (congrFun teX12_know 79).trans rfl
theorem tX12_know_80 : tX12_know 80 = oK (.long 1) 81 := (congrFun teX12_know 80).trans rfl
theorem tX12_know_81 : tX12_know 81 = oIl 2 82 := (congrFun teX12_know 81).trans rfl
theorem tX12_know_82 : tX12_know 82 = oK (.int (nI 64)) 84 := (congrFun teX12_know 82).trans rfl
theorem tX12_know_84 : tX12_know 84 = oSub 85 := (congrFun teX12_know 84).trans rfl
theorem tX12_know_85 : tX12_know 85 = oLshl 86 := (congrFun teX12_know 85).trans rfl
theorem tX12_know_86 : tX12_know 86 = oLor 87 := (congrFun teX12_know 86).trans rfl
theorem tX12_know_87 : tX12_know 87 = oLast 88 := (congrFun teX12_know 87).trans rfl
theorem tX12_know_88 : tX12_know 88 = oInc 2 (nI 1) 91 := (congrFun teX12_know 88).trans rfl
theorem tX12_know_91 : tX12_know 91 = oGo 23 := (congrFun teX12_know 91).trans rfl
theorem tX12_know_94 : tX12_know 94 = oVret := (congrFun teX12_know 94).trans rfl
def lX12_agreesAll : List (Nat × qP) := [(0, oK (.int (nI 0)) 1), (1, oIs 2 2), (2, oIl 2 3), (3, oAl 0 4), (4, oGet 12 38 7), (7, oIf2ge 36 10), (10, oAl 0 11), (11, oGet 12 43 14), (14, oIl 2 15), (15, oZald 16), (16, oIf1ne 30 19), (19, oAl 0 20), (20, oIl 1 21), (21, oIl 2 22), (22, oCallV 12 mX12_agrees0 2 25), (25, oIf1ne 30 28), (28, oK (.int (nI 0)) 29), (29, oZret), (30, oInc 2 (nI 1) 33), (33, oGo 2), (36, oK (.int (nI 1)) 37), (37, oZret)]
def uX12_agreesAll : Nat → qP := q_tb lX12_agreesAll
set_option maxRecDepth 20000 in
theorem suX12_agreesAll : q_Snd mX12_agreesAll uX12_agreesAll := by
  refine q_tb_ok ?_
  unfold lX12_agreesAll
  refine q_fa (ok_iconst (by decide +kernel : decode cX12_agreesAll 0 = .ok (.iconst 0, 1)) rfl (by decide +kernel)) ?_
  refine q_fa (ok_istore_n (by decide +kernel : decode cX12_agreesAll 1 = .ok (.istore_n 2, 1)) rfl rfl (by decide)) ?_
  refine q_fa (ok_iload_n (by decide +kernel : decode cX12_agreesAll 2 = .ok (.iload_n 2, 1)) rfl rfl) ?_
  refine q_fa (ok_aload_n (by decide +kernel : decode cX12_agreesAll 3 = .ok (.aload_n 0, 1)) rfl rfl) ?_
  refine q_fa (ok_get (by decide +kernel : decode cX12_agreesAll 4 = .ok (.getfield 302, 3)) rfl (rfl : vwCl[12]? = some (RX12, TX12, 58)) inX12 (by decide) g1042) ?_
  refine q_fa (ok_if2ge (by decide +kernel : decode cX12_agreesAll 7 = .ok (.if_icmp .ge 29, 3)) (by decide) rfl) ?_
  refine q_fa (ok_aload_n (by decide +kernel : decode cX12_agreesAll 10 = .ok (.aload_n 0, 1)) rfl rfl) ?_
  refine q_fa (ok_get (by decide +kernel : decode cX12_agreesAll 11 = .ok (.getfield 101, 3)) rfl (rfl : vwCl[12]? = some (RX12, TX12, 58)) inX12 (by decide) g1047) ?_
  refine q_fa (ok_iload_n (by decide +kernel : decode cX12_agreesAll 14 = .ok (.iload_n 2, 1)) rfl rfl) ?_
  refine q_fa (ok_zaload (by decide +kernel : decode cX12_agreesAll 15 = .ok (.baload, 1)) rfl) ?_
  refine q_fa (ok_if1ne (by decide +kernel : decode cX12_agreesAll 16 = .ok (.ifCond .ne 14, 3)) (by decide) rfl) ?_
  refine q_fa (ok_aload_n (by decide +kernel : decode cX12_agreesAll 19 = .ok (.aload_n 0, 1)) rfl rfl) ?_
  refine q_fa (ok_iload_n (by decide +kernel : decode cX12_agreesAll 20 = .ok (.iload_n 1, 1)) rfl rfl) ?_
  refine q_fa (ok_iload_n (by decide +kernel : decode cX12_agreesAll 21 = .ok (.iload_n 2, 1)) rfl rfl) ?_
  refine q_fa (ok_callV (by decide +kernel : decode cX12_agreesAll 22 = .ok (.invokevirtual 308, 3)) rfl kX12_agrees0.1 kX12_agrees0.2.1 kX12_agrees0.2.2.1 kX12_agrees0.2.2.2.1 kX12_agrees0.2.2.2.2 (rfl : vwCl[12]? = some (RX12, TX12, 58)) g1400 gs83 g1398) ?_
  refine q_fa (ok_if1ne (by decide +kernel : decode cX12_agreesAll 25 = .ok (.ifCond .ne 5, 3)) (by decide) rfl) ?_
  refine q_fa (ok_iconst (by decide +kernel : decode cX12_agreesAll 28 = .ok (.iconst 0, 1)) rfl (by decide +kernel)) ?_
  refine q_fa (ok_zret (by decide +kernel : decode cX12_agreesAll 29 = .ok (.ireturn, 1)) rfl) ?_
  refine q_fa (ok_iinc (by decide +kernel : decode cX12_agreesAll 30 = .ok (.iinc 2 1, 3)) rfl (by decide +kernel) (by decide)) ?_
  refine q_fa (ok_goto (by decide +kernel : decode cX12_agreesAll 33 = .ok (.goto (-31), 3)) (by decide)) ?_
  refine q_fa (ok_iconst (by decide +kernel : decode cX12_agreesAll 36 = .ok (.iconst 1, 1)) rfl (by decide +kernel)) ?_
  refine q_fa (ok_zret (by decide +kernel : decode cX12_agreesAll 37 = .ok (.ireturn, 1)) rfl) ?_
  exact q_fa0
theorem exX12_agreesAll : ∃ t : Nat → qP, t = uX12_agreesAll := ⟨_, rfl⟩
noncomputable def tX12_agreesAll : Nat → qP := Classical.choose exX12_agreesAll
theorem teX12_agreesAll : tX12_agreesAll = uX12_agreesAll := Classical.choose_spec exX12_agreesAll
theorem sX12_agreesAll : q_Snd mX12_agreesAll tX12_agreesAll := by rw [teX12_agreesAll]; exact suX12_agreesAll
theorem tX12_agreesAll_0 : tX12_agreesAll 0 = oK (.int (nI 0)) 1 := (congrFun teX12_agreesAll 0).trans rfl
theorem tX12_agreesAll_1 : tX12_agreesAll 1 = oIs 2 2 := (congrFun teX12_agreesAll 1).trans rfl
theorem tX12_agreesAll_2 : tX12_agreesAll 2 = oIl 2 3 := (congrFun teX12_agreesAll 2).trans rfl
theorem tX12_agreesAll_3 : tX12_agreesAll 3 = oAl 0 4 := (congrFun teX12_agreesAll 3).trans rfl
theorem tX12_agreesAll_4 : tX12_agreesAll 4 = oGet 12 38 7 := (congrFun teX12_agreesAll 4).trans rfl
theorem tX12_agreesAll_7 : tX12_agreesAll 7 = oIf2ge 36 10 := (congrFun teX12_agreesAll 7).trans rfl
theorem tX12_agreesAll_10 : tX12_agreesAll 10 = oAl 0 11 := (congrFun teX12_agreesAll 10).trans rfl
theorem tX12_agreesAll_11 : tX12_agreesAll 11 = oGet 12 43 14 := (congrFun teX12_agreesAll 11).trans rfl
theorem tX12_agreesAll_14 : tX12_agreesAll 14 = oIl 2 15 := (congrFun teX12_agreesAll 14).trans rfl
theorem tX12_agreesAll_15 : tX12_agreesAll 15 = oZald 16 := (congrFun teX12_agreesAll 15).trans rfl
theorem tX12_agreesAll_16 : tX12_agreesAll 16 = oIf1ne 30 19 := (congrFun teX12_agreesAll 16).trans rfl
theorem tX12_agreesAll_19 : tX12_agreesAll 19 = oAl 0 20 := (congrFun teX12_agreesAll 19).trans rfl
theorem tX12_agreesAll_20 : tX12_agreesAll 20 = oIl 1 21 := (congrFun teX12_agreesAll 20).trans rfl
theorem tX12_agreesAll_21 : tX12_agreesAll 21 = oIl 2 22 := (congrFun teX12_agreesAll 21).trans rfl
theorem tX12_agreesAll_22 : tX12_agreesAll 22 = oCallV 12 mX12_agrees0 2 25 := (congrFun teX12_agreesAll 22).trans rfl
theorem tX12_agreesAll_25 : tX12_agreesAll 25 = oIf1ne 30 28 := (congrFun teX12_agreesAll 25).trans rfl
theorem tX12_agreesAll_28 : tX12_agreesAll 28 = oK (.int (nI 0)) 29 := (congrFun teX12_agreesAll 28).trans rfl
theorem tX12_agreesAll_29 : tX12_agreesAll 29 = oZret := (congrFun teX12_agreesAll 29).trans rfl
theorem tX12_agreesAll_30 : tX12_agreesAll 30 = oInc 2 (nI 1) 33 := (congrFun teX12_agreesAll 30).trans rfl
theorem tX12_agreesAll_33 : tX12_agreesAll 33 = oGo 2 := (congrFun teX12_agreesAll 33).trans rfl
theorem tX12_agreesAll_36 : tX12_agreesAll 36 = oK (.int (nI 1)) 37 := (congrFun teX12_agreesAll 36).trans rfl
theorem tX12_agreesAll_37 : tX12_agreesAll 37 = oZret := (congrFun teX12_agreesAll 37).trans rfl
def lX12_isOf : List (Nat × qP) := [(0, oAl 0 1), (1, oGet 12 9 4), (4, oIl 1 5), (5, oIald 6), (6, oIl 2 7), (7, oK (.int (-1)) 8), (8, oXor 9), (9, oAnd 10), (10, oIf1ne 27 13), (13, oAl 0 14), (14, oGet 12 7 17), (17, oIl 1 18), (18, oIald 19), (19, oIl 3 20), (20, oIf2gt 27 23), (23, oK (.int (nI 1)) 24), (24, oGo 28), (27, oK (.int (nI 0)) 28), (28, oZret)]
def uX12_isOf : Nat → qP := q_tb lX12_isOf
set_option maxRecDepth 20000 in
theorem suX12_isOf : q_Snd mX12_isOf uX12_isOf := by
  refine q_tb_ok ?_
  unfold lX12_isOf
  refine q_fa (ok_aload_n (by decide +kernel : decode cX12_isOf 0 = .ok (.aload_n 0, 1)) rfl rfl) ?_
  refine q_fa (ok_get (by decide +kernel : decode cX12_isOf 1 = .ok (.getfield 31, 3)) rfl (rfl : vwCl[12]? = some (RX12, TX12, 58)) inX12 (by decide) g1013) ?_
  refine q_fa (ok_iload_n (by decide +kernel : decode cX12_isOf 4 = .ok (.iload_n 1, 1)) rfl rfl) ?_
  refine q_fa (ok_iaload (by decide +kernel : decode cX12_isOf 5 = .ok (.iaload, 1)) rfl) ?_
  refine q_fa (ok_iload_n (by decide +kernel : decode cX12_isOf 6 = .ok (.iload_n 2, 1)) rfl rfl) ?_
  refine q_fa (ok_iconst (by decide +kernel : decode cX12_isOf 7 = .ok (.iconst (-1), 1)) rfl (by decide +kernel)) ?_
  refine q_fa (ok_ixor (by decide +kernel : decode cX12_isOf 8 = .ok (.ixor, 1)) rfl) ?_
  refine q_fa (ok_iand (by decide +kernel : decode cX12_isOf 9 = .ok (.iand, 1)) rfl) ?_
  refine q_fa (ok_if1ne (by decide +kernel : decode cX12_isOf 10 = .ok (.ifCond .ne 17, 3)) (by decide) rfl) ?_
  refine q_fa (ok_aload_n (by decide +kernel : decode cX12_isOf 13 = .ok (.aload_n 0, 1)) rfl rfl) ?_
  refine q_fa (ok_get (by decide +kernel : decode cX12_isOf 14 = .ok (.getfield 25, 3)) rfl (rfl : vwCl[12]? = some (RX12, TX12, 58)) inX12 (by decide) g1011) ?_
  refine q_fa (ok_iload_n (by decide +kernel : decode cX12_isOf 17 = .ok (.iload_n 1, 1)) rfl rfl) ?_
  refine q_fa (ok_iaload (by decide +kernel : decode cX12_isOf 18 = .ok (.iaload, 1)) rfl) ?_
  refine q_fa (ok_iload_n (by decide +kernel : decode cX12_isOf 19 = .ok (.iload_n 3, 1)) rfl rfl) ?_
  refine q_fa (ok_if2gt (by decide +kernel : decode cX12_isOf 20 = .ok (.if_icmp .gt 7, 3)) (by decide) rfl) ?_
  refine q_fa (ok_iconst (by decide +kernel : decode cX12_isOf 23 = .ok (.iconst 1, 1)) rfl (by decide +kernel)) ?_
  refine q_fa (ok_goto (by decide +kernel : decode cX12_isOf 24 = .ok (.goto 4, 3)) (by decide)) ?_
  refine q_fa (ok_iconst (by decide +kernel : decode cX12_isOf 27 = .ok (.iconst 0, 1)) rfl (by decide +kernel)) ?_
  refine q_fa (ok_zret (by decide +kernel : decode cX12_isOf 28 = .ok (.ireturn, 1)) rfl) ?_
  exact q_fa0
theorem exX12_isOf : ∃ t : Nat → qP, t = uX12_isOf := ⟨_, rfl⟩
noncomputable def tX12_isOf : Nat → qP := Classical.choose exX12_isOf
theorem teX12_isOf : tX12_isOf = uX12_isOf := Classical.choose_spec exX12_isOf
theorem sX12_isOf : q_Snd mX12_isOf tX12_isOf := by rw [teX12_isOf]; exact suX12_isOf
theorem tX12_isOf_0 : tX12_isOf 0 = oAl 0 1 := (congrFun teX12_isOf 0).trans rfl
theorem tX12_isOf_1 : tX12_isOf 1 = oGet 12 9 4 := (congrFun teX12_isOf 1).trans rfl
theorem tX12_isOf_4 : tX12_isOf 4 = oIl 1 5 := (congrFun teX12_isOf 4).trans rfl
theorem tX12_isOf_5 : tX12_isOf 5 = oIald 6 := (congrFun teX12_isOf 5).trans rfl
theorem tX12_isOf_6 : tX12_isOf 6 = oIl 2 7 := (congrFun teX12_isOf 6).trans rfl
theorem tX12_isOf_7 : tX12_isOf 7 = oK (.int (-1)) 8 := (congrFun teX12_isOf 7).trans rfl
theorem tX12_isOf_8 : tX12_isOf 8 = oXor 9 := (congrFun teX12_isOf 8).trans rfl
theorem tX12_isOf_9 : tX12_isOf 9 = oAnd 10 := (congrFun teX12_isOf 9).trans rfl
theorem tX12_isOf_10 : tX12_isOf 10 = oIf1ne 27 13 := (congrFun teX12_isOf 10).trans rfl
theorem tX12_isOf_13 : tX12_isOf 13 = oAl 0 14 := (congrFun teX12_isOf 13).trans rfl
theorem tX12_isOf_14 : tX12_isOf 14 = oGet 12 7 17 := (congrFun teX12_isOf 14).trans rfl
theorem tX12_isOf_17 : tX12_isOf 17 = oIl 1 18 := (congrFun teX12_isOf 17).trans rfl
theorem tX12_isOf_18 : tX12_isOf 18 = oIald 19 := (congrFun teX12_isOf 18).trans rfl
theorem tX12_isOf_19 : tX12_isOf 19 = oIl 3 20 := (congrFun teX12_isOf 19).trans rfl
theorem tX12_isOf_20 : tX12_isOf 20 = oIf2gt 27 23 := (congrFun teX12_isOf 20).trans rfl
theorem tX12_isOf_23 : tX12_isOf 23 = oK (.int (nI 1)) 24 := (congrFun teX12_isOf 23).trans rfl
theorem tX12_isOf_24 : tX12_isOf 24 = oGo 28 := (congrFun teX12_isOf 24).trans rfl
theorem tX12_isOf_27 : tX12_isOf 27 = oK (.int (nI 0)) 28 := (congrFun teX12_isOf 27).trans rfl
theorem tX12_isOf_28 : tX12_isOf 28 = oZret := (congrFun teX12_isOf 28).trans rfl
def lX12_areAsked : List (Nat × qP) := [(0, oIl 0 1), (1, oK (.int (nI 1)) 2), (2, oK (.int (nI 63)) 4), (4, oCallS mX12_in 3 7), (7, oIf1eq 24 10), (10, oIl 1 11), (11, oK (.int (nI 2)) 12), (12, oK (.int (nI 10)) 14), (14, oCallS mX12_in 3 17), (17, oIf1eq 24 20), (20, oK (.int (nI 1)) 21), (21, oGo 25), (24, oK (.int (nI 0)) 25), (25, oZret)]
def uX12_areAsked : Nat → qP := q_tb lX12_areAsked
set_option maxRecDepth 20000 in
theorem suX12_areAsked : q_Snd mX12_areAsked uX12_areAsked := by
  refine q_tb_ok ?_
  unfold lX12_areAsked
  refine q_fa (ok_iload_n (by decide +kernel : decode cX12_areAsked 0 = .ok (.iload_n 0, 1)) rfl rfl) ?_
  refine q_fa (ok_iconst (by decide +kernel : decode cX12_areAsked 1 = .ok (.iconst 1, 1)) rfl (by decide +kernel)) ?_
  refine q_fa (ok_bipush (by decide +kernel : decode cX12_areAsked 2 = .ok (.bipush 63, 2)) rfl (by decide +kernel)) ?_
  refine q_fa (ok_callS (by decide +kernel : decode cX12_areAsked 4 = .ok (.invokestatic 163, 3)) rfl kX12_in.1 kX12_in.2.1 kX12_in.2.2.1 kX12_in.2.2.2.1 kX12_in.2.2.2.2 g1185 g1184) ?_
  refine q_fa (ok_if1eq (by decide +kernel : decode cX12_areAsked 7 = .ok (.ifCond .eq 17, 3)) (by decide) rfl) ?_
  refine q_fa (ok_iload_n (by decide +kernel : decode cX12_areAsked 10 = .ok (.iload_n 1, 1)) rfl rfl) ?_
  refine q_fa (ok_iconst (by decide +kernel : decode cX12_areAsked 11 = .ok (.iconst 2, 1)) rfl (by decide +kernel)) ?_
  refine q_fa (ok_bipush (by decide +kernel : decode cX12_areAsked 12 = .ok (.bipush 10, 2)) rfl (by decide +kernel)) ?_
  refine q_fa (ok_callS (by decide +kernel : decode cX12_areAsked 14 = .ok (.invokestatic 163, 3)) rfl kX12_in.1 kX12_in.2.1 kX12_in.2.2.1 kX12_in.2.2.2.1 kX12_in.2.2.2.2 g1185 g1184) ?_
  refine q_fa (ok_if1eq (by decide +kernel : decode cX12_areAsked 17 = .ok (.ifCond .eq 7, 3)) (by decide) rfl) ?_
  refine q_fa (ok_iconst (by decide +kernel : decode cX12_areAsked 20 = .ok (.iconst 1, 1)) rfl (by decide +kernel)) ?_
  refine q_fa (ok_goto (by decide +kernel : decode cX12_areAsked 21 = .ok (.goto 4, 3)) (by decide)) ?_
  refine q_fa (ok_iconst (by decide +kernel : decode cX12_areAsked 24 = .ok (.iconst 0, 1)) rfl (by decide +kernel)) ?_
  refine q_fa (ok_zret (by decide +kernel : decode cX12_areAsked 25 = .ok (.ireturn, 1)) rfl) ?_
  exact q_fa0
theorem exX12_areAsked : ∃ t : Nat → qP, t = uX12_areAsked := ⟨_, rfl⟩
noncomputable def tX12_areAsked : Nat → qP := Classical.choose exX12_areAsked
theorem teX12_areAsked : tX12_areAsked = uX12_areAsked := Classical.choose_spec exX12_areAsked
theorem sX12_areAsked : q_Snd mX12_areAsked tX12_areAsked := by rw [teX12_areAsked]; exact suX12_areAsked
theorem tX12_areAsked_0 : tX12_areAsked 0 = oIl 0 1 := (congrFun teX12_areAsked 0).trans rfl
theorem tX12_areAsked_1 : tX12_areAsked 1 = oK (.int (nI 1)) 2 := (congrFun teX12_areAsked 1).trans rfl
theorem tX12_areAsked_2 : tX12_areAsked 2 = oK (.int (nI 63)) 4 := (congrFun teX12_areAsked 2).trans rfl
theorem tX12_areAsked_4 : tX12_areAsked 4 = oCallS mX12_in 3 7 := (congrFun teX12_areAsked 4).trans rfl
theorem tX12_areAsked_7 : tX12_areAsked 7 = oIf1eq 24 10 := (congrFun teX12_areAsked 7).trans rfl
theorem tX12_areAsked_10 : tX12_areAsked 10 = oIl 1 11 := (congrFun teX12_areAsked 10).trans rfl
theorem tX12_areAsked_11 : tX12_areAsked 11 = oK (.int (nI 2)) 12 := (congrFun teX12_areAsked 11).trans rfl
theorem tX12_areAsked_12 : tX12_areAsked 12 = oK (.int (nI 10)) 14 := (congrFun teX12_areAsked 12).trans rfl
theorem tX12_areAsked_14 : tX12_areAsked 14 = oCallS mX12_in 3 17 := (congrFun teX12_areAsked 14).trans rfl
theorem tX12_areAsked_17 : tX12_areAsked 17 = oIf1eq 24 20 := (congrFun teX12_areAsked 17).trans rfl
theorem tX12_areAsked_20 : tX12_areAsked 20 = oK (.int (nI 1)) 21 := (congrFun teX12_areAsked 20).trans rfl
theorem tX12_areAsked_21 : tX12_areAsked 21 = oGo 25 := (congrFun teX12_areAsked 21).trans rfl
theorem tX12_areAsked_24 : tX12_areAsked 24 = oK (.int (nI 0)) 25 := (congrFun teX12_areAsked 24).trans rfl
theorem tX12_areAsked_25 : tX12_areAsked 25 = oZret := (congrFun teX12_areAsked 25).trans rfl
def lX12_isNew : List (Nat × qP) := [(0, oK (.int (nI 0)) 1), (1, oIs 2 2), (2, oIl 2 3), (3, oAl 0 4), (4, oGet 12 51 7), (7, oIf2ge 50 10), (10, oAl 0 11), (11, oGet 12 52 14), (14, oIl 2 15), (15, oLald 16), (16, oAl 0 17), (17, oGet 12 45 20), (20, oIl 1 21), (21, oLald 22), (22, oLcmp 23), (23, oIf1ne 44 26), (26, oAl 0 27), (27, oGet 12 53 30), (30, oIl 2 31), (31, oLald 32), (32, oAl 0 33), (33, oGet 12 46 36), (36, oIl 1 37), (37, oLald 38), (38, oLcmp 39), (39, oIf1ne 44 42), (42, oK (.int (nI 0)) 43), (43, oZret), (44, oInc 2 (nI 1) 47), (47, oGo 2), (50, oK (.int (nI 1)) 51), (51, oZret)]
def uX12_isNew : Nat → qP := q_tb lX12_isNew
set_option maxRecDepth 20000 in
theorem suX12_isNew : q_Snd mX12_isNew uX12_isNew := by
  refine q_tb_ok ?_
  unfold lX12_isNew
  refine q_fa (ok_iconst (by decide +kernel : decode cX12_isNew 0 = .ok (.iconst 0, 1)) rfl (by decide +kernel)) ?_
  refine q_fa (ok_istore_n (by decide +kernel : decode cX12_isNew 1 = .ok (.istore_n 2, 1)) rfl rfl (by decide)) ?_
  refine q_fa (ok_iload_n (by decide +kernel : decode cX12_isNew 2 = .ok (.iload_n 2, 1)) rfl rfl) ?_
  refine q_fa (ok_aload_n (by decide +kernel : decode cX12_isNew 3 = .ok (.aload_n 0, 1)) rfl rfl) ?_
  refine q_fa (ok_get (by decide +kernel : decode cX12_isNew 4 = .ok (.getfield 317, 3)) rfl (rfl : vwCl[12]? = some (RX12, TX12, 58)) inX12 (by decide) g1055) ?_
  refine q_fa (ok_if2ge (by decide +kernel : decode cX12_isNew 7 = .ok (.if_icmp .ge 43, 3)) (by decide) rfl) ?_
  refine q_fa (ok_aload_n (by decide +kernel : decode cX12_isNew 10 = .ok (.aload_n 0, 1)) rfl rfl) ?_
  refine q_fa (ok_get (by decide +kernel : decode cX12_isNew 11 = .ok (.getfield 120, 3)) rfl (rfl : vwCl[12]? = some (RX12, TX12, 58)) inX12 (by decide) g1056) ?_
  refine q_fa (ok_iload_n (by decide +kernel : decode cX12_isNew 14 = .ok (.iload_n 2, 1)) rfl rfl) ?_
  refine q_fa (ok_laload (by decide +kernel : decode cX12_isNew 15 = .ok (.laload, 1)) rfl) ?_
  refine q_fa (ok_aload_n (by decide +kernel : decode cX12_isNew 16 = .ok (.aload_n 0, 1)) rfl rfl) ?_
  refine q_fa (ok_get (by decide +kernel : decode cX12_isNew 17 = .ok (.getfield 107, 3)) rfl (rfl : vwCl[12]? = some (RX12, TX12, 58)) inX12 (by decide) g1049) ?_
  refine q_fa (ok_iload_n (by decide +kernel : decode cX12_isNew 20 = .ok (.iload_n 1, 1)) rfl rfl) ?_
  refine q_fa (ok_laload (by decide +kernel : decode cX12_isNew 21 = .ok (.laload, 1)) rfl) ?_
  refine q_fa (ok_lcmp (by decide +kernel : decode cX12_isNew 22 = .ok (.lcmp, 1)) rfl) ?_
  refine q_fa (ok_if1ne (by decide +kernel : decode cX12_isNew 23 = .ok (.ifCond .ne 21, 3)) (by decide) rfl) ?_
  refine q_fa (ok_aload_n (by decide +kernel : decode cX12_isNew 26 = .ok (.aload_n 0, 1)) rfl rfl) ?_
  refine q_fa (ok_get (by decide +kernel : decode cX12_isNew 27 = .ok (.getfield 123, 3)) rfl (rfl : vwCl[12]? = some (RX12, TX12, 58)) inX12 (by decide) g1057) ?_
  refine q_fa (ok_iload_n (by decide +kernel : decode cX12_isNew 30 = .ok (.iload_n 2, 1)) rfl rfl) ?_
  refine q_fa (ok_laload (by decide +kernel : decode cX12_isNew 31 = .ok (.laload, 1)) rfl) ?_
  refine q_fa (ok_aload_n (by decide +kernel : decode cX12_isNew 32 = .ok (.aload_n 0, 1)) rfl rfl) ?_
  refine q_fa (ok_get (by decide +kernel : decode cX12_isNew 33 = .ok (.getfield 111, 3)) rfl (rfl : vwCl[12]? = some (RX12, TX12, 58)) inX12 (by decide) g1050) ?_
  refine q_fa (ok_iload_n (by decide +kernel : decode cX12_isNew 36 = .ok (.iload_n 1, 1)) rfl rfl) ?_
  refine q_fa (ok_laload (by decide +kernel : decode cX12_isNew 37 = .ok (.laload, 1)) rfl) ?_
  refine q_fa (ok_lcmp (by decide +kernel : decode cX12_isNew 38 = .ok (.lcmp, 1)) rfl) ?_
  refine q_fa (ok_if1ne (by decide +kernel : decode cX12_isNew 39 = .ok (.ifCond .ne 5, 3)) (by decide) rfl) ?_
  refine q_fa (ok_iconst (by decide +kernel : decode cX12_isNew 42 = .ok (.iconst 0, 1)) rfl (by decide +kernel)) ?_
  refine q_fa (ok_zret (by decide +kernel : decode cX12_isNew 43 = .ok (.ireturn, 1)) rfl) ?_
  refine q_fa (ok_iinc (by decide +kernel : decode cX12_isNew 44 = .ok (.iinc 2 1, 3)) rfl (by decide +kernel) (by decide)) ?_
  refine q_fa (ok_goto (by decide +kernel : decode cX12_isNew 47 = .ok (.goto (-45), 3)) (by decide)) ?_
  refine q_fa (ok_iconst (by decide +kernel : decode cX12_isNew 50 = .ok (.iconst 1, 1)) rfl (by decide +kernel)) ?_
  refine q_fa (ok_zret (by decide +kernel : decode cX12_isNew 51 = .ok (.ireturn, 1)) rfl) ?_
  exact q_fa0
theorem exX12_isNew : ∃ t : Nat → qP, t = uX12_isNew := ⟨_, rfl⟩
noncomputable def tX12_isNew : Nat → qP := Classical.choose exX12_isNew
theorem teX12_isNew : tX12_isNew = uX12_isNew := Classical.choose_spec exX12_isNew
theorem sX12_isNew : q_Snd mX12_isNew tX12_isNew := by rw [teX12_isNew]; exact suX12_isNew
theorem tX12_isNew_0 : tX12_isNew 0 = oK (.int (nI 0)) 1 := (congrFun teX12_isNew 0).trans rfl
theorem tX12_isNew_1 : tX12_isNew 1 = oIs 2 2 := (congrFun teX12_isNew 1).trans rfl
theorem tX12_isNew_2 : tX12_isNew 2 = oIl 2 3 := (congrFun teX12_isNew 2).trans rfl
theorem tX12_isNew_3 : tX12_isNew 3 = oAl 0 4 := (congrFun teX12_isNew 3).trans rfl
theorem tX12_isNew_4 : tX12_isNew 4 = oGet 12 51 7 := (congrFun teX12_isNew 4).trans rfl
theorem tX12_isNew_7 : tX12_isNew 7 = oIf2ge 50 10 := (congrFun teX12_isNew 7).trans rfl
theorem tX12_isNew_10 : tX12_isNew 10 = oAl 0 11 := (congrFun teX12_isNew 10).trans rfl
theorem tX12_isNew_11 : tX12_isNew 11 = oGet 12 52 14 := (congrFun teX12_isNew 11).trans rfl
theorem tX12_isNew_14 : tX12_isNew 14 = oIl 2 15 := (congrFun teX12_isNew 14).trans rfl
theorem tX12_isNew_15 : tX12_isNew 15 = oLald 16 := (congrFun teX12_isNew 15).trans rfl
theorem tX12_isNew_16 : tX12_isNew 16 = oAl 0 17 := (congrFun teX12_isNew 16).trans rfl
theorem tX12_isNew_17 : tX12_isNew 17 = oGet 12 45 20 := (congrFun teX12_isNew 17).trans rfl
theorem tX12_isNew_20 : tX12_isNew 20 = oIl 1 21 := (congrFun teX12_isNew 20).trans rfl
theorem tX12_isNew_21 : tX12_isNew 21 = oLald 22 := (congrFun teX12_isNew 21).trans rfl
theorem tX12_isNew_22 : tX12_isNew 22 = oLcmp 23 := (congrFun teX12_isNew 22).trans rfl
theorem tX12_isNew_23 : tX12_isNew 23 = oIf1ne 44 26 := (congrFun teX12_isNew 23).trans rfl
theorem tX12_isNew_26 : tX12_isNew 26 = oAl 0 27 := (congrFun teX12_isNew 26).trans rfl
theorem tX12_isNew_27 : tX12_isNew 27 = oGet 12 53 30 := (congrFun teX12_isNew 27).trans rfl
theorem tX12_isNew_30 : tX12_isNew 30 = oIl 2 31 := (congrFun teX12_isNew 30).trans rfl
theorem tX12_isNew_31 : tX12_isNew 31 = oLald 32 := (congrFun teX12_isNew 31).trans rfl
theorem tX12_isNew_32 : tX12_isNew 32 = oAl 0 33 := (congrFun teX12_isNew 32).trans rfl
theorem tX12_isNew_33 : tX12_isNew 33 = oGet 12 46 36 := (congrFun teX12_isNew 33).trans rfl
theorem tX12_isNew_36 : tX12_isNew 36 = oIl 1 37 := (congrFun teX12_isNew 36).trans rfl
theorem tX12_isNew_37 : tX12_isNew 37 = oLald 38 := (congrFun teX12_isNew 37).trans rfl
theorem tX12_isNew_38 : tX12_isNew 38 = oLcmp 39 := (congrFun teX12_isNew 38).trans rfl
theorem tX12_isNew_39 : tX12_isNew 39 = oIf1ne 44 42 := (congrFun teX12_isNew 39).trans rfl
theorem tX12_isNew_42 : tX12_isNew 42 = oK (.int (nI 0)) 43 := (congrFun teX12_isNew 42).trans rfl
theorem tX12_isNew_43 : tX12_isNew 43 = oZret := (congrFun teX12_isNew 43).trans rfl
theorem tX12_isNew_44 : tX12_isNew 44 = oInc 2 (nI 1) 47 := (congrFun teX12_isNew 44).trans rfl
theorem tX12_isNew_47 : tX12_isNew 47 = oGo 2 := (congrFun teX12_isNew 47).trans rfl
theorem tX12_isNew_50 : tX12_isNew 50 = oK (.int (nI 1)) 51 := (congrFun teX12_isNew 50).trans rfl
theorem tX12_isNew_51 : tX12_isNew 51 = oZret := (congrFun teX12_isNew 51).trans rfl
def lX12_note : List (Nat × qP) := [(0, oAl 0 1), (1, oGet 12 52 4), (4, oAl 0 5), (5, oGet 12 51 8), (8, oAl 0 9), (9, oGet 12 45 12), (12, oIl 1 13), (13, oLald 14), (14, oLast 15), (15, oAl 0 16), (16, oGet 12 53 19), (19, oAl 0 20), (20, oGet 12 51 23), (23, oAl 0 24), (24, oGet 12 46 27), (27, oIl 1 28), (28, oLald 29), (29, oLast 30), (30, oAl 0 31), (31, oDup 32), (32, oGet 12 51 35), (35, oK (.int (nI 1)) 36), (36, oAdd 37), (37, oPutI 12 51 40), (40, oVret)]
def uX12_note : Nat → qP := q_tb lX12_note
set_option maxRecDepth 20000 in
theorem suX12_note : q_Snd mX12_note uX12_note := by
  refine q_tb_ok ?_
  unfold lX12_note
  refine q_fa (ok_aload_n (by decide +kernel : decode cX12_note 0 = .ok (.aload_n 0, 1)) rfl rfl) ?_
  refine q_fa (ok_get (by decide +kernel : decode cX12_note 1 = .ok (.getfield 120, 3)) rfl (rfl : vwCl[12]? = some (RX12, TX12, 58)) inX12 (by decide) g1056) ?_
  refine q_fa (ok_aload_n (by decide +kernel : decode cX12_note 4 = .ok (.aload_n 0, 1)) rfl rfl) ?_
  refine q_fa (ok_get (by decide +kernel : decode cX12_note 5 = .ok (.getfield 317, 3)) rfl (rfl : vwCl[12]? = some (RX12, TX12, 58)) inX12 (by decide) g1055) ?_
  refine q_fa (ok_aload_n (by decide +kernel : decode cX12_note 8 = .ok (.aload_n 0, 1)) rfl rfl) ?_
  refine q_fa (ok_get (by decide +kernel : decode cX12_note 9 = .ok (.getfield 107, 3)) rfl (rfl : vwCl[12]? = some (RX12, TX12, 58)) inX12 (by decide) g1049) ?_
  refine q_fa (ok_iload_n (by decide +kernel : decode cX12_note 12 = .ok (.iload_n 1, 1)) rfl rfl) ?_
  refine q_fa (ok_laload (by decide +kernel : decode cX12_note 13 = .ok (.laload, 1)) rfl) ?_
  refine q_fa (ok_lastore (by decide +kernel : decode cX12_note 14 = .ok (.lastore, 1)) rfl) ?_
  refine q_fa (ok_aload_n (by decide +kernel : decode cX12_note 15 = .ok (.aload_n 0, 1)) rfl rfl) ?_
  refine q_fa (ok_get (by decide +kernel : decode cX12_note 16 = .ok (.getfield 123, 3)) rfl (rfl : vwCl[12]? = some (RX12, TX12, 58)) inX12 (by decide) g1057) ?_
  refine q_fa (ok_aload_n (by decide +kernel : decode cX12_note 19 = .ok (.aload_n 0, 1)) rfl rfl) ?_
  refine q_fa (ok_get (by decide +kernel : decode cX12_note 20 = .ok (.getfield 317, 3)) rfl (rfl : vwCl[12]? = some (RX12, TX12, 58)) inX12 (by decide) g1055) ?_
  refine q_fa (ok_aload_n (by decide +kernel : decode cX12_note 23 = .ok (.aload_n 0, 1)) rfl rfl) ?_
  refine q_fa (ok_get (by decide +kernel : decode cX12_note 24 = .ok (.getfield 111, 3)) rfl (rfl : vwCl[12]? = some (RX12, TX12, 58)) inX12 (by decide) g1050) ?_
  refine q_fa (ok_iload_n (by decide +kernel : decode cX12_note 27 = .ok (.iload_n 1, 1)) rfl rfl) ?_
  refine q_fa (ok_laload (by decide +kernel : decode cX12_note 28 = .ok (.laload, 1)) rfl) ?_
  refine q_fa (ok_lastore (by decide +kernel : decode cX12_note 29 = .ok (.lastore, 1)) rfl) ?_
  refine q_fa (ok_aload_n (by decide +kernel : decode cX12_note 30 = .ok (.aload_n 0, 1)) rfl rfl) ?_
  refine q_fa (ok_dup (by decide +kernel : decode cX12_note 31 = .ok (.dup, 1)) rfl) ?_
  refine q_fa (ok_get (by decide +kernel : decode cX12_note 32 = .ok (.getfield 317, 3)) rfl (rfl : vwCl[12]? = some (RX12, TX12, 58)) inX12 (by decide) g1055) ?_
  refine q_fa (ok_iconst (by decide +kernel : decode cX12_note 35 = .ok (.iconst 1, 1)) rfl (by decide +kernel)) ?_
  refine q_fa (ok_iadd (by decide +kernel : decode cX12_note 36 = .ok (.iadd, 1)) rfl) ?_
  refine q_fa (ok_putI tyX12 (by decide +kernel : decode cX12_note 37 = .ok (.putfield 317, 3)) rfl (rfl : vwCl[12]? = some (RX12, TX12, 58)) inX12 tyX12_ok nmX12 (by decide) g1055 (Or.inl rfl) (by decide +kernel)) ?_
  refine q_fa (ok_vret (by decide +kernel : decode cX12_note 40 = .ok (.return_, 1)) rfl) ?_
  exact q_fa0
theorem exX12_note : ∃ t : Nat → qP, t = uX12_note := ⟨_, rfl⟩
noncomputable def tX12_note : Nat → qP := Classical.choose exX12_note
theorem teX12_note : tX12_note = uX12_note := Classical.choose_spec exX12_note
theorem sX12_note : q_Snd mX12_note tX12_note := by rw [teX12_note]; exact suX12_note
theorem tX12_note_0 : tX12_note 0 = oAl 0 1 := (congrFun teX12_note 0).trans rfl
theorem tX12_note_1 : tX12_note 1 = oGet 12 52 4 := (congrFun teX12_note 1).trans rfl
theorem tX12_note_4 : tX12_note 4 = oAl 0 5 := (congrFun teX12_note 4).trans rfl
theorem tX12_note_5 : tX12_note 5 = oGet 12 51 8 := (congrFun teX12_note 5).trans rfl
theorem tX12_note_8 : tX12_note 8 = oAl 0 9 := (congrFun teX12_note 8).trans rfl
theorem tX12_note_9 : tX12_note 9 = oGet 12 45 12 := (congrFun teX12_note 9).trans rfl
theorem tX12_note_12 : tX12_note 12 = oIl 1 13 := (congrFun teX12_note 12).trans rfl
theorem tX12_note_13 : tX12_note 13 = oLald 14 := (congrFun teX12_note 13).trans rfl
theorem tX12_note_14 : tX12_note 14 = oLast 15 := (congrFun teX12_note 14).trans rfl
theorem tX12_note_15 : tX12_note 15 = oAl 0 16 := (congrFun teX12_note 15).trans rfl
theorem tX12_note_16 : tX12_note 16 = oGet 12 53 19 := (congrFun teX12_note 16).trans rfl
theorem tX12_note_19 : tX12_note 19 = oAl 0 20 := (congrFun teX12_note 19).trans rfl
theorem tX12_note_20 : tX12_note 20 = oGet 12 51 23 := (congrFun teX12_note 20).trans rfl
theorem tX12_note_23 : tX12_note 23 = oAl 0 24 := (congrFun teX12_note 23).trans rfl
theorem tX12_note_24 : tX12_note 24 = oGet 12 46 27 := (congrFun teX12_note 24).trans rfl
theorem tX12_note_27 : tX12_note 27 = oIl 1 28 := (congrFun teX12_note 27).trans rfl
theorem tX12_note_28 : tX12_note 28 = oLald 29 := (congrFun teX12_note 28).trans rfl
theorem tX12_note_29 : tX12_note 29 = oLast 30 := (congrFun teX12_note 29).trans rfl
theorem tX12_note_30 : tX12_note 30 = oAl 0 31 := (congrFun teX12_note 30).trans rfl
theorem tX12_note_31 : tX12_note 31 = oDup 32 := (congrFun teX12_note 31).trans rfl
theorem tX12_note_32 : tX12_note 32 = oGet 12 51 35 := (congrFun teX12_note 32).trans rfl
theorem tX12_note_35 : tX12_note 35 = oK (.int (nI 1)) 36 := (congrFun teX12_note 35).trans rfl
theorem tX12_note_36 : tX12_note 36 = oAdd 37 := (congrFun teX12_note 36).trans rfl
theorem tX12_note_37 : tX12_note 37 = oPutI 12 51 40 := (congrFun teX12_note 37).trans rfl
theorem tX12_note_40 : tX12_note 40 = oVret := (congrFun teX12_note 40).trans rfl
def lX12_goOn : List (Nat × qP) := [(0, oAl 0 1), (1, oGet 12 50 4), (4, oAl 0 5), (5, oGet 12 11 8), (8, oIf2ge 87 11), (11, oAl 0 12), (12, oGet 12 50 15), (15, oIs 2 16), (16, oAl 0 17), (17, oDup 18), (18, oGet 12 50 21), (21, oK (.int (nI 1)) 22), (22, oAdd 23), (23, oPutI 12 50 26), (26, oAl 0 27), (27, oIl 2 28), (28, oAl 0 29), (29, oGet 12 48 32), (32, oAl 0 33), (33, oGet 12 49 36), (36, oCallV 12 mX12_isOf 3 39), (39, oIf1eq 0 42), (42, oAl 0 43), (43, oIl 2 44), (44, oCallV 12 mX12_agreesAll 1 47), (47, oIf1ne 53 50), (50, oGo 0), (53, oAl 0 54), (54, oIl 2 55), (55, oCallV 12 mX12_know 1 58), (58, oAl 0 59), (59, oIl 2 60), (60, oCallV 12 mX12_isNew 1 63), (63, oIf1ne 69 66), (66, oGo 0), (69, oAl 0 70), (70, oIl 2 71), (71, oCallV 12 mX12_note 1 74), (74, oAl 0 75), (75, oIl 1 76), (76, oIl 2 77), (77, oCallV 12 mX12_put 2 80), (80, oAl 0 81), (81, oGet 12 7 84), (84, oIl 2 85), (85, oIald 86), (86, oIret), (87, oK (.int (-2)) 89), (89, oIret)]
def uX12_goOn : Nat → qP := q_tb lX12_goOn
set_option maxRecDepth 20000 in
theorem suX12_goOn : q_Snd mX12_goOn uX12_goOn := by
  refine q_tb_ok ?_
  unfold lX12_goOn
  refine q_fa (ok_aload_n (by decide +kernel : decode cX12_goOn 0 = .ok (.aload_n 0, 1)) rfl rfl) ?_
  refine q_fa (ok_get (by decide +kernel : decode cX12_goOn 1 = .ok (.getfield 320, 3)) rfl (rfl : vwCl[12]? = some (RX12, TX12, 58)) inX12 (by decide) g1054) ?_
  refine q_fa (ok_aload_n (by decide +kernel : decode cX12_goOn 4 = .ok (.aload_n 0, 1)) rfl rfl) ?_
  refine q_fa (ok_get (by decide +kernel : decode cX12_goOn 5 = .ok (.getfield 146, 3)) rfl (rfl : vwCl[12]? = some (RX12, TX12, 58)) inX12 (by decide) g1015) ?_
  refine q_fa (ok_if2ge (by decide +kernel : decode cX12_goOn 8 = .ok (.if_icmp .ge 79, 3)) (by decide) rfl) ?_
  refine q_fa (ok_aload_n (by decide +kernel : decode cX12_goOn 11 = .ok (.aload_n 0, 1)) rfl rfl) ?_
  refine q_fa (ok_get (by decide +kernel : decode cX12_goOn 12 = .ok (.getfield 320, 3)) rfl (rfl : vwCl[12]? = some (RX12, TX12, 58)) inX12 (by decide) g1054) ?_
  refine q_fa (ok_istore_n (by decide +kernel : decode cX12_goOn 15 = .ok (.istore_n 2, 1)) rfl rfl (by decide)) ?_
  refine q_fa (ok_aload_n (by decide +kernel : decode cX12_goOn 16 = .ok (.aload_n 0, 1)) rfl rfl) ?_
  refine q_fa (ok_dup (by decide +kernel : decode cX12_goOn 17 = .ok (.dup, 1)) rfl) ?_
  refine q_fa (ok_get (by decide +kernel : decode cX12_goOn 18 = .ok (.getfield 320, 3)) rfl (rfl : vwCl[12]? = some (RX12, TX12, 58)) inX12 (by decide) g1054) ?_
  refine q_fa (ok_iconst (by decide +kernel : decode cX12_goOn 21 = .ok (.iconst 1, 1)) rfl (by decide +kernel)) ?_
  refine q_fa (ok_iadd (by decide +kernel : decode cX12_goOn 22 = .ok (.iadd, 1)) rfl) ?_
  refine q_fa (ok_putI tyX12 (by decide +kernel : decode cX12_goOn 23 = .ok (.putfield 320, 3)) rfl (rfl : vwCl[12]? = some (RX12, TX12, 58)) inX12 tyX12_ok nmX12 (by decide) g1054 (Or.inl rfl) (by decide +kernel)) ?_
  refine q_fa (ok_aload_n (by decide +kernel : decode cX12_goOn 26 = .ok (.aload_n 0, 1)) rfl rfl) ?_
  refine q_fa (ok_iload_n (by decide +kernel : decode cX12_goOn 27 = .ok (.iload_n 2, 1)) rfl rfl) ?_
  refine q_fa (ok_aload_n (by decide +kernel : decode cX12_goOn 28 = .ok (.aload_n 0, 1)) rfl rfl) ?_
  refine q_fa (ok_get (by decide +kernel : decode cX12_goOn 29 = .ok (.getfield 117, 3)) rfl (rfl : vwCl[12]? = some (RX12, TX12, 58)) inX12 (by decide) g1052) ?_
  refine q_fa (ok_aload_n (by decide +kernel : decode cX12_goOn 32 = .ok (.aload_n 0, 1)) rfl rfl) ?_
  refine q_fa (ok_get (by decide +kernel : decode cX12_goOn 33 = .ok (.getfield 323, 3)) rfl (rfl : vwCl[12]? = some (RX12, TX12, 58)) inX12 (by decide) g1053) ?_
  refine q_fa (ok_callV (by decide +kernel : decode cX12_goOn 36 = .ok (.invokevirtual 326, 3)) rfl kX12_isOf.1 kX12_isOf.2.1 kX12_isOf.2.2.1 kX12_isOf.2.2.2.1 kX12_isOf.2.2.2.2 (rfl : vwCl[12]? = some (RX12, TX12, 58)) g1423 gs86 g1421) ?_
  refine q_fa (ok_if1eq (by decide +kernel : decode cX12_goOn 39 = .ok (.ifCond .eq (-39), 3)) (by decide) rfl) ?_
  refine q_fa (ok_aload_n (by decide +kernel : decode cX12_goOn 42 = .ok (.aload_n 0, 1)) rfl rfl) ?_
  refine q_fa (ok_iload_n (by decide +kernel : decode cX12_goOn 43 = .ok (.iload_n 2, 1)) rfl rfl) ?_
  refine q_fa (ok_callV (by decide +kernel : decode cX12_goOn 44 = .ok (.invokevirtual 329, 3)) rfl kX12_agreesAll.1 kX12_agreesAll.2.1 kX12_agreesAll.2.2.1 kX12_agreesAll.2.2.2.1 kX12_agreesAll.2.2.2.2 (rfl : vwCl[12]? = some (RX12, TX12, 58)) g1427 gs87 g1425) ?_
  refine q_fa (ok_if1ne (by decide +kernel : decode cX12_goOn 47 = .ok (.ifCond .ne 6, 3)) (by decide) rfl) ?_
  refine q_fa (ok_goto (by decide +kernel : decode cX12_goOn 50 = .ok (.goto (-50), 3)) (by decide)) ?_
  refine q_fa (ok_aload_n (by decide +kernel : decode cX12_goOn 53 = .ok (.aload_n 0, 1)) rfl rfl) ?_
  refine q_fa (ok_iload_n (by decide +kernel : decode cX12_goOn 54 = .ok (.iload_n 2, 1)) rfl rfl) ?_
  refine q_fa (ok_callV (by decide +kernel : decode cX12_goOn 55 = .ok (.invokevirtual 332, 3)) rfl kX12_know.1 kX12_know.2.1 kX12_know.2.2.1 kX12_know.2.2.2.1 kX12_know.2.2.2.2 (rfl : vwCl[12]? = some (RX12, TX12, 58)) g1431 gs88 g1429) ?_
  refine q_fa (ok_aload_n (by decide +kernel : decode cX12_goOn 58 = .ok (.aload_n 0, 1)) rfl rfl) ?_
  refine q_fa (ok_iload_n (by decide +kernel : decode cX12_goOn 59 = .ok (.iload_n 2, 1)) rfl rfl) ?_
  refine q_fa (ok_callV (by decide +kernel : decode cX12_goOn 60 = .ok (.invokevirtual 335, 3)) rfl kX12_isNew.1 kX12_isNew.2.1 kX12_isNew.2.2.1 kX12_isNew.2.2.2.1 kX12_isNew.2.2.2.2 (rfl : vwCl[12]? = some (RX12, TX12, 58)) g1439 gs90 g1437) ?_
  refine q_fa (ok_if1ne (by decide +kernel : decode cX12_goOn 63 = .ok (.ifCond .ne 6, 3)) (by decide) rfl) ?_
  refine q_fa (ok_goto (by decide +kernel : decode cX12_goOn 66 = .ok (.goto (-66), 3)) (by decide)) ?_
  refine q_fa (ok_aload_n (by decide +kernel : decode cX12_goOn 69 = .ok (.aload_n 0, 1)) rfl rfl) ?_
  refine q_fa (ok_iload_n (by decide +kernel : decode cX12_goOn 70 = .ok (.iload_n 2, 1)) rfl rfl) ?_
  refine q_fa (ok_callV (by decide +kernel : decode cX12_goOn 71 = .ok (.invokevirtual 338, 3)) rfl kX12_note.1 kX12_note.2.1 kX12_note.2.2.1 kX12_note.2.2.2.1 kX12_note.2.2.2.2 (rfl : vwCl[12]? = some (RX12, TX12, 58)) g1443 gs91 g1441) ?_
  refine q_fa (ok_aload_n (by decide +kernel : decode cX12_goOn 74 = .ok (.aload_n 0, 1)) rfl rfl) ?_
  refine q_fa (ok_iload_n (by decide +kernel : decode cX12_goOn 75 = .ok (.iload_n 1, 1)) rfl rfl) ?_
  refine q_fa (ok_iload_n (by decide +kernel : decode cX12_goOn 76 = .ok (.iload_n 2, 1)) rfl rfl) ?_
  refine q_fa (ok_callV (by decide +kernel : decode cX12_goOn 77 = .ok (.invokevirtual 226, 3)) rfl kX12_put.1 kX12_put.2.1 kX12_put.2.2.1 kX12_put.2.2.2.1 kX12_put.2.2.2.2 (rfl : vwCl[12]? = some (RX12, TX12, 58)) g1243 gs58 g1241) ?_
  refine q_fa (ok_aload_n (by decide +kernel : decode cX12_goOn 80 = .ok (.aload_n 0, 1)) rfl rfl) ?_
  refine q_fa (ok_get (by decide +kernel : decode cX12_goOn 81 = .ok (.getfield 25, 3)) rfl (rfl : vwCl[12]? = some (RX12, TX12, 58)) inX12 (by decide) g1011) ?_
  refine q_fa (ok_iload_n (by decide +kernel : decode cX12_goOn 84 = .ok (.iload_n 2, 1)) rfl rfl) ?_
  refine q_fa (ok_iaload (by decide +kernel : decode cX12_goOn 85 = .ok (.iaload, 1)) rfl) ?_
  refine q_fa (ok_iret (by decide +kernel : decode cX12_goOn 86 = .ok (.ireturn, 1)) rfl) ?_
  refine q_fa (ok_bipush (by decide +kernel : decode cX12_goOn 87 = .ok (.bipush (-2), 2)) rfl (by decide +kernel)) ?_
  refine q_fa (ok_iret (by decide +kernel : decode cX12_goOn 89 = .ok (.ireturn, 1)) rfl) ?_
  exact q_fa0
theorem exX12_goOn : ∃ t : Nat → qP, t = uX12_goOn := ⟨_, rfl⟩
noncomputable def tX12_goOn : Nat → qP := Classical.choose exX12_goOn
theorem teX12_goOn : tX12_goOn = uX12_goOn := Classical.choose_spec exX12_goOn
theorem sX12_goOn : q_Snd mX12_goOn tX12_goOn := by rw [teX12_goOn]; exact suX12_goOn
theorem tX12_goOn_0 : tX12_goOn 0 = oAl 0 1 := (congrFun teX12_goOn 0).trans rfl
theorem tX12_goOn_1 : tX12_goOn 1 = oGet 12 50 4 := (congrFun teX12_goOn 1).trans rfl
theorem tX12_goOn_4 : tX12_goOn 4 = oAl 0 5 := (congrFun teX12_goOn 4).trans rfl
theorem tX12_goOn_5 : tX12_goOn 5 = oGet 12 11 8 := (congrFun teX12_goOn 5).trans rfl
theorem tX12_goOn_8 : tX12_goOn 8 = oIf2ge 87 11 := (congrFun teX12_goOn 8).trans rfl
theorem tX12_goOn_11 : tX12_goOn 11 = oAl 0 12 := (congrFun teX12_goOn 11).trans rfl
theorem tX12_goOn_12 : tX12_goOn 12 = oGet 12 50 15 := (congrFun teX12_goOn 12).trans rfl
theorem tX12_goOn_15 : tX12_goOn 15 = oIs 2 16 := (congrFun teX12_goOn 15).trans rfl
theorem tX12_goOn_16 : tX12_goOn 16 = oAl 0 17 := (congrFun teX12_goOn 16).trans rfl
theorem tX12_goOn_17 : tX12_goOn 17 = oDup 18 := (congrFun teX12_goOn 17).trans rfl
theorem tX12_goOn_18 : tX12_goOn 18 = oGet 12 50 21 := (congrFun teX12_goOn 18).trans rfl
theorem tX12_goOn_21 : tX12_goOn 21 = oK (.int (nI 1)) 22 := (congrFun teX12_goOn 21).trans rfl
theorem tX12_goOn_22 : tX12_goOn 22 = oAdd 23 := (congrFun teX12_goOn 22).trans rfl
theorem tX12_goOn_23 : tX12_goOn 23 = oPutI 12 50 26 := (congrFun teX12_goOn 23).trans rfl
theorem tX12_goOn_26 : tX12_goOn 26 = oAl 0 27 := (congrFun teX12_goOn 26).trans rfl
theorem tX12_goOn_27 : tX12_goOn 27 = oIl 2 28 := (congrFun teX12_goOn 27).trans rfl
theorem tX12_goOn_28 : tX12_goOn 28 = oAl 0 29 := (congrFun teX12_goOn 28).trans rfl
theorem tX12_goOn_29 : tX12_goOn 29 = oGet 12 48 32 := (congrFun teX12_goOn 29).trans rfl
theorem tX12_goOn_32 : tX12_goOn 32 = oAl 0 33 := (congrFun teX12_goOn 32).trans rfl
theorem tX12_goOn_33 : tX12_goOn 33 = oGet 12 49 36 := (congrFun teX12_goOn 33).trans rfl
theorem tX12_goOn_36 : tX12_goOn 36 = oCallV 12 mX12_isOf 3 39 := (congrFun teX12_goOn 36).trans rfl
theorem tX12_goOn_39 : tX12_goOn 39 = oIf1eq 0 42 := (congrFun teX12_goOn 39).trans rfl
theorem tX12_goOn_42 : tX12_goOn 42 = oAl 0 43 := (congrFun teX12_goOn 42).trans rfl
theorem tX12_goOn_43 : tX12_goOn 43 = oIl 2 44 := (congrFun teX12_goOn 43).trans rfl
theorem tX12_goOn_44 : tX12_goOn 44 = oCallV 12 mX12_agreesAll 1 47 := (congrFun teX12_goOn 44).trans rfl
theorem tX12_goOn_47 : tX12_goOn 47 = oIf1ne 53 50 := (congrFun teX12_goOn 47).trans rfl
theorem tX12_goOn_50 : tX12_goOn 50 = oGo 0 := (congrFun teX12_goOn 50).trans rfl
theorem tX12_goOn_53 : tX12_goOn 53 = oAl 0 54 := (congrFun teX12_goOn 53).trans rfl
theorem tX12_goOn_54 : tX12_goOn 54 = oIl 2 55 := (congrFun teX12_goOn 54).trans rfl
theorem tX12_goOn_55 : tX12_goOn 55 = oCallV 12 mX12_know 1 58 := (congrFun teX12_goOn 55).trans rfl
theorem tX12_goOn_58 : tX12_goOn 58 = oAl 0 59 := (congrFun teX12_goOn 58).trans rfl
theorem tX12_goOn_59 : tX12_goOn 59 = oIl 2 60 := (congrFun teX12_goOn 59).trans rfl
theorem tX12_goOn_60 : tX12_goOn 60 = oCallV 12 mX12_isNew 1 63 := (congrFun teX12_goOn 60).trans rfl
theorem tX12_goOn_63 : tX12_goOn 63 = oIf1ne 69 66 := (congrFun teX12_goOn 63).trans rfl
theorem tX12_goOn_66 : tX12_goOn 66 = oGo 0 := (congrFun teX12_goOn 66).trans rfl
theorem tX12_goOn_69 : tX12_goOn 69 = oAl 0 70 := (congrFun teX12_goOn 69).trans rfl
theorem tX12_goOn_70 : tX12_goOn 70 = oIl 2 71 := (congrFun teX12_goOn 70).trans rfl
theorem tX12_goOn_71 : tX12_goOn 71 = oCallV 12 mX12_note 1 74 := (congrFun teX12_goOn 71).trans rfl
theorem tX12_goOn_74 : tX12_goOn 74 = oAl 0 75 := (congrFun teX12_goOn 74).trans rfl
theorem tX12_goOn_75 : tX12_goOn 75 = oIl 1 76 := (congrFun teX12_goOn 75).trans rfl
theorem tX12_goOn_76 : tX12_goOn 76 = oIl 2 77 := (congrFun teX12_goOn 76).trans rfl
theorem tX12_goOn_77 : tX12_goOn 77 = oCallV 12 mX12_put 2 80 := (congrFun teX12_goOn 77).trans rfl
theorem tX12_goOn_80 : tX12_goOn 80 = oAl 0 81 := (congrFun teX12_goOn 80).trans rfl
theorem tX12_goOn_81 : tX12_goOn 81 = oGet 12 7 84 := (congrFun teX12_goOn 81).trans rfl
theorem tX12_goOn_84 : tX12_goOn 84 = oIl 2 85 := (congrFun teX12_goOn 84).trans rfl
theorem tX12_goOn_85 : tX12_goOn 85 = oIald 86 := (congrFun teX12_goOn 85).trans rfl
theorem tX12_goOn_86 : tX12_goOn 86 = oIret := (congrFun teX12_goOn 86).trans rfl
theorem tX12_goOn_87 : tX12_goOn 87 = oK (.int (-2)) 89 := (congrFun teX12_goOn 87).trans rfl
theorem tX12_goOn_89 : tX12_goOn 89 = oIret := (congrFun teX12_goOn 89).trans rfl
def lX12_find : List (Nat × qP) := [(0, oIl 1 1), (1, oCallS mX12_isPlace 1 4), (4, oIf1eq 15 7), (7, oIl 2 8), (8, oIl 3 9), (9, oCallS mX12_areAsked 2 12), (12, oIf1ne 17 15), (15, oK (.int (-1)) 16), (16, oIret), (17, oAl 0 18), (18, oCallV 12 mX12_lay 0 21), (21, oAl 0 22), (22, oIl 2 23), (23, oPutI 12 48 26), (26, oAl 0 27), (27, oIl 3 28), (28, oPutI 12 49 31), (31, oAl 0 32), (32, oK (.int (nI 0)) 33), (33, oPutI 12 50 36), (36, oAl 0 37), (37, oK (.int (nI 0)) 38), (38, oPutI 12 51 41), (41, oAl 0 42), (42, oIl 1 43), (43, oCallV 12 mX12_goOn 1 46), (46, oIret)]
def uX12_find : Nat → qP := q_tb lX12_find
set_option maxRecDepth 20000 in
theorem suX12_find : q_Snd mX12_find uX12_find := by
  refine q_tb_ok ?_
  unfold lX12_find
  refine q_fa (ok_iload_n (by decide +kernel : decode cX12_find 0 = .ok (.iload_n 1, 1)) rfl rfl) ?_
  refine q_fa (ok_callS (by decide +kernel : decode cX12_find 1 = .ok (.invokestatic 167, 3)) rfl kX12_isPlace.1 kX12_isPlace.2.1 kX12_isPlace.2.2.1 kX12_isPlace.2.2.2.1 kX12_isPlace.2.2.2.2 g1192 g1191) ?_
  refine q_fa (ok_if1eq (by decide +kernel : decode cX12_find 4 = .ok (.ifCond .eq 11, 3)) (by decide) rfl) ?_
  refine q_fa (ok_iload_n (by decide +kernel : decode cX12_find 7 = .ok (.iload_n 2, 1)) rfl rfl) ?_
  refine q_fa (ok_iload_n (by decide +kernel : decode cX12_find 8 = .ok (.iload_n 3, 1)) rfl rfl) ?_
  refine q_fa (ok_callS (by decide +kernel : decode cX12_find 9 = .ok (.invokestatic 341, 3)) rfl kX12_areAsked.1 kX12_areAsked.2.1 kX12_areAsked.2.2.1 kX12_areAsked.2.2.2.1 kX12_areAsked.2.2.2.2 g1415 g1414) ?_
  refine q_fa (ok_if1ne (by decide +kernel : decode cX12_find 12 = .ok (.ifCond .ne 5, 3)) (by decide) rfl) ?_
  refine q_fa (ok_iconst (by decide +kernel : decode cX12_find 15 = .ok (.iconst (-1), 1)) rfl (by decide +kernel)) ?_
  refine q_fa (ok_iret (by decide +kernel : decode cX12_find 16 = .ok (.ireturn, 1)) rfl) ?_
  refine q_fa (ok_aload_n (by decide +kernel : decode cX12_find 17 = .ok (.aload_n 0, 1)) rfl rfl) ?_
  refine q_fa (ok_callV (by decide +kernel : decode cX12_find 18 = .ok (.invokevirtual 252, 3)) rfl kX12_lay.1 kX12_lay.2.1 kX12_lay.2.2.1 kX12_lay.2.2.2.1 kX12_lay.2.2.2.2 (rfl : vwCl[12]? = some (RX12, TX12, 58)) g1287 gs66 g1285) ?_
  refine q_fa (ok_aload_n (by decide +kernel : decode cX12_find 21 = .ok (.aload_n 0, 1)) rfl rfl) ?_
  refine q_fa (ok_iload_n (by decide +kernel : decode cX12_find 22 = .ok (.iload_n 2, 1)) rfl rfl) ?_
  refine q_fa (ok_putI tyX12 (by decide +kernel : decode cX12_find 23 = .ok (.putfield 117, 3)) rfl (rfl : vwCl[12]? = some (RX12, TX12, 58)) inX12 tyX12_ok nmX12 (by decide) g1052 (Or.inl rfl) (by decide +kernel)) ?_
  refine q_fa (ok_aload_n (by decide +kernel : decode cX12_find 26 = .ok (.aload_n 0, 1)) rfl rfl) ?_
  refine q_fa (ok_iload_n (by decide +kernel : decode cX12_find 27 = .ok (.iload_n 3, 1)) rfl rfl) ?_
  refine q_fa (ok_putI tyX12 (by decide +kernel : decode cX12_find 28 = .ok (.putfield 323, 3)) rfl (rfl : vwCl[12]? = some (RX12, TX12, 58)) inX12 tyX12_ok nmX12 (by decide) g1053 (Or.inl rfl) (by decide +kernel)) ?_
  refine q_fa (ok_aload_n (by decide +kernel : decode cX12_find 31 = .ok (.aload_n 0, 1)) rfl rfl) ?_
  refine q_fa (ok_iconst (by decide +kernel : decode cX12_find 32 = .ok (.iconst 0, 1)) rfl (by decide +kernel)) ?_
  refine q_fa (ok_putI tyX12 (by decide +kernel : decode cX12_find 33 = .ok (.putfield 320, 3)) rfl (rfl : vwCl[12]? = some (RX12, TX12, 58)) inX12 tyX12_ok nmX12 (by decide) g1054 (Or.inl rfl) (by decide +kernel)) ?_
  refine q_fa (ok_aload_n (by decide +kernel : decode cX12_find 36 = .ok (.aload_n 0, 1)) rfl rfl) ?_
  refine q_fa (ok_iconst (by decide +kernel : decode cX12_find 37 = .ok (.iconst 0, 1)) rfl (by decide +kernel)) ?_
  refine q_fa (ok_putI tyX12 (by decide +kernel : decode cX12_find 38 = .ok (.putfield 317, 3)) rfl (rfl : vwCl[12]? = some (RX12, TX12, 58)) inX12 tyX12_ok nmX12 (by decide) g1055 (Or.inl rfl) (by decide +kernel)) ?_
  refine q_fa (ok_aload_n (by decide +kernel : decode cX12_find 41 = .ok (.aload_n 0, 1)) rfl rfl) ?_
  refine q_fa (ok_iload_n (by decide +kernel : decode cX12_find 42 = .ok (.iload_n 1, 1)) rfl rfl) ?_
  refine q_fa (ok_callV (by decide +kernel : decode cX12_find 43 = .ok (.invokevirtual 344, 3)) rfl kX12_goOn.1 kX12_goOn.2.1 kX12_goOn.2.2.1 kX12_goOn.2.2.2.1 kX12_goOn.2.2.2.2 (rfl : vwCl[12]? = some (RX12, TX12, 58)) g1419 gs85 g1417) ?_
  refine q_fa (ok_iret (by decide +kernel : decode cX12_find 46 = .ok (.ireturn, 1)) rfl) ?_
  exact q_fa0
theorem exX12_find : ∃ t : Nat → qP, t = uX12_find := ⟨_, rfl⟩
noncomputable def tX12_find : Nat → qP := Classical.choose exX12_find
theorem teX12_find : tX12_find = uX12_find := Classical.choose_spec exX12_find
theorem sX12_find : q_Snd mX12_find tX12_find := by rw [teX12_find]; exact suX12_find
theorem tX12_find_0 : tX12_find 0 = oIl 1 1 := (congrFun teX12_find 0).trans rfl
theorem tX12_find_1 : tX12_find 1 = oCallS mX12_isPlace 1 4 := (congrFun teX12_find 1).trans rfl
theorem tX12_find_4 : tX12_find 4 = oIf1eq 15 7 := (congrFun teX12_find 4).trans rfl
theorem tX12_find_7 : tX12_find 7 = oIl 2 8 := (congrFun teX12_find 7).trans rfl
theorem tX12_find_8 : tX12_find 8 = oIl 3 9 := (congrFun teX12_find 8).trans rfl
theorem tX12_find_9 : tX12_find 9 = oCallS mX12_areAsked 2 12 := (congrFun teX12_find 9).trans rfl
theorem tX12_find_12 : tX12_find 12 = oIf1ne 17 15 := (congrFun teX12_find 12).trans rfl
theorem tX12_find_15 : tX12_find 15 = oK (.int (-1)) 16 := (congrFun teX12_find 15).trans rfl
theorem tX12_find_16 : tX12_find 16 = oIret := (congrFun teX12_find 16).trans rfl
theorem tX12_find_17 : tX12_find 17 = oAl 0 18 := (congrFun teX12_find 17).trans rfl
theorem tX12_find_18 : tX12_find 18 = oCallV 12 mX12_lay 0 21 := (congrFun teX12_find 18).trans rfl
theorem tX12_find_21 : tX12_find 21 = oAl 0 22 := (congrFun teX12_find 21).trans rfl
theorem tX12_find_22 : tX12_find 22 = oIl 2 23 := (congrFun teX12_find 22).trans rfl
theorem tX12_find_23 : tX12_find 23 = oPutI 12 48 26 := (congrFun teX12_find 23).trans rfl
theorem tX12_find_26 : tX12_find 26 = oAl 0 27 := (congrFun teX12_find 26).trans rfl
theorem tX12_find_27 : tX12_find 27 = oIl 3 28 := (congrFun teX12_find 27).trans rfl
theorem tX12_find_28 : tX12_find 28 = oPutI 12 49 31 := (congrFun teX12_find 28).trans rfl
theorem tX12_find_31 : tX12_find 31 = oAl 0 32 := (congrFun teX12_find 31).trans rfl
theorem tX12_find_32 : tX12_find 32 = oK (.int (nI 0)) 33 := (congrFun teX12_find 32).trans rfl
theorem tX12_find_33 : tX12_find 33 = oPutI 12 50 36 := (congrFun teX12_find 33).trans rfl
theorem tX12_find_36 : tX12_find 36 = oAl 0 37 := (congrFun teX12_find 36).trans rfl
theorem tX12_find_37 : tX12_find 37 = oK (.int (nI 0)) 38 := (congrFun teX12_find 37).trans rfl
theorem tX12_find_38 : tX12_find 38 = oPutI 12 51 41 := (congrFun teX12_find 38).trans rfl
theorem tX12_find_41 : tX12_find 41 = oAl 0 42 := (congrFun teX12_find 41).trans rfl
theorem tX12_find_42 : tX12_find 42 = oIl 1 43 := (congrFun teX12_find 42).trans rfl
theorem tX12_find_43 : tX12_find 43 = oCallV 12 mX12_goOn 1 46 := (congrFun teX12_find 43).trans rfl
theorem tX12_find_46 : tX12_find 46 = oIret := (congrFun teX12_find 46).trans rfl
def lX12_next : List (Nat × qP) := [(0, oIl 1 1), (1, oCallS mX12_isPlace 1 4), (4, oIf1eq 14 7), (7, oAl 0 8), (8, oGet 12 48 11), (11, oIf1ge 18 14), (14, oK (.int (-1)) 15), (15, oGo 23), (18, oAl 0 19), (19, oIl 1 20), (20, oCallV 12 mX12_goOn 1 23), (23, oIret)]
def uX12_next : Nat → qP := q_tb lX12_next
set_option maxRecDepth 20000 in
theorem suX12_next : q_Snd mX12_next uX12_next := by
  refine q_tb_ok ?_
  unfold lX12_next
  refine q_fa (ok_iload_n (by decide +kernel : decode cX12_next 0 = .ok (.iload_n 1, 1)) rfl rfl) ?_
  refine q_fa (ok_callS (by decide +kernel : decode cX12_next 1 = .ok (.invokestatic 167, 3)) rfl kX12_isPlace.1 kX12_isPlace.2.1 kX12_isPlace.2.2.1 kX12_isPlace.2.2.2.1 kX12_isPlace.2.2.2.2 g1192 g1191) ?_
  refine q_fa (ok_if1eq (by decide +kernel : decode cX12_next 4 = .ok (.ifCond .eq 10, 3)) (by decide) rfl) ?_
  refine q_fa (ok_aload_n (by decide +kernel : decode cX12_next 7 = .ok (.aload_n 0, 1)) rfl rfl) ?_
  refine q_fa (ok_get (by decide +kernel : decode cX12_next 8 = .ok (.getfield 117, 3)) rfl (rfl : vwCl[12]? = some (RX12, TX12, 58)) inX12 (by decide) g1052) ?_
  refine q_fa (ok_if1ge (by decide +kernel : decode cX12_next 11 = .ok (.ifCond .ge 7, 3)) (by decide) rfl) ?_
  refine q_fa (ok_iconst (by decide +kernel : decode cX12_next 14 = .ok (.iconst (-1), 1)) rfl (by decide +kernel)) ?_
  refine q_fa (ok_goto (by decide +kernel : decode cX12_next 15 = .ok (.goto 8, 3)) (by decide)) ?_
  refine q_fa (ok_aload_n (by decide +kernel : decode cX12_next 18 = .ok (.aload_n 0, 1)) rfl rfl) ?_
  refine q_fa (ok_iload_n (by decide +kernel : decode cX12_next 19 = .ok (.iload_n 1, 1)) rfl rfl) ?_
  refine q_fa (ok_callV (by decide +kernel : decode cX12_next 20 = .ok (.invokevirtual 344, 3)) rfl kX12_goOn.1 kX12_goOn.2.1 kX12_goOn.2.2.1 kX12_goOn.2.2.2.1 kX12_goOn.2.2.2.2 (rfl : vwCl[12]? = some (RX12, TX12, 58)) g1419 gs85 g1417) ?_
  refine q_fa (ok_iret (by decide +kernel : decode cX12_next 23 = .ok (.ireturn, 1)) rfl) ?_
  exact q_fa0
theorem exX12_next : ∃ t : Nat → qP, t = uX12_next := ⟨_, rfl⟩
noncomputable def tX12_next : Nat → qP := Classical.choose exX12_next
theorem teX12_next : tX12_next = uX12_next := Classical.choose_spec exX12_next
theorem sX12_next : q_Snd mX12_next tX12_next := by rw [teX12_next]; exact suX12_next
theorem tX12_next_0 : tX12_next 0 = oIl 1 1 := (congrFun teX12_next 0).trans rfl
theorem tX12_next_1 : tX12_next 1 = oCallS mX12_isPlace 1 4 := (congrFun teX12_next 1).trans rfl
theorem tX12_next_4 : tX12_next 4 = oIf1eq 14 7 := (congrFun teX12_next 4).trans rfl
theorem tX12_next_7 : tX12_next 7 = oAl 0 8 := (congrFun teX12_next 7).trans rfl
theorem tX12_next_8 : tX12_next 8 = oGet 12 48 11 := (congrFun teX12_next 8).trans rfl
theorem tX12_next_11 : tX12_next 11 = oIf1ge 18 14 := (congrFun teX12_next 11).trans rfl
theorem tX12_next_14 : tX12_next 14 = oK (.int (-1)) 15 := (congrFun teX12_next 14).trans rfl
theorem tX12_next_15 : tX12_next 15 = oGo 23 := (congrFun teX12_next 15).trans rfl
theorem tX12_next_18 : tX12_next 18 = oAl 0 19 := (congrFun teX12_next 18).trans rfl
theorem tX12_next_19 : tX12_next 19 = oIl 1 20 := (congrFun teX12_next 19).trans rfl
theorem tX12_next_20 : tX12_next 20 = oCallV 12 mX12_goOn 1 23 := (congrFun teX12_next 20).trans rfl
theorem tX12_next_23 : tX12_next 23 = oIret := (congrFun teX12_next 23).trans rfl
def lX12_found : List (Nat × qP) := [(0, oAl 0 1), (1, oGet 12 51 4), (4, oIret)]
def uX12_found : Nat → qP := q_tb lX12_found
set_option maxRecDepth 20000 in
theorem suX12_found : q_Snd mX12_found uX12_found := by
  refine q_tb_ok ?_
  unfold lX12_found
  refine q_fa (ok_aload_n (by decide +kernel : decode cX12_found 0 = .ok (.aload_n 0, 1)) rfl rfl) ?_
  refine q_fa (ok_get (by decide +kernel : decode cX12_found 1 = .ok (.getfield 317, 3)) rfl (rfl : vwCl[12]? = some (RX12, TX12, 58)) inX12 (by decide) g1055) ?_
  refine q_fa (ok_iret (by decide +kernel : decode cX12_found 4 = .ok (.ireturn, 1)) rfl) ?_
  exact q_fa0
theorem exX12_found : ∃ t : Nat → qP, t = uX12_found := ⟨_, rfl⟩
noncomputable def tX12_found : Nat → qP := Classical.choose exX12_found
theorem teX12_found : tX12_found = uX12_found := Classical.choose_spec exX12_found
theorem sX12_found : q_Snd mX12_found tX12_found := by rw [teX12_found]; exact suX12_found
theorem tX12_found_0 : tX12_found 0 = oAl 0 1 := (congrFun teX12_found 0).trans rfl
theorem tX12_found_1 : tX12_found 1 = oGet 12 51 4 := (congrFun teX12_found 1).trans rfl
theorem tX12_found_4 : tX12_found 4 = oIret := (congrFun teX12_found 4).trans rfl
def lX12_gather : List (Nat × qP) := [(0, oAl 0 1), (1, oCallV 12 mX12_lay 0 4), (4, oAl 0 5), (5, oK (.int (nI 0)) 6), (6, oPutI 12 54 9), (9, oK (.int (nI 0)) 10), (10, oIs 3 11), (11, oIl 3 12), (12, oAl 0 13), (13, oGet 12 11 16), (16, oIf2ge 166 19), (19, oAl 0 20), (20, oIl 3 21), (21, oIl 1 22), (22, oIl 2 23), (23, oCallV 12 mX12_isOf 3 26), (26, oIf1eq 160 29), (29, oAl 0 30), (30, oIl 3 31), (31, oCallV 12 mX12_agreesAll 1 34), (34, oIf1ne 40 37), (37, oGo 160), (40, oAl 0 41), (41, oIl 3 42), (42, oCallV 12 mX12_know 1 45), (45, oK (.int (nI 0)) 46), (46, oIs 4 48), (48, oK (.int (nI 0)) 49), (49, oIs 5 51), (51, oIl 5 53), (53, oAl 0 54), (54, oGet 12 54 57), (57, oIf2ge 112 60), (60, oIl 4 62), (62, oIf1ne 112 65), (65, oAl 0 66), (66, oGet 12 55 69), (69, oIl 5 71), (71, oLald 72), (72, oAl 0 73), (73, oGet 12 45 76), (76, oIl 3 77), (77, oLald 78), (78, oLcmp 79), (79, oIf1ne 103 82), (82, oAl 0 83), (83, oGet 12 56 86), (86, oIl 5 88), (88, oLald 89), (89, oAl 0 90), (90, oGet 12 46 93), (93, oIl 3 94), (94, oLald 95), (95, oLcmp 96), (96, oIf1ne 103 99), (99, oK (.int (nI 1)) 100), (100, oGo 104), (103, oK (.int (nI 0)) 104), (104, oIs 4 106), (106, oInc 5 (nI 1) 109), (109, oGo 51), (112, oIl 4 114), (114, oIf1eq 120 117), (117, oGo 160), (120, oAl 0 121), (121, oGet 12 55 124), (124, oAl 0 125), (125, oGet 12 54 128), (128, oAl 0 129), (129, oGet 12 45 132), (132, oIl 3 133), (133, oLald 134), (134, oLast 135), (135, oAl 0 136), (136, oGet 12 56 139), (139, oAl 0 140), (140, oGet 12 54 143), (143, oAl 0 144), (144, oGet 12 46 147), (147, oIl 3 148), (148, oLald 149), (149, oLast 150), (150, oAl 0 151), (151, oDup 152), (152, oGet 12 54 155), (155, oK (.int (nI 1)) 156), (156, oAdd 157), (157, oPutI 12 54 160), (160, oInc 3 (nI 1) 163), (163, oGo 11), (166, oVret)]
def uX12_gather : Nat → qP := q_tb lX12_gather
set_option maxRecDepth 20000 in
theorem suX12_gather : q_Snd mX12_gather uX12_gather := by
  refine q_tb_ok ?_
  unfold lX12_gather
  refine q_fa (ok_aload_n (by decide +kernel : decode cX12_gather 0 = .ok (.aload_n 0, 1)) rfl rfl) ?_
  refine q_fa (ok_callV (by decide +kernel : decode cX12_gather 1 = .ok (.invokevirtual 252, 3)) rfl kX12_lay.1 kX12_lay.2.1 kX12_lay.2.2.1 kX12_lay.2.2.2.1 kX12_lay.2.2.2.2 (rfl : vwCl[12]? = some (RX12, TX12, 58)) g1287 gs66 g1285) ?_
  refine q_fa (ok_aload_n (by decide +kernel : decode cX12_gather 4 = .ok (.aload_n 0, 1)) rfl rfl) ?_
  refine q_fa (ok_iconst (by decide +kernel : decode cX12_gather 5 = .ok (.iconst 0, 1)) rfl (by decide +kernel)) ?_
  refine q_fa (ok_putI tyX12 (by decide +kernel : decode cX12_gather 6 = .ok (.putfield 347, 3)) rfl (rfl : vwCl[12]? = some (RX12, TX12, 58)) inX12 tyX12_ok nmX12 (by decide) g1058 (Or.inl rfl) (by decide +kernel)) ?_
  refine q_fa (ok_iconst (by decide +kernel : decode cX12_gather 9 = .ok (.iconst 0, 1)) rfl (by decide +kernel)) ?_
  refine q_fa (ok_istore_n (by decide +kernel : decode cX12_gather 10 = .ok (.istore_n 3, 1)) rfl rfl (by decide)) ?_
  refine q_fa (ok_iload_n (by decide +kernel : decode cX12_gather 11 = .ok (.iload_n 3, 1)) rfl rfl) ?_
  refine q_fa (ok_aload_n (by decide +kernel : decode cX12_gather 12 = .ok (.aload_n 0, 1)) rfl rfl) ?_
  refine q_fa (ok_get (by decide +kernel : decode cX12_gather 13 = .ok (.getfield 146, 3)) rfl (rfl : vwCl[12]? = some (RX12, TX12, 58)) inX12 (by decide) g1015) ?_
  refine q_fa (ok_if2ge (by decide +kernel : decode cX12_gather 16 = .ok (.if_icmp .ge 150, 3)) (by decide) rfl) ?_
  refine q_fa (ok_aload_n (by decide +kernel : decode cX12_gather 19 = .ok (.aload_n 0, 1)) rfl rfl) ?_
  refine q_fa (ok_iload_n (by decide +kernel : decode cX12_gather 20 = .ok (.iload_n 3, 1)) rfl rfl) ?_
  refine q_fa (ok_iload_n (by decide +kernel : decode cX12_gather 21 = .ok (.iload_n 1, 1)) rfl rfl) ?_
  refine q_fa (ok_iload_n (by decide +kernel : decode cX12_gather 22 = .ok (.iload_n 2, 1)) rfl rfl) ?_
  refine q_fa (ok_callV (by decide +kernel : decode cX12_gather 23 = .ok (.invokevirtual 326, 3)) rfl kX12_isOf.1 kX12_isOf.2.1 kX12_isOf.2.2.1 kX12_isOf.2.2.2.1 kX12_isOf.2.2.2.2 (rfl : vwCl[12]? = some (RX12, TX12, 58)) g1423 gs86 g1421) ?_
  refine q_fa (ok_if1eq (by decide +kernel : decode cX12_gather 26 = .ok (.ifCond .eq 134, 3)) (by decide) rfl) ?_
  refine q_fa (ok_aload_n (by decide +kernel : decode cX12_gather 29 = .ok (.aload_n 0, 1)) rfl rfl) ?_
  refine q_fa (ok_iload_n (by decide +kernel : decode cX12_gather 30 = .ok (.iload_n 3, 1)) rfl rfl) ?_
  refine q_fa (ok_callV (by decide +kernel : decode cX12_gather 31 = .ok (.invokevirtual 329, 3)) rfl kX12_agreesAll.1 kX12_agreesAll.2.1 kX12_agreesAll.2.2.1 kX12_agreesAll.2.2.2.1 kX12_agreesAll.2.2.2.2 (rfl : vwCl[12]? = some (RX12, TX12, 58)) g1427 gs87 g1425) ?_
  refine q_fa (ok_if1ne (by decide +kernel : decode cX12_gather 34 = .ok (.ifCond .ne 6, 3)) (by decide) rfl) ?_
  refine q_fa (ok_goto (by decide +kernel : decode cX12_gather 37 = .ok (.goto 123, 3)) (by decide)) ?_
  refine q_fa (ok_aload_n (by decide +kernel : decode cX12_gather 40 = .ok (.aload_n 0, 1)) rfl rfl) ?_
  refine q_fa (ok_iload_n (by decide +kernel : decode cX12_gather 41 = .ok (.iload_n 3, 1)) rfl rfl) ?_
  refine q_fa (ok_callV (by decide +kernel : decode cX12_gather 42 = .ok (.invokevirtual 332, 3)) rfl kX12_know.1 kX12_know.2.1 kX12_know.2.2.1 kX12_know.2.2.2.1 kX12_know.2.2.2.2 (rfl : vwCl[12]? = some (RX12, TX12, 58)) g1431 gs88 g1429) ?_
  refine q_fa (ok_iconst (by decide +kernel : decode cX12_gather 45 = .ok (.iconst 0, 1)) rfl (by decide +kernel)) ?_
  refine q_fa (ok_istore (by decide +kernel : decode cX12_gather 46 = .ok (.istore 4, 2)) rfl (by decide)) ?_
  refine q_fa (ok_iconst (by decide +kernel : decode cX12_gather 48 = .ok (.iconst 0, 1)) rfl (by decide +kernel)) ?_
  refine q_fa (ok_istore (by decide +kernel : decode cX12_gather 49 = .ok (.istore 5, 2)) rfl (by decide)) ?_
  refine q_fa (ok_iload (by decide +kernel : decode cX12_gather 51 = .ok (.iload 5, 2)) rfl) ?_
  refine q_fa (ok_aload_n (by decide +kernel : decode cX12_gather 53 = .ok (.aload_n 0, 1)) rfl rfl) ?_
  refine q_fa (ok_get (by decide +kernel : decode cX12_gather 54 = .ok (.getfield 347, 3)) rfl (rfl : vwCl[12]? = some (RX12, TX12, 58)) inX12 (by decide) g1058) ?_
  refine q_fa (ok_if2ge (by decide +kernel : decode cX12_gather 57 = .ok (.if_icmp .ge 55, 3)) (by decide) rfl) ?_
  refine q_fa (ok_iload (by decide +kernel : decode cX12_gather 60 = .ok (.iload 4, 2)) rfl) ?_
  refine q_fa (ok_if1ne (by decide +kernel : decode cX12_gather 62 = .ok (.ifCond .ne 50, 3)) (by decide) rfl) ?_
  refine q_fa (ok_aload_n (by decide +kernel : decode cX12_gather 65 = .ok (.aload_n 0, 1)) rfl rfl) ?_
  refine q_fa (ok_get (by decide +kernel : decode cX12_gather 66 = .ok (.getfield 126, 3)) rfl (rfl : vwCl[12]? = some (RX12, TX12, 58)) inX12 (by decide) g1059) ?_
  refine q_fa (ok_iload (by decide +kernel : decode cX12_gather 69 = .ok (.iload 5, 2)) rfl) ?_
  refine q_fa (ok_laload (by decide +kernel : decode cX12_gather 71 = .ok (.laload, 1)) rfl) ?_
  refine q_fa (ok_aload_n (by decide +kernel : decode cX12_gather 72 = .ok (.aload_n 0, 1)) rfl rfl) ?_
  refine q_fa (ok_get (by decide +kernel : decode cX12_gather 73 = .ok (.getfield 107, 3)) rfl (rfl : vwCl[12]? = some (RX12, TX12, 58)) inX12 (by decide) g1049) ?_
  refine q_fa (ok_iload_n (by decide +kernel : decode cX12_gather 76 = .ok (.iload_n 3, 1)) rfl rfl) ?_
  refine q_fa (ok_laload (by decide +kernel : decode cX12_gather 77 = .ok (.laload, 1)) rfl) ?_
  refine q_fa (ok_lcmp (by decide +kernel : decode cX12_gather 78 = .ok (.lcmp, 1)) rfl) ?_
  refine q_fa (ok_if1ne (by decide +kernel : decode cX12_gather 79 = .ok (.ifCond .ne 24, 3)) (by decide) rfl) ?_
  refine q_fa (ok_aload_n (by decide +kernel : decode cX12_gather 82 = .ok (.aload_n 0, 1)) rfl rfl) ?_
  refine q_fa (ok_get (by decide +kernel : decode cX12_gather 83 = .ok (.getfield 129, 3)) rfl (rfl : vwCl[12]? = some (RX12, TX12, 58)) inX12 (by decide) g1060) ?_
  refine q_fa (ok_iload (by decide +kernel : decode cX12_gather 86 = .ok (.iload 5, 2)) rfl) ?_
  refine q_fa (ok_laload (by decide +kernel : decode cX12_gather 88 = .ok (.laload, 1)) rfl) ?_
  refine q_fa (ok_aload_n (by decide +kernel : decode cX12_gather 89 = .ok (.aload_n 0, 1)) rfl rfl) ?_
  refine q_fa (ok_get (by decide +kernel : decode cX12_gather 90 = .ok (.getfield 111, 3)) rfl (rfl : vwCl[12]? = some (RX12, TX12, 58)) inX12 (by decide) g1050) ?_
  refine q_fa (ok_iload_n (by decide +kernel : decode cX12_gather 93 = .ok (.iload_n 3, 1)) rfl rfl) ?_
  refine q_fa (ok_laload (by decide +kernel : decode cX12_gather 94 = .ok (.laload, 1)) rfl) ?_
  refine q_fa (ok_lcmp (by decide +kernel : decode cX12_gather 95 = .ok (.lcmp, 1)) rfl) ?_
  refine q_fa (ok_if1ne (by decide +kernel : decode cX12_gather 96 = .ok (.ifCond .ne 7, 3)) (by decide) rfl) ?_
  refine q_fa (ok_iconst (by decide +kernel : decode cX12_gather 99 = .ok (.iconst 1, 1)) rfl (by decide +kernel)) ?_
  refine q_fa (ok_goto (by decide +kernel : decode cX12_gather 100 = .ok (.goto 4, 3)) (by decide)) ?_
  refine q_fa (ok_iconst (by decide +kernel : decode cX12_gather 103 = .ok (.iconst 0, 1)) rfl (by decide +kernel)) ?_
  refine q_fa (ok_istore (by decide +kernel : decode cX12_gather 104 = .ok (.istore 4, 2)) rfl (by decide)) ?_
  refine q_fa (ok_iinc (by decide +kernel : decode cX12_gather 106 = .ok (.iinc 5 1, 3)) rfl (by decide +kernel) (by decide)) ?_
  refine q_fa (ok_goto (by decide +kernel : decode cX12_gather 109 = .ok (.goto (-58), 3)) (by decide)) ?_
  refine q_fa (ok_iload (by decide +kernel : decode cX12_gather 112 = .ok (.iload 4, 2)) rfl) ?_
  refine q_fa (ok_if1eq (by decide +kernel : decode cX12_gather 114 = .ok (.ifCond .eq 6, 3)) (by decide) rfl) ?_
  refine q_fa (ok_goto (by decide +kernel : decode cX12_gather 117 = .ok (.goto 43, 3)) (by decide)) ?_
  refine q_fa (ok_aload_n (by decide +kernel : decode cX12_gather 120 = .ok (.aload_n 0, 1)) rfl rfl) ?_
  refine q_fa (ok_get (by decide +kernel : decode cX12_gather 121 = .ok (.getfield 126, 3)) rfl (rfl : vwCl[12]? = some (RX12, TX12, 58)) inX12 (by decide) g1059) ?_
  refine q_fa (ok_aload_n (by decide +kernel : decode cX12_gather 124 = .ok (.aload_n 0, 1)) rfl rfl) ?_
  refine q_fa (ok_get (by decide +kernel : decode cX12_gather 125 = .ok (.getfield 347, 3)) rfl (rfl : vwCl[12]? = some (RX12, TX12, 58)) inX12 (by decide) g1058) ?_
  refine q_fa (ok_aload_n (by decide +kernel : decode cX12_gather 128 = .ok (.aload_n 0, 1)) rfl rfl) ?_
  refine q_fa (ok_get (by decide +kernel : decode cX12_gather 129 = .ok (.getfield 107, 3)) rfl (rfl : vwCl[12]? = some (RX12, TX12, 58)) inX12 (by decide) g1049) ?_
  refine q_fa (ok_iload_n (by decide +kernel : decode cX12_gather 132 = .ok (.iload_n 3, 1)) rfl rfl) ?_
  refine q_fa (ok_laload (by decide +kernel : decode cX12_gather 133 = .ok (.laload, 1)) rfl) ?_
  refine q_fa (ok_lastore (by decide +kernel : decode cX12_gather 134 = .ok (.lastore, 1)) rfl) ?_
  refine q_fa (ok_aload_n (by decide +kernel : decode cX12_gather 135 = .ok (.aload_n 0, 1)) rfl rfl) ?_
  refine q_fa (ok_get (by decide +kernel : decode cX12_gather 136 = .ok (.getfield 129, 3)) rfl (rfl : vwCl[12]? = some (RX12, TX12, 58)) inX12 (by decide) g1060) ?_
  refine q_fa (ok_aload_n (by decide +kernel : decode cX12_gather 139 = .ok (.aload_n 0, 1)) rfl rfl) ?_
  refine q_fa (ok_get (by decide +kernel : decode cX12_gather 140 = .ok (.getfield 347, 3)) rfl (rfl : vwCl[12]? = some (RX12, TX12, 58)) inX12 (by decide) g1058) ?_
  refine q_fa (ok_aload_n (by decide +kernel : decode cX12_gather 143 = .ok (.aload_n 0, 1)) rfl rfl) ?_
  refine q_fa (ok_get (by decide +kernel : decode cX12_gather 144 = .ok (.getfield 111, 3)) rfl (rfl : vwCl[12]? = some (RX12, TX12, 58)) inX12 (by decide) g1050) ?_
  refine q_fa (ok_iload_n (by decide +kernel : decode cX12_gather 147 = .ok (.iload_n 3, 1)) rfl rfl) ?_
  refine q_fa (ok_laload (by decide +kernel : decode cX12_gather 148 = .ok (.laload, 1)) rfl) ?_
  refine q_fa (ok_lastore (by decide +kernel : decode cX12_gather 149 = .ok (.lastore, 1)) rfl) ?_
  refine q_fa (ok_aload_n (by decide +kernel : decode cX12_gather 150 = .ok (.aload_n 0, 1)) rfl rfl) ?_
  refine q_fa (ok_dup (by decide +kernel : decode cX12_gather 151 = .ok (.dup, 1)) rfl) ?_
  refine q_fa (ok_get (by decide +kernel : decode cX12_gather 152 = .ok (.getfield 347, 3)) rfl (rfl : vwCl[12]? = some (RX12, TX12, 58)) inX12 (by decide) g1058) ?_
  refine q_fa (ok_iconst (by decide +kernel : decode cX12_gather 155 = .ok (.iconst 1, 1)) rfl (by decide +kernel)) ?_
  refine q_fa (ok_iadd (by decide +kernel : decode cX12_gather 156 = .ok (.iadd, 1)) rfl) ?_
  refine q_fa (ok_putI tyX12 (by decide +kernel : decode cX12_gather 157 = .ok (.putfield 347, 3)) rfl (rfl : vwCl[12]? = some (RX12, TX12, 58)) inX12 tyX12_ok nmX12 (by decide) g1058 (Or.inl rfl) (by decide +kernel)) ?_
  refine q_fa (ok_iinc (by decide +kernel : decode cX12_gather 160 = .ok (.iinc 3 1, 3)) rfl (by decide +kernel) (by decide)) ?_
  refine q_fa (ok_goto (by decide +kernel : decode cX12_gather 163 = .ok (.goto (-152), 3)) (by decide)) ?_
  refine q_fa (ok_vret (by decide +kernel : decode cX12_gather 166 = .ok (.return_, 1)) rfl) ?_
  exact q_fa0
theorem exX12_gather : ∃ t : Nat → qP, t = uX12_gather := ⟨_, rfl⟩
noncomputable def tX12_gather : Nat → qP := Classical.choose exX12_gather
theorem teX12_gather : tX12_gather = uX12_gather := Classical.choose_spec exX12_gather
theorem sX12_gather : q_Snd mX12_gather tX12_gather := by rw [teX12_gather]; exact suX12_gather
theorem tX12_gather_0 : tX12_gather 0 = oAl 0 1 := (congrFun teX12_gather 0).trans rfl
theorem tX12_gather_1 : tX12_gather 1 = oCallV 12 mX12_lay 0 4 := (congrFun teX12_gather 1).trans rfl
theorem tX12_gather_4 : tX12_gather 4 = oAl 0 5 := (congrFun teX12_gather 4).trans rfl
theorem tX12_gather_5 : tX12_gather 5 = oK (.int (nI 0)) 6 := (congrFun teX12_gather 5).trans rfl
theorem tX12_gather_6 : tX12_gather 6 = oPutI 12 54 9 := (congrFun teX12_gather 6).trans rfl
theorem tX12_gather_9 : tX12_gather 9 = oK (.int (nI 0)) 10 := (congrFun teX12_gather 9).trans rfl
theorem tX12_gather_10 : tX12_gather 10 = oIs 3 11 := (congrFun teX12_gather 10).trans rfl
theorem tX12_gather_11 : tX12_gather 11 = oIl 3 12 := (congrFun teX12_gather 11).trans rfl
theorem tX12_gather_12 : tX12_gather 12 = oAl 0 13 := (congrFun teX12_gather 12).trans rfl
theorem tX12_gather_13 : tX12_gather 13 = oGet 12 11 16 := (congrFun teX12_gather 13).trans rfl
theorem tX12_gather_16 : tX12_gather 16 = oIf2ge 166 19 := (congrFun teX12_gather 16).trans rfl
theorem tX12_gather_19 : tX12_gather 19 = oAl 0 20 := (congrFun teX12_gather 19).trans rfl
theorem tX12_gather_20 : tX12_gather 20 = oIl 3 21 := (congrFun teX12_gather 20).trans rfl
theorem tX12_gather_21 : tX12_gather 21 = oIl 1 22 := (congrFun teX12_gather 21).trans rfl
theorem tX12_gather_22 : tX12_gather 22 = oIl 2 23 := (congrFun teX12_gather 22).trans rfl
theorem tX12_gather_23 : tX12_gather 23 = oCallV 12 mX12_isOf 3 26 := (congrFun teX12_gather 23).trans rfl
theorem tX12_gather_26 : tX12_gather 26 = oIf1eq 160 29 := (congrFun teX12_gather 26).trans rfl
theorem tX12_gather_29 : tX12_gather 29 = oAl 0 30 := (congrFun teX12_gather 29).trans rfl
theorem tX12_gather_30 : tX12_gather 30 = oIl 3 31 := (congrFun teX12_gather 30).trans rfl
theorem tX12_gather_31 : tX12_gather 31 = oCallV 12 mX12_agreesAll 1 34 := (congrFun teX12_gather 31).trans rfl
theorem tX12_gather_34 : tX12_gather 34 = oIf1ne 40 37 := (congrFun teX12_gather 34).trans rfl
theorem tX12_gather_37 : tX12_gather 37 = oGo 160 := (congrFun teX12_gather 37).trans rfl
theorem tX12_gather_40 : tX12_gather 40 = oAl 0 41 := (congrFun teX12_gather 40).trans rfl
theorem tX12_gather_41 : tX12_gather 41 = oIl 3 42 := (congrFun teX12_gather 41).trans rfl
theorem tX12_gather_42 : tX12_gather 42 = oCallV 12 mX12_know 1 45 := (congrFun teX12_gather 42).trans rfl
theorem tX12_gather_45 : tX12_gather 45 = oK (.int (nI 0)) 46 := (congrFun teX12_gather 45).trans rfl
theorem tX12_gather_46 : tX12_gather 46 = oIs 4 48 := (congrFun teX12_gather 46).trans rfl
theorem tX12_gather_48 : tX12_gather 48 = oK (.int (nI 0)) 49 := (congrFun teX12_gather 48).trans rfl
theorem tX12_gather_49 : tX12_gather 49 = oIs 5 51 := (congrFun teX12_gather 49).trans rfl
theorem tX12_gather_51 : tX12_gather 51 = oIl 5 53 := (congrFun teX12_gather 51).trans rfl
theorem tX12_gather_53 : tX12_gather 53 = oAl 0 54 := (congrFun teX12_gather 53).trans rfl
theorem tX12_gather_54 : tX12_gather 54 = oGet 12 54 57 := (congrFun teX12_gather 54).trans rfl
theorem tX12_gather_57 : tX12_gather 57 = oIf2ge 112 60 := (congrFun teX12_gather 57).trans rfl
theorem tX12_gather_60 : tX12_gather 60 = oIl 4 62 := (congrFun teX12_gather 60).trans rfl
theorem tX12_gather_62 : tX12_gather 62 = oIf1ne 112 65 := (congrFun teX12_gather 62).trans rfl
theorem tX12_gather_65 : tX12_gather 65 = oAl 0 66 := (congrFun teX12_gather 65).trans rfl
theorem tX12_gather_66 : tX12_gather 66 = oGet 12 55 69 := (congrFun teX12_gather 66).trans rfl
theorem tX12_gather_69 : tX12_gather 69 = oIl 5 71 := (congrFun teX12_gather 69).trans rfl
theorem tX12_gather_71 : tX12_gather 71 = oLald 72 := (congrFun teX12_gather 71).trans rfl
theorem tX12_gather_72 : tX12_gather 72 = oAl 0 73 := (congrFun teX12_gather 72).trans rfl
theorem tX12_gather_73 : tX12_gather 73 = oGet 12 45 76 := (congrFun teX12_gather 73).trans rfl
theorem tX12_gather_76 : tX12_gather 76 = oIl 3 77 := (congrFun teX12_gather 76).trans rfl
theorem tX12_gather_77 : tX12_gather 77 = oLald 78 := (congrFun teX12_gather 77).trans rfl
theorem tX12_gather_78 : tX12_gather 78 = oLcmp 79 := (congrFun teX12_gather 78).trans rfl
theorem tX12_gather_79 : tX12_gather 79 = oIf1ne 103 82 := (congrFun teX12_gather 79).trans rfl
theorem tX12_gather_82 : tX12_gather 82 = oAl 0 83 := (congrFun teX12_gather 82).trans rfl
theorem tX12_gather_83 : tX12_gather 83 = oGet 12 56 86 := (congrFun teX12_gather 83).trans rfl
theorem tX12_gather_86 : tX12_gather 86 = oIl 5 88 := (congrFun teX12_gather 86).trans rfl
theorem tX12_gather_88 : tX12_gather 88 = oLald 89 := (congrFun teX12_gather 88).trans rfl
theorem tX12_gather_89 : tX12_gather 89 = oAl 0 90 := (congrFun teX12_gather 89).trans rfl
theorem tX12_gather_90 : tX12_gather 90 = oGet 12 46 93 := (congrFun teX12_gather 90).trans rfl
theorem tX12_gather_93 : tX12_gather 93 = oIl 3 94 := (congrFun teX12_gather 93).trans rfl
theorem tX12_gather_94 : tX12_gather 94 = oLald 95 := (congrFun teX12_gather 94).trans rfl
theorem tX12_gather_95 : tX12_gather 95 = oLcmp 96 := (congrFun teX12_gather 95).trans rfl
theorem tX12_gather_96 : tX12_gather 96 = oIf1ne 103 99 := (congrFun teX12_gather 96).trans rfl
theorem tX12_gather_99 : tX12_gather 99 = oK (.int (nI 1)) 100 := (congrFun teX12_gather 99).trans rfl
theorem tX12_gather_100 : tX12_gather 100 = oGo 104 := (congrFun teX12_gather 100).trans rfl
theorem tX12_gather_103 : tX12_gather 103 = oK (.int (nI 0)) 104 := (congrFun teX12_gather 103).trans rfl
theorem tX12_gather_104 : tX12_gather 104 = oIs 4 106 := (congrFun teX12_gather 104).trans rfl
theorem tX12_gather_106 : tX12_gather 106 = oInc 5 (nI 1) 109 := (congrFun teX12_gather 106).trans rfl
theorem tX12_gather_109 : tX12_gather 109 = oGo 51 := (congrFun teX12_gather 109).trans rfl
theorem tX12_gather_112 : tX12_gather 112 = oIl 4 114 := (congrFun teX12_gather 112).trans rfl
theorem tX12_gather_114 : tX12_gather 114 = oIf1eq 120 117 := (congrFun teX12_gather 114).trans rfl
theorem tX12_gather_117 : tX12_gather 117 = oGo 160 := (congrFun teX12_gather 117).trans rfl
theorem tX12_gather_120 : tX12_gather 120 = oAl 0 121 := (congrFun teX12_gather 120).trans rfl
theorem tX12_gather_121 : tX12_gather 121 = oGet 12 55 124 := (congrFun teX12_gather 121).trans rfl
theorem tX12_gather_124 : tX12_gather 124 = oAl 0 125 := (congrFun teX12_gather 124).trans rfl
theorem tX12_gather_125 : tX12_gather 125 = oGet 12 54 128 := (congrFun teX12_gather 125).trans rfl
theorem tX12_gather_128 : tX12_gather 128 = oAl 0 129 := (congrFun teX12_gather 128).trans rfl
theorem tX12_gather_129 : tX12_gather 129 = oGet 12 45 132 := (congrFun teX12_gather 129).trans rfl
theorem tX12_gather_132 : tX12_gather 132 = oIl 3 133 := (congrFun teX12_gather 132).trans rfl
theorem tX12_gather_133 : tX12_gather 133 = oLald 134 := (congrFun teX12_gather 133).trans rfl
theorem tX12_gather_134 : tX12_gather 134 = oLast 135 := (congrFun teX12_gather 134).trans rfl
theorem tX12_gather_135 : tX12_gather 135 = oAl 0 136 := (congrFun teX12_gather 135).trans rfl
theorem tX12_gather_136 : tX12_gather 136 = oGet 12 56 139 := (congrFun teX12_gather 136).trans rfl
theorem tX12_gather_139 : tX12_gather 139 = oAl 0 140 := (congrFun teX12_gather 139).trans rfl
theorem tX12_gather_140 : tX12_gather 140 = oGet 12 54 143 := (congrFun teX12_gather 140).trans rfl
theorem tX12_gather_143 : tX12_gather 143 = oAl 0 144 := (congrFun teX12_gather 143).trans rfl
theorem tX12_gather_144 : tX12_gather 144 = oGet 12 46 147 := (congrFun teX12_gather 144).trans rfl
theorem tX12_gather_147 : tX12_gather 147 = oIl 3 148 := (congrFun teX12_gather 147).trans rfl
theorem tX12_gather_148 : tX12_gather 148 = oLald 149 := (congrFun teX12_gather 148).trans rfl
theorem tX12_gather_149 : tX12_gather 149 = oLast 150 := (congrFun teX12_gather 149).trans rfl
theorem tX12_gather_150 : tX12_gather 150 = oAl 0 151 := (congrFun teX12_gather 150).trans rfl
theorem tX12_gather_151 : tX12_gather 151 = oDup 152 := (congrFun teX12_gather 151).trans rfl
theorem tX12_gather_152 : tX12_gather 152 = oGet 12 54 155 := (congrFun teX12_gather 152).trans rfl
theorem tX12_gather_155 : tX12_gather 155 = oK (.int (nI 1)) 156 := (congrFun teX12_gather 155).trans rfl
theorem tX12_gather_156 : tX12_gather 156 = oAdd 157 := (congrFun teX12_gather 156).trans rfl
theorem tX12_gather_157 : tX12_gather 157 = oPutI 12 54 160 := (congrFun teX12_gather 157).trans rfl
theorem tX12_gather_160 : tX12_gather 160 = oInc 3 (nI 1) 163 := (congrFun teX12_gather 160).trans rfl
theorem tX12_gather_163 : tX12_gather 163 = oGo 11 := (congrFun teX12_gather 163).trans rfl
theorem tX12_gather_166 : tX12_gather 166 = oVret := (congrFun teX12_gather 166).trans rfl
def lX12_open : List (Nat × qP) := [(0, oIl 1 1), (1, oIl 2 2), (2, oCallS mX12_areAsked 2 5), (5, oIf1ne 10 8), (8, oK (.int (-1)) 9), (9, oIret), (10, oAl 0 11), (11, oIl 1 12), (12, oIl 2 13), (13, oCallV 12 mX12_gather 2 16), (16, oAl 0 17), (17, oGet 12 54 20), (20, oIret)]
def uX12_open : Nat → qP := q_tb lX12_open
set_option maxRecDepth 20000 in
theorem suX12_open : q_Snd mX12_open uX12_open := by
  refine q_tb_ok ?_
  unfold lX12_open
  refine q_fa (ok_iload_n (by decide +kernel : decode cX12_open 0 = .ok (.iload_n 1, 1)) rfl rfl) ?_
  refine q_fa (ok_iload_n (by decide +kernel : decode cX12_open 1 = .ok (.iload_n 2, 1)) rfl rfl) ?_
  refine q_fa (ok_callS (by decide +kernel : decode cX12_open 2 = .ok (.invokestatic 341, 3)) rfl kX12_areAsked.1 kX12_areAsked.2.1 kX12_areAsked.2.2.1 kX12_areAsked.2.2.2.1 kX12_areAsked.2.2.2.2 g1415 g1414) ?_
  refine q_fa (ok_if1ne (by decide +kernel : decode cX12_open 5 = .ok (.ifCond .ne 5, 3)) (by decide) rfl) ?_
  refine q_fa (ok_iconst (by decide +kernel : decode cX12_open 8 = .ok (.iconst (-1), 1)) rfl (by decide +kernel)) ?_
  refine q_fa (ok_iret (by decide +kernel : decode cX12_open 9 = .ok (.ireturn, 1)) rfl) ?_
  refine q_fa (ok_aload_n (by decide +kernel : decode cX12_open 10 = .ok (.aload_n 0, 1)) rfl rfl) ?_
  refine q_fa (ok_iload_n (by decide +kernel : decode cX12_open 11 = .ok (.iload_n 1, 1)) rfl rfl) ?_
  refine q_fa (ok_iload_n (by decide +kernel : decode cX12_open 12 = .ok (.iload_n 2, 1)) rfl rfl) ?_
  refine q_fa (ok_callV (by decide +kernel : decode cX12_open 13 = .ok (.invokevirtual 350, 3)) rfl kX12_gather.1 kX12_gather.2.1 kX12_gather.2.2.1 kX12_gather.2.2.2.1 kX12_gather.2.2.2.2 (rfl : vwCl[12]? = some (RX12, TX12, 58)) g1459 gs92 g1457) ?_
  refine q_fa (ok_aload_n (by decide +kernel : decode cX12_open 16 = .ok (.aload_n 0, 1)) rfl rfl) ?_
  refine q_fa (ok_get (by decide +kernel : decode cX12_open 17 = .ok (.getfield 347, 3)) rfl (rfl : vwCl[12]? = some (RX12, TX12, 58)) inX12 (by decide) g1058) ?_
  refine q_fa (ok_iret (by decide +kernel : decode cX12_open 20 = .ok (.ireturn, 1)) rfl) ?_
  exact q_fa0
theorem exX12_open : ∃ t : Nat → qP, t = uX12_open := ⟨_, rfl⟩
noncomputable def tX12_open : Nat → qP := Classical.choose exX12_open
theorem teX12_open : tX12_open = uX12_open := Classical.choose_spec exX12_open
theorem sX12_open : q_Snd mX12_open tX12_open := by rw [teX12_open]; exact suX12_open
theorem tX12_open_0 : tX12_open 0 = oIl 1 1 := (congrFun teX12_open 0).trans rfl
theorem tX12_open_1 : tX12_open 1 = oIl 2 2 := (congrFun teX12_open 1).trans rfl
theorem tX12_open_2 : tX12_open 2 = oCallS mX12_areAsked 2 5 := (congrFun teX12_open 2).trans rfl
theorem tX12_open_5 : tX12_open 5 = oIf1ne 10 8 := (congrFun teX12_open 5).trans rfl
theorem tX12_open_8 : tX12_open 8 = oK (.int (-1)) 9 := (congrFun teX12_open 8).trans rfl
theorem tX12_open_9 : tX12_open 9 = oIret := (congrFun teX12_open 9).trans rfl
theorem tX12_open_10 : tX12_open 10 = oAl 0 11 := (congrFun teX12_open 10).trans rfl
theorem tX12_open_11 : tX12_open 11 = oIl 1 12 := (congrFun teX12_open 11).trans rfl
theorem tX12_open_12 : tX12_open 12 = oIl 2 13 := (congrFun teX12_open 12).trans rfl
theorem tX12_open_13 : tX12_open 13 = oCallV 12 mX12_gather 2 16 := (congrFun teX12_open 13).trans rfl
theorem tX12_open_16 : tX12_open 16 = oAl 0 17 := (congrFun teX12_open 16).trans rfl
theorem tX12_open_17 : tX12_open 17 = oGet 12 54 20 := (congrFun teX12_open 17).trans rfl
theorem tX12_open_20 : tX12_open 20 = oIret := (congrFun teX12_open 20).trans rfl
def lX12_ask : List (Nat × qP) := [(0, oIl 1 1), (1, oIl 2 2), (2, oCallS mX12_areAsked 2 5), (5, oIf1ne 10 8), (8, oK (.int (-1)) 9), (9, oIret), (10, oAl 0 11), (11, oIl 1 12), (12, oIl 2 13), (13, oCallV 12 mX12_gather 2 16), (16, oAl 0 17), (17, oCallV 12 mX12_number 0 20), (20, oK (.int (-2)) 22), (22, oIs 3 23), (23, oK (.int (nI 0)) 24), (24, oIs 4 26), (26, oAl 0 27), (27, oK (.int (nI 0)) 28), (28, oPutI 12 57 31), (31, oK (.int (nI 0)) 32), (32, oIs 5 34), (34, oIl 5 36), (36, oK (.int (nI 40)) 38), (38, oIf2ge 140 41), (41, oK (.int (nI 0)) 42), (42, oIs 6 44), (44, oK (.int (nI 0)) 45), (45, oIs 7 47), (47, oIl 7 49), (49, oAl 0 50), (50, oGet 12 54 53), (53, oIf2ge 80 56), (56, oIl 6 58), (58, oAl 0 59), (59, oGet 12 55 62), (62, oIl 7 64), (64, oLald 65), (65, oIl 5 67), (67, oLshr 68), (68, oK (.long 1) 69), (69, oLand 70), (70, oL2i 71), (71, oAdd 72), (72, oIs 6 74), (74, oInc 7 (nI 1) 77), (77, oGo 47), (80, oIl 6 82), (82, oAl 0 83), (83, oGet 12 54 86), (86, oIl 6 88), (88, oSub 89), (89, oIf2ge 97 92), (92, oIl 6 94), (94, oGo 104), (97, oAl 0 98), (98, oGet 12 54 101), (101, oIl 6 103), (103, oSub 104), (104, oIs 7 106), (106, oIl 7 108), (108, oIl 4 110), (110, oIf2gt 116 113), (113, oGo 134), (116, oIl 7 118), (118, oIs 4 120), (120, oAl 0 121), (121, oIl 6 123), (123, oPutI 12 57 126), (126, oAl 0 127), (127, oGet 12 47 130), (130, oIl 5 132), (132, oIald 133), (133, oIs 3 134), (134, oInc 5 (nI 1) 137), (137, oGo 34), (140, oIl 3 141), (141, oIret)]
def uX12_ask : Nat → qP := q_tb lX12_ask
set_option maxRecDepth 20000 in
theorem suX12_ask : q_Snd mX12_ask uX12_ask := by
  refine q_tb_ok ?_
  unfold lX12_ask
  refine q_fa (ok_iload_n (by decide +kernel : decode cX12_ask 0 = .ok (.iload_n 1, 1)) rfl rfl) ?_
  refine q_fa (ok_iload_n (by decide +kernel : decode cX12_ask 1 = .ok (.iload_n 2, 1)) rfl rfl) ?_
  refine q_fa (ok_callS (by decide +kernel : decode cX12_ask 2 = .ok (.invokestatic 341, 3)) rfl kX12_areAsked.1 kX12_areAsked.2.1 kX12_areAsked.2.2.1 kX12_areAsked.2.2.2.1 kX12_areAsked.2.2.2.2 g1415 g1414) ?_
  refine q_fa (ok_if1ne (by decide +kernel : decode cX12_ask 5 = .ok (.ifCond .ne 5, 3)) (by decide) rfl) ?_
  refine q_fa (ok_iconst (by decide +kernel : decode cX12_ask 8 = .ok (.iconst (-1), 1)) rfl (by decide +kernel)) ?_
  refine q_fa (ok_iret (by decide +kernel : decode cX12_ask 9 = .ok (.ireturn, 1)) rfl) ?_
  refine q_fa (ok_aload_n (by decide +kernel : decode cX12_ask 10 = .ok (.aload_n 0, 1)) rfl rfl) ?_
  refine q_fa (ok_iload_n (by decide +kernel : decode cX12_ask 11 = .ok (.iload_n 1, 1)) rfl rfl) ?_
  refine q_fa (ok_iload_n (by decide +kernel : decode cX12_ask 12 = .ok (.iload_n 2, 1)) rfl rfl) ?_
  refine q_fa (ok_callV (by decide +kernel : decode cX12_ask 13 = .ok (.invokevirtual 350, 3)) rfl kX12_gather.1 kX12_gather.2.1 kX12_gather.2.2.1 kX12_gather.2.2.2.1 kX12_gather.2.2.2.2 (rfl : vwCl[12]? = some (RX12, TX12, 58)) g1459 gs92 g1457) ?_
  refine q_fa (ok_aload_n (by decide +kernel : decode cX12_ask 16 = .ok (.aload_n 0, 1)) rfl rfl) ?_
  refine q_fa (ok_callV (by decide +kernel : decode cX12_ask 17 = .ok (.invokevirtual 314, 3)) rfl kX12_number.1 kX12_number.2.1 kX12_number.2.2.1 kX12_number.2.2.2.1 kX12_number.2.2.2.2 (rfl : vwCl[12]? = some (RX12, TX12, 58)) g1435 gs89 g1433) ?_
  refine q_fa (ok_bipush (by decide +kernel : decode cX12_ask 20 = .ok (.bipush (-2), 2)) rfl (by decide +kernel)) ?_
  refine q_fa (ok_istore_n (by decide +kernel : decode cX12_ask 22 = .ok (.istore_n 3, 1)) rfl rfl (by decide)) ?_
  refine q_fa (ok_iconst (by decide +kernel : decode cX12_ask 23 = .ok (.iconst 0, 1)) rfl (by decide +kernel)) ?_
  refine q_fa (ok_istore (by decide +kernel : decode cX12_ask 24 = .ok (.istore 4, 2)) rfl (by decide)) ?_
  refine q_fa (ok_aload_n (by decide +kernel : decode cX12_ask 26 = .ok (.aload_n 0, 1)) rfl rfl) ?_
  refine q_fa (ok_iconst (by decide +kernel : decode cX12_ask 27 = .ok (.iconst 0, 1)) rfl (by decide +kernel)) ?_
  refine q_fa (ok_putI tyX12 (by decide +kernel : decode cX12_ask 28 = .ok (.putfield 353, 3)) rfl (rfl : vwCl[12]? = some (RX12, TX12, 58)) inX12 tyX12_ok nmX12 (by decide) g1061 (Or.inl rfl) (by decide +kernel)) ?_
  refine q_fa (ok_iconst (by decide +kernel : decode cX12_ask 31 = .ok (.iconst 0, 1)) rfl (by decide +kernel)) ?_
  refine q_fa (ok_istore (by decide +kernel : decode cX12_ask 32 = .ok (.istore 5, 2)) rfl (by decide)) ?_
  refine q_fa (ok_iload (by decide +kernel : decode cX12_ask 34 = .ok (.iload 5, 2)) rfl) ?_
  refine q_fa (ok_bipush (by decide +kernel : decode cX12_ask 36 = .ok (.bipush 40, 2)) rfl (by decide +kernel)) ?_
  refine q_fa (ok_if2ge (by decide +kernel : decode cX12_ask 38 = .ok (.if_icmp .ge 102, 3)) (by decide) rfl) ?_
  refine q_fa (ok_iconst (by decide +kernel : decode cX12_ask 41 = .ok (.iconst 0, 1)) rfl (by decide +kernel)) ?_
  refine q_fa (ok_istore (by decide +kernel : decode cX12_ask 42 = .ok (.istore 6, 2)) rfl (by decide)) ?_
  refine q_fa (ok_iconst (by decide +kernel : decode cX12_ask 44 = .ok (.iconst 0, 1)) rfl (by decide +kernel)) ?_
  refine q_fa (ok_istore (by decide +kernel : decode cX12_ask 45 = .ok (.istore 7, 2)) rfl (by decide)) ?_
  refine q_fa (ok_iload (by decide +kernel : decode cX12_ask 47 = .ok (.iload 7, 2)) rfl) ?_
  refine q_fa (ok_aload_n (by decide +kernel : decode cX12_ask 49 = .ok (.aload_n 0, 1)) rfl rfl) ?_
  refine q_fa (ok_get (by decide +kernel : decode cX12_ask 50 = .ok (.getfield 347, 3)) rfl (rfl : vwCl[12]? = some (RX12, TX12, 58)) inX12 (by decide) g1058) ?_
  refine q_fa (ok_if2ge (by decide +kernel : decode cX12_ask 53 = .ok (.if_icmp .ge 27, 3)) (by decide) rfl) ?_
  refine q_fa (ok_iload (by decide +kernel : decode cX12_ask 56 = .ok (.iload 6, 2)) rfl) ?_
  refine q_fa (ok_aload_n (by decide +kernel : decode cX12_ask 58 = .ok (.aload_n 0, 1)) rfl rfl) ?_
  refine q_fa (ok_get (by decide +kernel : decode cX12_ask 59 = .ok (.getfield 126, 3)) rfl (rfl : vwCl[12]? = some (RX12, TX12, 58)) inX12 (by decide) g1059) ?_
  refine q_fa (ok_iload (by decide +kernel : decode cX12_ask 62 = .ok (.iload 7, 2)) rfl) ?_
  refine q_fa (ok_laload (by decide +kernel : decode cX12_ask 64 = .ok (.laload, 1)) rfl) ?_
  refine q_fa (ok_iload (by decide +kernel : decode cX12_ask 65 = .ok (.iload 5, 2)) rfl) ?_
  refine q_fa (ok_lshr (by decide +kernel : decode cX12_ask 67 = .ok (.lshr, 1)) rfl) ?_
  refine q_fa (ok_lconst (by decide +kernel : decode cX12_ask 68 = .ok (.lconst 1, 1)) rfl (by decide +kernel)) ?_
  refine q_fa (ok_land (by decide +kernel : decode cX12_ask 69 = .ok (.land, 1)) rfl) ?_
  refine q_fa (ok_l2i (by decide +kernel : decode cX12_ask 70 = .ok (.l2i, 1)) rfl) ?_
  refine q_fa (ok_iadd (by decide +kernel : decode cX12_ask 71 = .ok (.iadd, 1)) rfl) ?_
  refine q_fa (ok_istore (by decide +kernel : decode cX12_ask 72 = .ok (.istore 6, 2)) rfl (by decide)) ?_
  refine q_fa (ok_iinc (by decide +kernel : decode cX12_ask 74 = .ok (.iinc 7 1, 3)) rfl (by decide +kernel) (by decide)) ?_
  refine q_fa (ok_goto (by decide +kernel : decode cX12_ask 77 = .ok (.goto (-30), 3)) (by decide)) ?_
  refine q_fa (ok_iload (by decide +kernel : decode cX12_ask 80 = .ok (.iload 6, 2)) rfl) ?_
  refine q_fa (ok_aload_n (by decide +kernel : decode cX12_ask 82 = .ok (.aload_n 0, 1)) rfl rfl) ?_
  refine q_fa (ok_get (by decide +kernel : decode cX12_ask 83 = .ok (.getfield 347, 3)) rfl (rfl : vwCl[12]? = some (RX12, TX12, 58)) inX12 (by decide) g1058) ?_
  refine q_fa (ok_iload (by decide +kernel : decode cX12_ask 86 = .ok (.iload 6, 2)) rfl) ?_
  refine q_fa (ok_isub (by decide +kernel : decode cX12_ask 88 = .ok (.isub, 1)) rfl) ?_
  refine q_fa (ok_if2ge (by decide +kernel : decode cX12_ask 89 = .ok (.if_icmp .ge 8, 3)) (by decide) rfl) ?_
  refine q_fa (ok_iload (by decide +kernel : decode cX12_ask 92 = .ok (.iload 6, 2)) rfl) ?_
  refine q_fa (ok_goto (by decide +kernel : decode cX12_ask 94 = .ok (.goto 10, 3)) (by decide)) ?_
  refine q_fa (ok_aload_n (by decide +kernel : decode cX12_ask 97 = .ok (.aload_n 0, 1)) rfl rfl) ?_
  refine q_fa (ok_get (by decide +kernel : decode cX12_ask 98 = .ok (.getfield 347, 3)) rfl (rfl : vwCl[12]? = some (RX12, TX12, 58)) inX12 (by decide) g1058) ?_
  refine q_fa (ok_iload (by decide +kernel : decode cX12_ask 101 = .ok (.iload 6, 2)) rfl) ?_
  refine q_fa (ok_isub (by decide +kernel : decode cX12_ask 103 = .ok (.isub, 1)) rfl) ?_
  refine q_fa (ok_istore (by decide +kernel : decode cX12_ask 104 = .ok (.istore 7, 2)) rfl (by decide)) ?_
  refine q_fa (ok_iload (by decide +kernel : decode cX12_ask 106 = .ok (.iload 7, 2)) rfl) ?_
  refine q_fa (ok_iload (by decide +kernel : decode cX12_ask 108 = .ok (.iload 4, 2)) rfl) ?_
  refine q_fa (ok_if2gt (by decide +kernel : decode cX12_ask 110 = .ok (.if_icmp .gt 6, 3)) (by decide) rfl) ?_
  refine q_fa (ok_goto (by decide +kernel : decode cX12_ask 113 = .ok (.goto 21, 3)) (by decide)) ?_
  refine q_fa (ok_iload (by decide +kernel : decode cX12_ask 116 = .ok (.iload 7, 2)) rfl) ?_
  refine q_fa (ok_istore (by decide +kernel : decode cX12_ask 118 = .ok (.istore 4, 2)) rfl (by decide)) ?_
  refine q_fa (ok_aload_n (by decide +kernel : decode cX12_ask 120 = .ok (.aload_n 0, 1)) rfl rfl) ?_
  refine q_fa (ok_iload (by decide +kernel : decode cX12_ask 121 = .ok (.iload 6, 2)) rfl) ?_
  refine q_fa (ok_putI tyX12 (by decide +kernel : decode cX12_ask 123 = .ok (.putfield 353, 3)) rfl (rfl : vwCl[12]? = some (RX12, TX12, 58)) inX12 tyX12_ok nmX12 (by decide) g1061 (Or.inl rfl) (by decide +kernel)) ?_
  refine q_fa (ok_aload_n (by decide +kernel : decode cX12_ask 126 = .ok (.aload_n 0, 1)) rfl rfl) ?_
  refine q_fa (ok_get (by decide +kernel : decode cX12_ask 127 = .ok (.getfield 114, 3)) rfl (rfl : vwCl[12]? = some (RX12, TX12, 58)) inX12 (by decide) g1051) ?_
  refine q_fa (ok_iload (by decide +kernel : decode cX12_ask 130 = .ok (.iload 5, 2)) rfl) ?_
  refine q_fa (ok_iaload (by decide +kernel : decode cX12_ask 132 = .ok (.iaload, 1)) rfl) ?_
  refine q_fa (ok_istore_n (by decide +kernel : decode cX12_ask 133 = .ok (.istore_n 3, 1)) rfl rfl (by decide)) ?_
  refine q_fa (ok_iinc (by decide +kernel : decode cX12_ask 134 = .ok (.iinc 5 1, 3)) rfl (by decide +kernel) (by decide)) ?_
  refine q_fa (ok_goto (by decide +kernel : decode cX12_ask 137 = .ok (.goto (-103), 3)) (by decide)) ?_
  refine q_fa (ok_iload_n (by decide +kernel : decode cX12_ask 140 = .ok (.iload_n 3, 1)) rfl rfl) ?_
  refine q_fa (ok_iret (by decide +kernel : decode cX12_ask 141 = .ok (.ireturn, 1)) rfl) ?_
  exact q_fa0
theorem exX12_ask : ∃ t : Nat → qP, t = uX12_ask := ⟨_, rfl⟩
noncomputable def tX12_ask : Nat → qP := Classical.choose exX12_ask
theorem teX12_ask : tX12_ask = uX12_ask := Classical.choose_spec exX12_ask
theorem sX12_ask : q_Snd mX12_ask tX12_ask := by rw [teX12_ask]; exact suX12_ask
theorem tX12_ask_0 : tX12_ask 0 = oIl 1 1 := (congrFun teX12_ask 0).trans rfl
theorem tX12_ask_1 : tX12_ask 1 = oIl 2 2 := (congrFun teX12_ask 1).trans rfl
theorem tX12_ask_2 : tX12_ask 2 = oCallS mX12_areAsked 2 5 := (congrFun teX12_ask 2).trans rfl
theorem tX12_ask_5 : tX12_ask 5 = oIf1ne 10 8 := (congrFun teX12_ask 5).trans rfl
theorem tX12_ask_8 : tX12_ask 8 = oK (.int (-1)) 9 := (congrFun teX12_ask 8).trans rfl
theorem tX12_ask_9 : tX12_ask 9 = oIret := (congrFun teX12_ask 9).trans rfl
theorem tX12_ask_10 : tX12_ask 10 = oAl 0 11 := (congrFun teX12_ask 10).trans rfl
theorem tX12_ask_11 : tX12_ask 11 = oIl 1 12 := (congrFun teX12_ask 11).trans rfl
theorem tX12_ask_12 : tX12_ask 12 = oIl 2 13 := (congrFun teX12_ask 12).trans rfl
theorem tX12_ask_13 : tX12_ask 13 = oCallV 12 mX12_gather 2 16 := (congrFun teX12_ask 13).trans rfl
theorem tX12_ask_16 : tX12_ask 16 = oAl 0 17 := (congrFun teX12_ask 16).trans rfl
theorem tX12_ask_17 : tX12_ask 17 = oCallV 12 mX12_number 0 20 := (congrFun teX12_ask 17).trans rfl
theorem tX12_ask_20 : tX12_ask 20 = oK (.int (-2)) 22 := (congrFun teX12_ask 20).trans rfl
theorem tX12_ask_22 : tX12_ask 22 = oIs 3 23 := (congrFun teX12_ask 22).trans rfl
theorem tX12_ask_23 : tX12_ask 23 = oK (.int (nI 0)) 24 := (congrFun teX12_ask 23).trans rfl
theorem tX12_ask_24 : tX12_ask 24 = oIs 4 26 := (congrFun teX12_ask 24).trans rfl
theorem tX12_ask_26 : tX12_ask 26 = oAl 0 27 := (congrFun teX12_ask 26).trans rfl
theorem tX12_ask_27 : tX12_ask 27 = oK (.int (nI 0)) 28 := (congrFun teX12_ask 27).trans rfl
theorem tX12_ask_28 : tX12_ask 28 = oPutI 12 57 31 := (congrFun teX12_ask 28).trans rfl
theorem tX12_ask_31 : tX12_ask 31 = oK (.int (nI 0)) 32 := (congrFun teX12_ask 31).trans rfl
theorem tX12_ask_32 : tX12_ask 32 = oIs 5 34 := (congrFun teX12_ask 32).trans rfl
theorem tX12_ask_34 : tX12_ask 34 = oIl 5 36 := (congrFun teX12_ask 34).trans rfl
theorem tX12_ask_36 : tX12_ask 36 = oK (.int (nI 40)) 38 := (congrFun teX12_ask 36).trans rfl
theorem tX12_ask_38 : tX12_ask 38 = oIf2ge 140 41 := (congrFun teX12_ask 38).trans rfl
theorem tX12_ask_41 : tX12_ask 41 = oK (.int (nI 0)) 42 := (congrFun teX12_ask 41).trans rfl
theorem tX12_ask_42 : tX12_ask 42 = oIs 6 44 := (congrFun teX12_ask 42).trans rfl
theorem tX12_ask_44 : tX12_ask 44 = oK (.int (nI 0)) 45 := (congrFun teX12_ask 44).trans rfl
theorem tX12_ask_45 : tX12_ask 45 = oIs 7 47 := (congrFun teX12_ask 45).trans rfl
theorem tX12_ask_47 : tX12_ask 47 = oIl 7 49 := (congrFun teX12_ask 47).trans rfl
theorem tX12_ask_49 : tX12_ask 49 = oAl 0 50 := (congrFun teX12_ask 49).trans rfl
theorem tX12_ask_50 : tX12_ask 50 = oGet 12 54 53 := (congrFun teX12_ask 50).trans rfl
theorem tX12_ask_53 : tX12_ask 53 = oIf2ge 80 56 := (congrFun teX12_ask 53).trans rfl
theorem tX12_ask_56 : tX12_ask 56 = oIl 6 58 := (congrFun teX12_ask 56).trans rfl
theorem tX12_ask_58 : tX12_ask 58 = oAl 0 59 := (congrFun teX12_ask 58).trans rfl
theorem tX12_ask_59 : tX12_ask 59 = oGet 12 55 62 := (congrFun teX12_ask 59).trans rfl
theorem tX12_ask_62 : tX12_ask 62 = oIl 7 64 := (congrFun teX12_ask 62).trans rfl
theorem tX12_ask_64 : tX12_ask 64 = oLald 65 := (congrFun teX12_ask 64).trans rfl
theorem tX12_ask_65 : tX12_ask 65 = oIl 5 67 := (congrFun teX12_ask 65).trans rfl
theorem tX12_ask_67 : tX12_ask 67 = oLshr 68 := (congrFun teX12_ask 67).trans rfl
theorem tX12_ask_68 : tX12_ask 68 = oK (.long 1) 69 := (congrFun teX12_ask 68).trans rfl
theorem tX12_ask_69 : tX12_ask 69 = oLand 70 := (congrFun teX12_ask 69).trans rfl
theorem tX12_ask_70 : tX12_ask 70 = oL2i 71 := (congrFun teX12_ask 70).trans rfl
theorem tX12_ask_71 : tX12_ask 71 = oAdd 72 := (congrFun teX12_ask 71).trans rfl
theorem tX12_ask_72 : tX12_ask 72 = oIs 6 74 := (congrFun teX12_ask 72).trans rfl
theorem tX12_ask_74 : tX12_ask 74 = oInc 7 (nI 1) 77 := (congrFun teX12_ask 74).trans rfl
theorem tX12_ask_77 : tX12_ask 77 = oGo 47 := (congrFun teX12_ask 77).trans rfl
theorem tX12_ask_80 : tX12_ask 80 = oIl 6 82 := (congrFun teX12_ask 80).trans rfl
theorem tX12_ask_82 : tX12_ask 82 = oAl 0 83 := (congrFun teX12_ask 82).trans rfl
theorem tX12_ask_83 : tX12_ask 83 = oGet 12 54 86 := (congrFun teX12_ask 83).trans rfl
theorem tX12_ask_86 : tX12_ask 86 = oIl 6 88 := (congrFun teX12_ask 86).trans rfl
theorem tX12_ask_88 : tX12_ask 88 = oSub 89 := (congrFun teX12_ask 88).trans rfl
theorem tX12_ask_89 : tX12_ask 89 = oIf2ge 97 92 := (congrFun teX12_ask 89).trans rfl
theorem tX12_ask_92 : tX12_ask 92 = oIl 6 94 := (congrFun teX12_ask 92).trans rfl
theorem tX12_ask_94 : tX12_ask 94 = oGo 104 := (congrFun teX12_ask 94).trans rfl
theorem tX12_ask_97 : tX12_ask 97 = oAl 0 98 := (congrFun teX12_ask 97).trans rfl
theorem tX12_ask_98 : tX12_ask 98 = oGet 12 54 101 := (congrFun teX12_ask 98).trans rfl
theorem tX12_ask_101 : tX12_ask 101 = oIl 6 103 := (congrFun teX12_ask 101).trans rfl
theorem tX12_ask_103 : tX12_ask 103 = oSub 104 := (congrFun teX12_ask 103).trans rfl
theorem tX12_ask_104 : tX12_ask 104 = oIs 7 106 := (congrFun teX12_ask 104).trans rfl
theorem tX12_ask_106 : tX12_ask 106 = oIl 7 108 := (congrFun teX12_ask 106).trans rfl
theorem tX12_ask_108 : tX12_ask 108 = oIl 4 110 := (congrFun teX12_ask 108).trans rfl
theorem tX12_ask_110 : tX12_ask 110 = oIf2gt 116 113 := (congrFun teX12_ask 110).trans rfl
theorem tX12_ask_113 : tX12_ask 113 = oGo 134 := (congrFun teX12_ask 113).trans rfl
theorem tX12_ask_116 : tX12_ask 116 = oIl 7 118 := (congrFun teX12_ask 116).trans rfl
theorem tX12_ask_118 : tX12_ask 118 = oIs 4 120 := (congrFun teX12_ask 118).trans rfl
theorem tX12_ask_120 : tX12_ask 120 = oAl 0 121 := (congrFun teX12_ask 120).trans rfl
theorem tX12_ask_121 : tX12_ask 121 = oIl 6 123 := (congrFun teX12_ask 121).trans rfl
theorem tX12_ask_123 : tX12_ask 123 = oPutI 12 57 126 := (congrFun teX12_ask 123).trans rfl
theorem tX12_ask_126 : tX12_ask 126 = oAl 0 127 := (congrFun teX12_ask 126).trans rfl
theorem tX12_ask_127 : tX12_ask 127 = oGet 12 47 130 := (congrFun teX12_ask 127).trans rfl
theorem tX12_ask_130 : tX12_ask 130 = oIl 5 132 := (congrFun teX12_ask 130).trans rfl
theorem tX12_ask_132 : tX12_ask 132 = oIald 133 := (congrFun teX12_ask 132).trans rfl
theorem tX12_ask_133 : tX12_ask 133 = oIs 3 134 := (congrFun teX12_ask 133).trans rfl
theorem tX12_ask_134 : tX12_ask 134 = oInc 5 (nI 1) 137 := (congrFun teX12_ask 134).trans rfl
theorem tX12_ask_137 : tX12_ask 137 = oGo 34 := (congrFun teX12_ask 137).trans rfl
theorem tX12_ask_140 : tX12_ask 140 = oIl 3 141 := (congrFun teX12_ask 140).trans rfl
theorem tX12_ask_141 : tX12_ask 141 = oIret := (congrFun teX12_ask 141).trans rfl
def lX12_asked : List (Nat × qP) := [(0, oAl 0 1), (1, oGet 12 57 4), (4, oIret)]
def uX12_asked : Nat → qP := q_tb lX12_asked
set_option maxRecDepth 20000 in
theorem suX12_asked : q_Snd mX12_asked uX12_asked := by
  refine q_tb_ok ?_
  unfold lX12_asked
  refine q_fa (ok_aload_n (by decide +kernel : decode cX12_asked 0 = .ok (.aload_n 0, 1)) rfl rfl) ?_
  refine q_fa (ok_get (by decide +kernel : decode cX12_asked 1 = .ok (.getfield 353, 3)) rfl (rfl : vwCl[12]? = some (RX12, TX12, 58)) inX12 (by decide) g1061) ?_
  refine q_fa (ok_iret (by decide +kernel : decode cX12_asked 4 = .ok (.ireturn, 1)) rfl) ?_
  exact q_fa0
theorem exX12_asked : ∃ t : Nat → qP, t = uX12_asked := ⟨_, rfl⟩
noncomputable def tX12_asked : Nat → qP := Classical.choose exX12_asked
theorem teX12_asked : tX12_asked = uX12_asked := Classical.choose_spec exX12_asked
theorem sX12_asked : q_Snd mX12_asked tX12_asked := by rw [teX12_asked]; exact suX12_asked
theorem tX12_asked_0 : tX12_asked 0 = oAl 0 1 := (congrFun teX12_asked 0).trans rfl
theorem tX12_asked_1 : tX12_asked 1 = oGet 12 57 4 := (congrFun teX12_asked 1).trans rfl
theorem tX12_asked_4 : tX12_asked 4 = oIret := (congrFun teX12_asked 4).trans rfl
def lX12_noise : List (Nat × qP) := [(0, oIl 1 1), (1, oCallS mX12_isPlace 1 4), (4, oIf1eq 15 7), (7, oIl 2 8), (8, oIl 3 9), (9, oCallS mX12_areAsked 2 12), (12, oIf1ne 17 15), (15, oK (.int (-1)) 16), (16, oIret), (17, oAl 0 18), (18, oCallV 12 mX12_lay 0 21), (21, oK (.int (-1)) 22), (22, oIs 4 24), (24, oK (.int (nI 0)) 25), (25, oIs 5 27), (27, oK (.int (nI 0)) 28), (28, oIs 6 30), (30, oIl 6 32), (32, oAl 0 33), (33, oGet 12 11 36), (36, oIf2ge 115 39), (39, oAl 0 40), (40, oIl 6 42), (42, oIl 2 43), (43, oIl 3 44), (44, oCallV 12 mX12_isOf 3 47), (47, oIf1eq 109 50), (50, oIl 4 52), (52, oIf1lt 70 55), (55, oAl 0 56), (56, oGet 12 7 59), (59, oIl 6 61), (61, oIald 62), (62, oIl 5 64), (64, oIf2lt 70 67), (67, oGo 109), (70, oAl 0 71), (71, oGet 12 7 74), (74, oIl 6 76), (76, oIald 77), (77, oAl 0 78), (78, oIl 6 80), (80, oCallV 12 mX12_paidBy 1 83), (83, oAdd 84), (84, oIs 7 86), (86, oIl 4 88), (88, oIf1lt 101 91), (91, oIl 7 93), (93, oIl 5 95), (95, oIf2lt 101 98), (98, oGo 109), (101, oIl 6 103), (103, oIs 4 105), (105, oIl 7 107), (107, oIs 5 109), (109, oInc 6 (nI 1) 112), (112, oGo 30), (115, oIl 4 117), (117, oIf1ge 123 120), (120, oK (.int (-2)) 122), (122, oIret), (123, oAl 0 124), (124, oIl 1 125), (125, oIl 4 127), (127, oCallV 12 mX12_put 2 130), (130, oIl 5 132), (132, oIret)]
def uX12_noise : Nat → qP := q_tb lX12_noise
set_option maxRecDepth 20000 in
theorem suX12_noise : q_Snd mX12_noise uX12_noise := by
  refine q_tb_ok ?_
  unfold lX12_noise
  refine q_fa (ok_iload_n (by decide +kernel : decode cX12_noise 0 = .ok (.iload_n 1, 1)) rfl rfl) ?_
  refine q_fa (ok_callS (by decide +kernel : decode cX12_noise 1 = .ok (.invokestatic 167, 3)) rfl kX12_isPlace.1 kX12_isPlace.2.1 kX12_isPlace.2.2.1 kX12_isPlace.2.2.2.1 kX12_isPlace.2.2.2.2 g1192 g1191) ?_
  refine q_fa (ok_if1eq (by decide +kernel : decode cX12_noise 4 = .ok (.ifCond .eq 11, 3)) (by decide) rfl) ?_
  refine q_fa (ok_iload_n (by decide +kernel : decode cX12_noise 7 = .ok (.iload_n 2, 1)) rfl rfl) ?_
  refine q_fa (ok_iload_n (by decide +kernel : decode cX12_noise 8 = .ok (.iload_n 3, 1)) rfl rfl) ?_
  refine q_fa (ok_callS (by decide +kernel : decode cX12_noise 9 = .ok (.invokestatic 341, 3)) rfl kX12_areAsked.1 kX12_areAsked.2.1 kX12_areAsked.2.2.1 kX12_areAsked.2.2.2.1 kX12_areAsked.2.2.2.2 g1415 g1414) ?_
  refine q_fa (ok_if1ne (by decide +kernel : decode cX12_noise 12 = .ok (.ifCond .ne 5, 3)) (by decide) rfl) ?_
  refine q_fa (ok_iconst (by decide +kernel : decode cX12_noise 15 = .ok (.iconst (-1), 1)) rfl (by decide +kernel)) ?_
  refine q_fa (ok_iret (by decide +kernel : decode cX12_noise 16 = .ok (.ireturn, 1)) rfl) ?_
  refine q_fa (ok_aload_n (by decide +kernel : decode cX12_noise 17 = .ok (.aload_n 0, 1)) rfl rfl) ?_
  refine q_fa (ok_callV (by decide +kernel : decode cX12_noise 18 = .ok (.invokevirtual 252, 3)) rfl kX12_lay.1 kX12_lay.2.1 kX12_lay.2.2.1 kX12_lay.2.2.2.1 kX12_lay.2.2.2.2 (rfl : vwCl[12]? = some (RX12, TX12, 58)) g1287 gs66 g1285) ?_
  refine q_fa (ok_iconst (by decide +kernel : decode cX12_noise 21 = .ok (.iconst (-1), 1)) rfl (by decide +kernel)) ?_
  refine q_fa (ok_istore (by decide +kernel : decode cX12_noise 22 = .ok (.istore 4, 2)) rfl (by decide)) ?_
  refine q_fa (ok_iconst (by decide +kernel : decode cX12_noise 24 = .ok (.iconst 0, 1)) rfl (by decide +kernel)) ?_
  refine q_fa (ok_istore (by decide +kernel : decode cX12_noise 25 = .ok (.istore 5, 2)) rfl (by decide)) ?_
  refine q_fa (ok_iconst (by decide +kernel : decode cX12_noise 27 = .ok (.iconst 0, 1)) rfl (by decide +kernel)) ?_
  refine q_fa (ok_istore (by decide +kernel : decode cX12_noise 28 = .ok (.istore 6, 2)) rfl (by decide)) ?_
  refine q_fa (ok_iload (by decide +kernel : decode cX12_noise 30 = .ok (.iload 6, 2)) rfl) ?_
  refine q_fa (ok_aload_n (by decide +kernel : decode cX12_noise 32 = .ok (.aload_n 0, 1)) rfl rfl) ?_
  refine q_fa (ok_get (by decide +kernel : decode cX12_noise 33 = .ok (.getfield 146, 3)) rfl (rfl : vwCl[12]? = some (RX12, TX12, 58)) inX12 (by decide) g1015) ?_
  refine q_fa (ok_if2ge (by decide +kernel : decode cX12_noise 36 = .ok (.if_icmp .ge 79, 3)) (by decide) rfl) ?_
  refine q_fa (ok_aload_n (by decide +kernel : decode cX12_noise 39 = .ok (.aload_n 0, 1)) rfl rfl) ?_
  refine q_fa (ok_iload (by decide +kernel : decode cX12_noise 40 = .ok (.iload 6, 2)) rfl) ?_
  refine q_fa (ok_iload_n (by decide +kernel : decode cX12_noise 42 = .ok (.iload_n 2, 1)) rfl rfl) ?_
  refine q_fa (ok_iload_n (by decide +kernel : decode cX12_noise 43 = .ok (.iload_n 3, 1)) rfl rfl) ?_
  refine q_fa (ok_callV (by decide +kernel : decode cX12_noise 44 = .ok (.invokevirtual 326, 3)) rfl kX12_isOf.1 kX12_isOf.2.1 kX12_isOf.2.2.1 kX12_isOf.2.2.2.1 kX12_isOf.2.2.2.2 (rfl : vwCl[12]? = some (RX12, TX12, 58)) g1423 gs86 g1421) ?_
  refine q_fa (ok_if1eq (by decide +kernel : decode cX12_noise 47 = .ok (.ifCond .eq 62, 3)) (by decide) rfl) ?_
  refine q_fa (ok_iload (by decide +kernel : decode cX12_noise 50 = .ok (.iload 4, 2)) rfl) ?_
  refine q_fa (ok_if1lt (by decide +kernel : decode cX12_noise 52 = .ok (.ifCond .lt 18, 3)) (by decide) rfl) ?_
  refine q_fa (ok_aload_n (by decide +kernel : decode cX12_noise 55 = .ok (.aload_n 0, 1)) rfl rfl) ?_
  refine q_fa (ok_get (by decide +kernel : decode cX12_noise 56 = .ok (.getfield 25, 3)) rfl (rfl : vwCl[12]? = some (RX12, TX12, 58)) inX12 (by decide) g1011) ?_
  refine q_fa (ok_iload (by decide +kernel : decode cX12_noise 59 = .ok (.iload 6, 2)) rfl) ?_
  refine q_fa (ok_iaload (by decide +kernel : decode cX12_noise 61 = .ok (.iaload, 1)) rfl) ?_
  refine q_fa (ok_iload (by decide +kernel : decode cX12_noise 62 = .ok (.iload 5, 2)) rfl) ?_
  refine q_fa (ok_if2lt (by decide +kernel : decode cX12_noise 64 = .ok (.if_icmp .lt 6, 3)) (by decide) rfl) ?_
  refine q_fa (ok_goto (by decide +kernel : decode cX12_noise 67 = .ok (.goto 42, 3)) (by decide)) ?_
  refine q_fa (ok_aload_n (by decide +kernel : decode cX12_noise 70 = .ok (.aload_n 0, 1)) rfl rfl) ?_
  refine q_fa (ok_get (by decide +kernel : decode cX12_noise 71 = .ok (.getfield 25, 3)) rfl (rfl : vwCl[12]? = some (RX12, TX12, 58)) inX12 (by decide) g1011) ?_
  refine q_fa (ok_iload (by decide +kernel : decode cX12_noise 74 = .ok (.iload 6, 2)) rfl) ?_
  refine q_fa (ok_iaload (by decide +kernel : decode cX12_noise 76 = .ok (.iaload, 1)) rfl) ?_
  refine q_fa (ok_aload_n (by decide +kernel : decode cX12_noise 77 = .ok (.aload_n 0, 1)) rfl rfl) ?_
  refine q_fa (ok_iload (by decide +kernel : decode cX12_noise 78 = .ok (.iload 6, 2)) rfl) ?_
  refine q_fa (ok_callV (by decide +kernel : decode cX12_noise 80 = .ok (.invokevirtual 311, 3)) rfl kX12_paidBy.1 kX12_paidBy.2.1 kX12_paidBy.2.2.1 kX12_paidBy.2.2.2.1 kX12_paidBy.2.2.2.2 (rfl : vwCl[12]? = some (RX12, TX12, 58)) g1408 gs84 g1406) ?_
  refine q_fa (ok_iadd (by decide +kernel : decode cX12_noise 83 = .ok (.iadd, 1)) rfl) ?_
  refine q_fa (ok_istore (by decide +kernel : decode cX12_noise 84 = .ok (.istore 7, 2)) rfl (by decide)) ?_
  refine q_fa (ok_iload (by decide +kernel : decode cX12_noise 86 = .ok (.iload 4, 2)) rfl) ?_
  refine q_fa (ok_if1lt (by decide +kernel : decode cX12_noise 88 = .ok (.ifCond .lt 13, 3)) (by decide) rfl) ?_
  refine q_fa (ok_iload (by decide +kernel : decode cX12_noise 91 = .ok (.iload 7, 2)) rfl) ?_
  refine q_fa (ok_iload (by decide +kernel : decode cX12_noise 93 = .ok (.iload 5, 2)) rfl) ?_
  refine q_fa (ok_if2lt (by decide +kernel : decode cX12_noise 95 = .ok (.if_icmp .lt 6, 3)) (by decide) rfl) ?_
  refine q_fa (ok_goto (by decide +kernel : decode cX12_noise 98 = .ok (.goto 11, 3)) (by decide)) ?_
  refine q_fa (ok_iload (by decide +kernel : decode cX12_noise 101 = .ok (.iload 6, 2)) rfl) ?_
  refine q_fa (ok_istore (by decide +kernel : decode cX12_noise 103 = .ok (.istore 4, 2)) rfl (by decide)) ?_
  refine q_fa (ok_iload (by decide +kernel : decode cX12_noise 105 = .ok (.iload 7, 2)) rfl) ?_
  refine q_fa (ok_istore (by decide +kernel : decode cX12_noise 107 = .ok (.istore 5, 2)) rfl (by decide)) ?_
  refine q_fa (ok_iinc (by decide +kernel : decode cX12_noise 109 = .ok (.iinc 6 1, 3)) rfl (by decide +kernel) (by decide)) ?_
  refine q_fa (ok_goto (by decide +kernel : decode cX12_noise 112 = .ok (.goto (-82), 3)) (by decide)) ?_
  refine q_fa (ok_iload (by decide +kernel : decode cX12_noise 115 = .ok (.iload 4, 2)) rfl) ?_
  refine q_fa (ok_if1ge (by decide +kernel : decode cX12_noise 117 = .ok (.ifCond .ge 6, 3)) (by decide) rfl) ?_
  refine q_fa (ok_bipush (by decide +kernel : decode cX12_noise 120 = .ok (.bipush (-2), 2)) rfl (by decide +kernel)) ?_
  refine q_fa (ok_iret (by decide +kernel : decode cX12_noise 122 = .ok (.ireturn, 1)) rfl) ?_
  refine q_fa (ok_aload_n (by decide +kernel : decode cX12_noise 123 = .ok (.aload_n 0, 1)) rfl rfl) ?_
  refine q_fa (ok_iload_n (by decide +kernel : decode cX12_noise 124 = .ok (.iload_n 1, 1)) rfl rfl) ?_
  refine q_fa (ok_iload (by decide +kernel : decode cX12_noise 125 = .ok (.iload 4, 2)) rfl) ?_
  refine q_fa (ok_callV (by decide +kernel : decode cX12_noise 127 = .ok (.invokevirtual 226, 3)) rfl kX12_put.1 kX12_put.2.1 kX12_put.2.2.1 kX12_put.2.2.2.1 kX12_put.2.2.2.2 (rfl : vwCl[12]? = some (RX12, TX12, 58)) g1243 gs58 g1241) ?_
  refine q_fa (ok_iload (by decide +kernel : decode cX12_noise 130 = .ok (.iload 5, 2)) rfl) ?_
  refine q_fa (ok_iret (by decide +kernel : decode cX12_noise 132 = .ok (.ireturn, 1)) rfl) ?_
  exact q_fa0
theorem exX12_noise : ∃ t : Nat → qP, t = uX12_noise := ⟨_, rfl⟩
noncomputable def tX12_noise : Nat → qP := Classical.choose exX12_noise
theorem teX12_noise : tX12_noise = uX12_noise := Classical.choose_spec exX12_noise
theorem sX12_noise : q_Snd mX12_noise tX12_noise := by rw [teX12_noise]; exact suX12_noise
theorem tX12_noise_0 : tX12_noise 0 = oIl 1 1 := (congrFun teX12_noise 0).trans rfl
theorem tX12_noise_1 : tX12_noise 1 = oCallS mX12_isPlace 1 4 := (congrFun teX12_noise 1).trans rfl
theorem tX12_noise_4 : tX12_noise 4 = oIf1eq 15 7 := (congrFun teX12_noise 4).trans rfl
theorem tX12_noise_7 : tX12_noise 7 = oIl 2 8 := (congrFun teX12_noise 7).trans rfl
theorem tX12_noise_8 : tX12_noise 8 = oIl 3 9 := (congrFun teX12_noise 8).trans rfl
theorem tX12_noise_9 : tX12_noise 9 = oCallS mX12_areAsked 2 12 := (congrFun teX12_noise 9).trans rfl
theorem tX12_noise_12 : tX12_noise 12 = oIf1ne 17 15 := (congrFun teX12_noise 12).trans rfl
theorem tX12_noise_15 : tX12_noise 15 = oK (.int (-1)) 16 := (congrFun teX12_noise 15).trans rfl
theorem tX12_noise_16 : tX12_noise 16 = oIret := (congrFun teX12_noise 16).trans rfl
theorem tX12_noise_17 : tX12_noise 17 = oAl 0 18 := (congrFun teX12_noise 17).trans rfl
theorem tX12_noise_18 : tX12_noise 18 = oCallV 12 mX12_lay 0 21 := (congrFun teX12_noise 18).trans rfl
theorem tX12_noise_21 : tX12_noise 21 = oK (.int (-1)) 22 := (congrFun teX12_noise 21).trans rfl
theorem tX12_noise_22 : tX12_noise 22 = oIs 4 24 := (congrFun teX12_noise 22).trans rfl
theorem tX12_noise_24 : tX12_noise 24 = oK (.int (nI 0)) 25 := (congrFun teX12_noise 24).trans rfl
theorem tX12_noise_25 : tX12_noise 25 = oIs 5 27 := (congrFun teX12_noise 25).trans rfl
theorem tX12_noise_27 : tX12_noise 27 = oK (.int (nI 0)) 28 := (congrFun teX12_noise 27).trans rfl
theorem tX12_noise_28 : tX12_noise 28 = oIs 6 30 := (congrFun teX12_noise 28).trans rfl
theorem tX12_noise_30 : tX12_noise 30 = oIl 6 32 := (congrFun teX12_noise 30).trans rfl
theorem tX12_noise_32 : tX12_noise 32 = oAl 0 33 := (congrFun teX12_noise 32).trans rfl
theorem tX12_noise_33 : tX12_noise 33 = oGet 12 11 36 := (congrFun teX12_noise 33).trans rfl
theorem tX12_noise_36 : tX12_noise 36 = oIf2ge 115 39 := (congrFun teX12_noise 36).trans rfl
theorem tX12_noise_39 : tX12_noise 39 = oAl 0 40 := (congrFun teX12_noise 39).trans rfl
theorem tX12_noise_40 : tX12_noise 40 = oIl 6 42 := (congrFun teX12_noise 40).trans rfl
theorem tX12_noise_42 : tX12_noise 42 = oIl 2 43 := (congrFun teX12_noise 42).trans rfl
theorem tX12_noise_43 : tX12_noise 43 = oIl 3 44 := (congrFun teX12_noise 43).trans rfl
theorem tX12_noise_44 : tX12_noise 44 = oCallV 12 mX12_isOf 3 47 := (congrFun teX12_noise 44).trans rfl
theorem tX12_noise_47 : tX12_noise 47 = oIf1eq 109 50 := (congrFun teX12_noise 47).trans rfl
theorem tX12_noise_50 : tX12_noise 50 = oIl 4 52 := (congrFun teX12_noise 50).trans rfl
theorem tX12_noise_52 : tX12_noise 52 = oIf1lt 70 55 := (congrFun teX12_noise 52).trans rfl
theorem tX12_noise_55 : tX12_noise 55 = oAl 0 56 := (congrFun teX12_noise 55).trans rfl
theorem tX12_noise_56 : tX12_noise 56 = oGet 12 7 59 := (congrFun teX12_noise 56).trans rfl
theorem tX12_noise_59 : tX12_noise 59 = oIl 6 61 := (congrFun teX12_noise 59).trans rfl
theorem tX12_noise_61 : tX12_noise 61 = oIald 62 := (congrFun teX12_noise 61).trans rfl
theorem tX12_noise_62 : tX12_noise 62 = oIl 5 64 := (congrFun teX12_noise 62).trans rfl
theorem tX12_noise_64 : tX12_noise 64 = oIf2lt 70 67 := (congrFun teX12_noise 64).trans rfl
theorem tX12_noise_67 : tX12_noise 67 = oGo 109 := (congrFun teX12_noise 67).trans rfl
theorem tX12_noise_70 : tX12_noise 70 = oAl 0 71 := (congrFun teX12_noise 70).trans rfl
theorem tX12_noise_71 : tX12_noise 71 = oGet 12 7 74 := (congrFun teX12_noise 71).trans rfl
theorem tX12_noise_74 : tX12_noise 74 = oIl 6 76 := (congrFun teX12_noise 74).trans rfl
theorem tX12_noise_76 : tX12_noise 76 = oIald 77 := (congrFun teX12_noise 76).trans rfl
theorem tX12_noise_77 : tX12_noise 77 = oAl 0 78 := (congrFun teX12_noise 77).trans rfl
theorem tX12_noise_78 : tX12_noise 78 = oIl 6 80 := (congrFun teX12_noise 78).trans rfl
theorem tX12_noise_80 : tX12_noise 80 = oCallV 12 mX12_paidBy 1 83 := (congrFun teX12_noise 80).trans rfl
theorem tX12_noise_83 : tX12_noise 83 = oAdd 84 := (congrFun teX12_noise 83).trans rfl
theorem tX12_noise_84 : tX12_noise 84 = oIs 7 86 := (congrFun teX12_noise 84).trans rfl
theorem tX12_noise_86 : tX12_noise 86 = oIl 4 88 := (congrFun teX12_noise 86).trans rfl
theorem tX12_noise_88 : tX12_noise 88 = oIf1lt 101 91 := (congrFun teX12_noise 88).trans rfl
theorem tX12_noise_91 : tX12_noise 91 = oIl 7 93 := (congrFun teX12_noise 91).trans rfl
theorem tX12_noise_93 : tX12_noise 93 = oIl 5 95 := (congrFun teX12_noise 93).trans rfl
theorem tX12_noise_95 : tX12_noise 95 = oIf2lt 101 98 := (congrFun teX12_noise 95).trans rfl
theorem tX12_noise_98 : tX12_noise 98 = oGo 109 := (congrFun teX12_noise 98).trans rfl
theorem tX12_noise_101 : tX12_noise 101 = oIl 6 103 := (congrFun teX12_noise 101).trans rfl
theorem tX12_noise_103 : tX12_noise 103 = oIs 4 105 := (congrFun teX12_noise 103).trans rfl
theorem tX12_noise_105 : tX12_noise 105 = oIl 7 107 := (congrFun teX12_noise 105).trans rfl
theorem tX12_noise_107 : tX12_noise 107 = oIs 5 109 := (congrFun teX12_noise 107).trans rfl
theorem tX12_noise_109 : tX12_noise 109 = oInc 6 (nI 1) 112 := (congrFun teX12_noise 109).trans rfl
theorem tX12_noise_112 : tX12_noise 112 = oGo 30 := (congrFun teX12_noise 112).trans rfl
theorem tX12_noise_115 : tX12_noise 115 = oIl 4 117 := (congrFun teX12_noise 115).trans rfl
theorem tX12_noise_117 : tX12_noise 117 = oIf1ge 123 120 := (congrFun teX12_noise 117).trans rfl
theorem tX12_noise_120 : tX12_noise 120 = oK (.int (-2)) 122 := (congrFun teX12_noise 120).trans rfl
theorem tX12_noise_122 : tX12_noise 122 = oIret := (congrFun teX12_noise 122).trans rfl
theorem tX12_noise_123 : tX12_noise 123 = oAl 0 124 := (congrFun teX12_noise 123).trans rfl
theorem tX12_noise_124 : tX12_noise 124 = oIl 1 125 := (congrFun teX12_noise 124).trans rfl
theorem tX12_noise_125 : tX12_noise 125 = oIl 4 127 := (congrFun teX12_noise 125).trans rfl
theorem tX12_noise_127 : tX12_noise 127 = oCallV 12 mX12_put 2 130 := (congrFun teX12_noise 127).trans rfl
theorem tX12_noise_130 : tX12_noise 130 = oIl 5 132 := (congrFun teX12_noise 130).trans rfl
theorem tX12_noise_132 : tX12_noise 132 = oIret := (congrFun teX12_noise 132).trans rfl
def lX12_count : List (Nat × qP) := [(0, oK (.int (nI 0)) 1), (1, oIs 2 2), (2, oIl 1 3), (3, oTab 0 [32, 65, 70, 105] 110), (32, oK (.int (nI 0)) 33), (33, oIs 3 34), (34, oIl 3 35), (35, oK (.int (nI 10)) 37), (37, oIf2ge 63 40), (40, oIl 2 41), (41, oAl 0 42), (42, oGet 12 13 45), (45, oIl 3 46), (46, oIald 47), (47, oIf1le 54 50), (50, oK (.int (nI 1)) 51), (51, oGo 55), (54, oK (.int (nI 0)) 55), (55, oAdd 56), (56, oIs 2 57), (57, oInc 3 (nI 1) 60), (60, oGo 34), (63, oIl 2 64), (64, oIret), (65, oAl 0 66), (66, oGet 12 38 69), (69, oIret), (70, oK (.int (nI 0)) 71), (71, oIs 3 72), (72, oIl 3 73), (73, oAl 0 74), (74, oGet 12 38 77), (77, oIf2ge 103 80), (80, oIl 2 81), (81, oAl 0 82), (82, oGet 12 43 85), (85, oIl 3 86), (86, oZald 87), (87, oIf1eq 94 90), (90, oK (.int (nI 1)) 91), (91, oGo 95), (94, oK (.int (nI 0)) 95), (95, oAdd 96), (96, oIs 2 97), (97, oInc 3 (nI 1) 100), (100, oGo 72), (103, oIl 2 104), (104, oIret), (105, oAl 0 106), (106, oGet 12 18 109), (109, oIret), (110, oK (.int (-1)) 111), (111, oIret)]
def uX12_count : Nat → qP := q_tb lX12_count
set_option maxRecDepth 20000 in
theorem suX12_count : q_Snd mX12_count uX12_count := by
  refine q_tb_ok ?_
  unfold lX12_count
  refine q_fa (ok_iconst (by decide +kernel : decode cX12_count 0 = .ok (.iconst 0, 1)) rfl (by decide +kernel)) ?_
  refine q_fa (ok_istore_n (by decide +kernel : decode cX12_count 1 = .ok (.istore_n 2, 1)) rfl rfl (by decide)) ?_
  refine q_fa (ok_iload_n (by decide +kernel : decode cX12_count 2 = .ok (.iload_n 1, 1)) rfl rfl) ?_
  refine q_fa (ok_table (by decide +kernel : decode cX12_count 3 = .ok (.tableswitch 107 0 3 #[29, 62, 67, 102], 29)) (by decide) (by decide) (by decide) (by decide) (by decide)) ?_
  refine q_fa (ok_iconst (by decide +kernel : decode cX12_count 32 = .ok (.iconst 0, 1)) rfl (by decide +kernel)) ?_
  refine q_fa (ok_istore_n (by decide +kernel : decode cX12_count 33 = .ok (.istore_n 3, 1)) rfl rfl (by decide)) ?_
  refine q_fa (ok_iload_n (by decide +kernel : decode cX12_count 34 = .ok (.iload_n 3, 1)) rfl rfl) ?_
  refine q_fa (ok_bipush (by decide +kernel : decode cX12_count 35 = .ok (.bipush 10, 2)) rfl (by decide +kernel)) ?_
  refine q_fa (ok_if2ge (by decide +kernel : decode cX12_count 37 = .ok (.if_icmp .ge 26, 3)) (by decide) rfl) ?_
  refine q_fa (ok_iload_n (by decide +kernel : decode cX12_count 40 = .ok (.iload_n 2, 1)) rfl rfl) ?_
  refine q_fa (ok_aload_n (by decide +kernel : decode cX12_count 41 = .ok (.aload_n 0, 1)) rfl rfl) ?_
  refine q_fa (ok_get (by decide +kernel : decode cX12_count 42 = .ok (.getfield 41, 3)) rfl (rfl : vwCl[12]? = some (RX12, TX12, 58)) inX12 (by decide) g1017) ?_
  refine q_fa (ok_iload_n (by decide +kernel : decode cX12_count 45 = .ok (.iload_n 3, 1)) rfl rfl) ?_
  refine q_fa (ok_iaload (by decide +kernel : decode cX12_count 46 = .ok (.iaload, 1)) rfl) ?_
  refine q_fa (ok_if1le (by decide +kernel : decode cX12_count 47 = .ok (.ifCond .le 7, 3)) (by decide) rfl) ?_
  refine q_fa (ok_iconst (by decide +kernel : decode cX12_count 50 = .ok (.iconst 1, 1)) rfl (by decide +kernel)) ?_
  refine q_fa (ok_goto (by decide +kernel : decode cX12_count 51 = .ok (.goto 4, 3)) (by decide)) ?_
  refine q_fa (ok_iconst (by decide +kernel : decode cX12_count 54 = .ok (.iconst 0, 1)) rfl (by decide +kernel)) ?_
  refine q_fa (ok_iadd (by decide +kernel : decode cX12_count 55 = .ok (.iadd, 1)) rfl) ?_
  refine q_fa (ok_istore_n (by decide +kernel : decode cX12_count 56 = .ok (.istore_n 2, 1)) rfl rfl (by decide)) ?_
  refine q_fa (ok_iinc (by decide +kernel : decode cX12_count 57 = .ok (.iinc 3 1, 3)) rfl (by decide +kernel) (by decide)) ?_
  refine q_fa (ok_goto (by decide +kernel : decode cX12_count 60 = .ok (.goto (-26), 3)) (by decide)) ?_
  refine q_fa (ok_iload_n (by decide +kernel : decode cX12_count 63 = .ok (.iload_n 2, 1)) rfl rfl) ?_
  refine q_fa (ok_iret (by decide +kernel : decode cX12_count 64 = .ok (.ireturn, 1)) rfl) ?_
  refine q_fa (ok_aload_n (by decide +kernel : decode cX12_count 65 = .ok (.aload_n 0, 1)) rfl rfl) ?_
  refine q_fa (ok_get (by decide +kernel : decode cX12_count 66 = .ok (.getfield 302, 3)) rfl (rfl : vwCl[12]? = some (RX12, TX12, 58)) inX12 (by decide) g1042) ?_
  refine q_fa (ok_iret (by decide +kernel : decode cX12_count 69 = .ok (.ireturn, 1)) rfl) ?_
  refine q_fa (ok_iconst (by decide +kernel : decode cX12_count 70 = .ok (.iconst 0, 1)) rfl (by decide +kernel)) ?_
  refine q_fa (ok_istore_n (by decide +kernel : decode cX12_count 71 = .ok (.istore_n 3, 1)) rfl rfl (by decide)) ?_
  refine q_fa (ok_iload_n (by decide +kernel : decode cX12_count 72 = .ok (.iload_n 3, 1)) rfl rfl) ?_
  refine q_fa (ok_aload_n (by decide +kernel : decode cX12_count 73 = .ok (.aload_n 0, 1)) rfl rfl) ?_
  refine q_fa (ok_get (by decide +kernel : decode cX12_count 74 = .ok (.getfield 302, 3)) rfl (rfl : vwCl[12]? = some (RX12, TX12, 58)) inX12 (by decide) g1042) ?_
  refine q_fa (ok_if2ge (by decide +kernel : decode cX12_count 77 = .ok (.if_icmp .ge 26, 3)) (by decide) rfl) ?_
  refine q_fa (ok_iload_n (by decide +kernel : decode cX12_count 80 = .ok (.iload_n 2, 1)) rfl rfl) ?_
  refine q_fa (ok_aload_n (by decide +kernel : decode cX12_count 81 = .ok (.aload_n 0, 1)) rfl rfl) ?_
  refine q_fa (ok_get (by decide +kernel : decode cX12_count 82 = .ok (.getfield 101, 3)) rfl (rfl : vwCl[12]? = some (RX12, TX12, 58)) inX12 (by decide) g1047) ?_
  refine q_fa (ok_iload_n (by decide +kernel : decode cX12_count 85 = .ok (.iload_n 3, 1)) rfl rfl) ?_
  refine q_fa (ok_zaload (by decide +kernel : decode cX12_count 86 = .ok (.baload, 1)) rfl) ?_
  refine q_fa (ok_if1eq (by decide +kernel : decode cX12_count 87 = .ok (.ifCond .eq 7, 3)) (by decide) rfl) ?_
  refine q_fa (ok_iconst (by decide +kernel : decode cX12_count 90 = .ok (.iconst 1, 1)) rfl (by decide +kernel)) ?_
  refine q_fa (ok_goto (by decide +kernel : decode cX12_count 91 = .ok (.goto 4, 3)) (by decide)) ?_
  refine q_fa (ok_iconst (by decide +kernel : decode cX12_count 94 = .ok (.iconst 0, 1)) rfl (by decide +kernel)) ?_
  refine q_fa (ok_iadd (by decide +kernel : decode cX12_count 95 = .ok (.iadd, 1)) rfl) ?_
  refine q_fa (ok_istore_n (by decide +kernel : decode cX12_count 96 = .ok (.istore_n 2, 1)) rfl rfl (by decide)) ?_
  refine q_fa (ok_iinc (by decide +kernel : decode cX12_count 97 = .ok (.iinc 3 1, 3)) rfl (by decide +kernel) (by decide)) ?_
  refine q_fa (ok_goto (by decide +kernel : decode cX12_count 100 = .ok (.goto (-28), 3)) (by decide)) ?_
  refine q_fa (ok_iload_n (by decide +kernel : decode cX12_count 103 = .ok (.iload_n 2, 1)) rfl rfl) ?_
  refine q_fa (ok_iret (by decide +kernel : decode cX12_count 104 = .ok (.ireturn, 1)) rfl) ?_
  refine q_fa (ok_aload_n (by decide +kernel : decode cX12_count 105 = .ok (.aload_n 0, 1)) rfl rfl) ?_
  refine q_fa (ok_get (by decide +kernel : decode cX12_count 106 = .ok (.getfield 186, 3)) rfl (rfl : vwCl[12]? = some (RX12, TX12, 58)) inX12 (by decide) g1022) ?_
  refine q_fa (ok_iret (by decide +kernel : decode cX12_count 109 = .ok (.ireturn, 1)) rfl) ?_
  refine q_fa (ok_iconst (by decide +kernel : decode cX12_count 110 = .ok (.iconst (-1), 1)) rfl (by decide +kernel)) ?_
  refine q_fa (ok_iret (by decide +kernel : decode cX12_count 111 = .ok (.ireturn, 1)) rfl) ?_
  exact q_fa0
theorem exX12_count : ∃ t : Nat → qP, t = uX12_count := ⟨_, rfl⟩
noncomputable def tX12_count : Nat → qP := Classical.choose exX12_count
theorem teX12_count : tX12_count = uX12_count := Classical.choose_spec exX12_count
theorem sX12_count : q_Snd mX12_count tX12_count := by rw [teX12_count]; exact suX12_count
theorem tX12_count_0 : tX12_count 0 = oK (.int (nI 0)) 1 := (congrFun teX12_count 0).trans rfl
theorem tX12_count_1 : tX12_count 1 = oIs 2 2 := (congrFun teX12_count 1).trans rfl
theorem tX12_count_2 : tX12_count 2 = oIl 1 3 := (congrFun teX12_count 2).trans rfl
theorem tX12_count_3 : tX12_count 3 = oTab 0 [32, 65, 70, 105] 110 := (congrFun teX12_count 3).trans rfl
theorem tX12_count_32 : tX12_count 32 = oK (.int (nI 0)) 33 := (congrFun teX12_count 32).trans rfl
theorem tX12_count_33 : tX12_count 33 = oIs 3 34 := (congrFun teX12_count 33).trans rfl
theorem tX12_count_34 : tX12_count 34 = oIl 3 35 := (congrFun teX12_count 34).trans rfl
theorem tX12_count_35 : tX12_count 35 = oK (.int (nI 10)) 37 := (congrFun teX12_count 35).trans rfl
theorem tX12_count_37 : tX12_count 37 = oIf2ge 63 40 := (congrFun teX12_count 37).trans rfl
theorem tX12_count_40 : tX12_count 40 = oIl 2 41 := (congrFun teX12_count 40).trans rfl
theorem tX12_count_41 : tX12_count 41 = oAl 0 42 := (congrFun teX12_count 41).trans rfl
theorem tX12_count_42 : tX12_count 42 = oGet 12 13 45 := (congrFun teX12_count 42).trans rfl
theorem tX12_count_45 : tX12_count 45 = oIl 3 46 := (congrFun teX12_count 45).trans rfl
theorem tX12_count_46 : tX12_count 46 = oIald 47 := (congrFun teX12_count 46).trans rfl
theorem tX12_count_47 : tX12_count 47 = oIf1le 54 50 := (congrFun teX12_count 47).trans rfl
theorem tX12_count_50 : tX12_count 50 = oK (.int (nI 1)) 51 := (congrFun teX12_count 50).trans rfl
theorem tX12_count_51 : tX12_count 51 = oGo 55 := (congrFun teX12_count 51).trans rfl
theorem tX12_count_54 : tX12_count 54 = oK (.int (nI 0)) 55 := (congrFun teX12_count 54).trans rfl
theorem tX12_count_55 : tX12_count 55 = oAdd 56 := (congrFun teX12_count 55).trans rfl
theorem tX12_count_56 : tX12_count 56 = oIs 2 57 := (congrFun teX12_count 56).trans rfl
theorem tX12_count_57 : tX12_count 57 = oInc 3 (nI 1) 60 := (congrFun teX12_count 57).trans rfl
theorem tX12_count_60 : tX12_count 60 = oGo 34 := (congrFun teX12_count 60).trans rfl
theorem tX12_count_63 : tX12_count 63 = oIl 2 64 := (congrFun teX12_count 63).trans rfl
theorem tX12_count_64 : tX12_count 64 = oIret := (congrFun teX12_count 64).trans rfl
theorem tX12_count_65 : tX12_count 65 = oAl 0 66 := (congrFun teX12_count 65).trans rfl
theorem tX12_count_66 : tX12_count 66 = oGet 12 38 69 := (congrFun teX12_count 66).trans rfl
theorem tX12_count_69 : tX12_count 69 = oIret := (congrFun teX12_count 69).trans rfl
theorem tX12_count_70 : tX12_count 70 = oK (.int (nI 0)) 71 := (congrFun teX12_count 70).trans rfl
theorem tX12_count_71 : tX12_count 71 = oIs 3 72 := (congrFun teX12_count 71).trans rfl
theorem tX12_count_72 : tX12_count 72 = oIl 3 73 := (congrFun teX12_count 72).trans rfl
theorem tX12_count_73 : tX12_count 73 = oAl 0 74 := (congrFun teX12_count 73).trans rfl
theorem tX12_count_74 : tX12_count 74 = oGet 12 38 77 := (congrFun teX12_count 74).trans rfl
theorem tX12_count_77 : tX12_count 77 = oIf2ge 103 80 := (congrFun teX12_count 77).trans rfl
theorem tX12_count_80 : tX12_count 80 = oIl 2 81 := (congrFun teX12_count 80).trans rfl
theorem tX12_count_81 : tX12_count 81 = oAl 0 82 := (congrFun teX12_count 81).trans rfl
theorem tX12_count_82 : tX12_count 82 = oGet 12 43 85 := (congrFun teX12_count 82).trans rfl
theorem tX12_count_85 : tX12_count 85 = oIl 3 86 := (congrFun teX12_count 85).trans rfl
theorem tX12_count_86 : tX12_count 86 = oZald 87 := (congrFun teX12_count 86).trans rfl
theorem tX12_count_87 : tX12_count 87 = oIf1eq 94 90 := (congrFun teX12_count 87).trans rfl
theorem tX12_count_90 : tX12_count 90 = oK (.int (nI 1)) 91 := (congrFun teX12_count 90).trans rfl
theorem tX12_count_91 : tX12_count 91 = oGo 95 := (congrFun teX12_count 91).trans rfl
theorem tX12_count_94 : tX12_count 94 = oK (.int (nI 0)) 95 := (congrFun teX12_count 94).trans rfl
theorem tX12_count_95 : tX12_count 95 = oAdd 96 := (congrFun teX12_count 95).trans rfl
theorem tX12_count_96 : tX12_count 96 = oIs 2 97 := (congrFun teX12_count 96).trans rfl
theorem tX12_count_97 : tX12_count 97 = oInc 3 (nI 1) 100 := (congrFun teX12_count 97).trans rfl
theorem tX12_count_100 : tX12_count 100 = oGo 72 := (congrFun teX12_count 100).trans rfl
theorem tX12_count_103 : tX12_count 103 = oIl 2 104 := (congrFun teX12_count 103).trans rfl
theorem tX12_count_104 : tX12_count 104 = oIret := (congrFun teX12_count 104).trans rfl
theorem tX12_count_105 : tX12_count 105 = oAl 0 106 := (congrFun teX12_count 105).trans rfl
theorem tX12_count_106 : tX12_count 106 = oGet 12 18 109 := (congrFun teX12_count 106).trans rfl
theorem tX12_count_109 : tX12_count 109 = oIret := (congrFun teX12_count 109).trans rfl
theorem tX12_count_110 : tX12_count 110 = oK (.int (-1)) 111 := (congrFun teX12_count 110).trans rfl
theorem tX12_count_111 : tX12_count 111 = oIret := (congrFun teX12_count 111).trans rfl
