def lX5_init : List (Nat × qP) := [(0, oAl 0 1), (1, oObj 4), (4, oAl 0 5), (5, oK (.int (nI 4225)) 8), (8, oNewa 1 10), (10, oPutR 5 0 13), (13, oAl 0 14), (14, oK (.int (nI 4225)) 17), (17, oNewa 1 19), (19, oPutR 5 1 22), (22, oVret)]
def uX5_init : Nat → qP := q_tb lX5_init
set_option maxRecDepth 20000 in
theorem suX5_init : q_Snd mX5_init uX5_init := by
  refine q_tb_ok ?_
  unfold lX5_init
  refine q_fa (ok_aload_n (by decide +kernel : decode cX5_init 0 = .ok (.aload_n 0, 1)) rfl rfl) ?_
  refine q_fa (ok_obj (by decide +kernel : decode cX5_init 1 = .ok (.invokespecial 3, 3)) rfl g578 g24 g25) ?_
  refine q_fa (ok_aload_n (by decide +kernel : decode cX5_init 4 = .ok (.aload_n 0, 1)) rfl rfl) ?_
  refine q_fa (ok_sipush (by decide +kernel : decode cX5_init 5 = .ok (.sipush 4225, 3)) rfl (by decide +kernel)) ?_
  refine q_fa (ok_newa_int (by decide +kernel : decode cX5_init 8 = .ok (.newarray .int, 2)) rfl g56) ?_
  refine q_fa (ok_putR tyX5 (by decide +kernel : decode cX5_init 10 = .ok (.putfield 9, 3)) rfl (rfl : vwCl[5]? = some (RX5, TX5, 3)) inX5 tyX5_ok nmX5 (by decide) g579 (Or.inr ⟨rfl, rfl, rfl⟩) (by decide +kernel : parseFieldDescriptor (TX5 0).2.2.1 = some (tyX5 0)) (q_rfA _)) ?_
  refine q_fa (ok_aload_n (by decide +kernel : decode cX5_init 13 = .ok (.aload_n 0, 1)) rfl rfl) ?_
  refine q_fa (ok_sipush (by decide +kernel : decode cX5_init 14 = .ok (.sipush 4225, 3)) rfl (by decide +kernel)) ?_
  refine q_fa (ok_newa_int (by decide +kernel : decode cX5_init 17 = .ok (.newarray .int, 2)) rfl g56) ?_
  refine q_fa (ok_putR tyX5 (by decide +kernel : decode cX5_init 19 = .ok (.putfield 15, 3)) rfl (rfl : vwCl[5]? = some (RX5, TX5, 3)) inX5 tyX5_ok nmX5 (by decide) g580 (Or.inr ⟨rfl, rfl, rfl⟩) (by decide +kernel : parseFieldDescriptor (TX5 1).2.2.1 = some (tyX5 1)) (q_rfA _)) ?_
  refine q_fa (ok_vret (by decide +kernel : decode cX5_init 22 = .ok (.return_, 1)) rfl) ?_
  exact q_fa0
theorem exX5_init : ∃ t : Nat → qP, t = uX5_init := ⟨_, rfl⟩
noncomputable def tX5_init : Nat → qP := Classical.choose exX5_init
theorem teX5_init : tX5_init = uX5_init := Classical.choose_spec exX5_init
theorem sX5_init : q_Snd mX5_init tX5_init := by rw [teX5_init]; exact suX5_init
theorem tX5_init_0 : tX5_init 0 = oAl 0 1 := (congrFun teX5_init 0).trans rfl
theorem tX5_init_1 : tX5_init 1 = oObj 4 := (congrFun teX5_init 1).trans rfl
theorem tX5_init_4 : tX5_init 4 = oAl 0 5 := (congrFun teX5_init 4).trans rfl
theorem tX5_init_5 : tX5_init 5 = oK (.int (nI 4225)) 8 := (congrFun teX5_init 5).trans rfl
theorem tX5_init_8 : tX5_init 8 = oNewa 1 10 := (congrFun teX5_init 8).trans rfl
theorem tX5_init_10 : tX5_init 10 = oPutR 5 0 13 := (congrFun teX5_init 10).trans rfl
theorem tX5_init_13 : tX5_init 13 = oAl 0 14 := (congrFun teX5_init 13).trans rfl
theorem tX5_init_14 : tX5_init 14 = oK (.int (nI 4225)) 17 := (congrFun teX5_init 14).trans rfl
theorem tX5_init_17 : tX5_init 17 = oNewa 1 19 := (congrFun teX5_init 17).trans rfl
theorem tX5_init_19 : tX5_init 19 = oPutR 5 1 22 := (congrFun teX5_init 19).trans rfl
theorem tX5_init_22 : tX5_init 22 = oVret := (congrFun teX5_init 22).trans rfl
def lX5_firstRow : List (Nat × qP) := [(0, oAl 0 1), (1, oGet 5 0 4), (4, oK (.int (nI 0)) 5), (5, oCallS mJ7_fill_53178 2 8), (8, oAl 0 9), (9, oK (.int (nI 0)) 10), (10, oPutI 5 2 13), (13, oAl 0 14), (14, oK (.int (nI 4224)) 17), (17, oK (.int (nI 1)) 18), (18, oCallV 5 mX5_reach 2 21), (21, oK (.int (nI 0)) 22), (22, oIs 4 24), (24, oIl 4 26), (26, oAl 0 27), (27, oGet 5 2 30), (30, oIf2ge 169 33), (33, oIl 4 35), (35, oAl 0 36), (36, oGet 5 1 39), (39, oAlen 40), (40, oIf2ge 169 43), (43, oAl 0 44), (44, oGet 5 1 47), (47, oIl 4 49), (49, oIald 50), (50, oIs 5 52), (52, oIl 5 54), (54, oK (.int (nI 65)) 56), (56, oDiv 57), (57, oIs 6 59), (59, oIl 5 61), (61, oK (.int (nI 65)) 63), (63, oRem 64), (64, oIs 7 66), (66, oAl 0 67), (67, oIl 5 69), (69, oCallV 5 mX5_rowTo 1 72), (72, oIs 8 74), (74, oAl 1 75), (75, oIl 6 77), (77, oCallV 0 mX0_endsAt 1 80), (80, oIs 9 82), (82, oAl 2 83), (83, oIl 7 85), (85, oCallV 0 mX0_endsAt 1 88), (88, oIs 10 90), (90, oIl 9 92), (92, oIf1eq 100 95), (95, oIl 10 97), (97, oIf1eq 114 100), (100, oIl 10 102), (102, oIf1eq 117 105), (105, oIl 9 107), (107, oIf1ne 117 110), (110, oIl 3 111), (111, oIf1ne 117 114), (114, oIl 8 116), (116, oIret), (117, oK (.int (nI 0)) 118), (118, oIs 11 120), (120, oIl 11 122), (122, oK (.int (nI 3)) 123), (123, oIf2ge 163 126), (126, oAl 0 127), (127, oAl 1 128), (128, oIl 6 130), (130, oIl 11 132), (132, oCallV 0 mX0_after 2 135), (135, oK (.int (nI 65)) 137), (137, oMul 138), (138, oAl 2 139), (139, oIl 7 141), (141, oIl 11 143), (143, oCallV 0 mX0_after 2 146), (146, oAdd 147), (147, oIl 8 149), (149, oIl 11 151), (151, oCallS mX5_longer 2 154), (154, oCallV 5 mX5_reach 2 157), (157, oInc 11 (nI 1) 160), (160, oGo 120), (163, oInc 4 (nI 1) 166), (166, oGo 24), (169, oK (.int (-2)) 171), (171, oIret)]
def uX5_firstRow : Nat → qP := q_tb lX5_firstRow
set_option maxRecDepth 20000 in
theorem suX5_firstRow : q_Snd mX5_firstRow uX5_firstRow := by
  refine q_tb_ok ?_
  unfold lX5_firstRow
  refine q_fa (ok_aload_n (by decide +kernel : decode cX5_firstRow 0 = .ok (.aload_n 0, 1)) rfl rfl) ?_
  refine q_fa (ok_get (by decide +kernel : decode cX5_firstRow 1 = .ok (.getfield 9, 3)) rfl (rfl : vwCl[5]? = some (RX5, TX5, 3)) inX5 (by decide) g579) ?_
  refine q_fa (ok_iconst (by decide +kernel : decode cX5_firstRow 4 = .ok (.iconst 0, 1)) rfl (by decide +kernel)) ?_
  refine q_fa (ok_callS (by decide +kernel : decode cX5_firstRow 5 = .ok (.invokestatic 18, 3)) rfl kJ7_fill_53178.1 kJ7_fill_53178.2.1 kJ7_fill_53178.2.2.1 kJ7_fill_53178.2.2.2.1 kJ7_fill_53178.2.2.2.2 g496 g593) ?_
  refine q_fa (ok_aload_n (by decide +kernel : decode cX5_firstRow 8 = .ok (.aload_n 0, 1)) rfl rfl) ?_
  refine q_fa (ok_iconst (by decide +kernel : decode cX5_firstRow 9 = .ok (.iconst 0, 1)) rfl (by decide +kernel)) ?_
  refine q_fa (ok_putI tyX5 (by decide +kernel : decode cX5_firstRow 10 = .ok (.putfield 24, 3)) rfl (rfl : vwCl[5]? = some (RX5, TX5, 3)) inX5 tyX5_ok nmX5 (by decide) g581 (Or.inl rfl) (by decide +kernel)) ?_
  refine q_fa (ok_aload_n (by decide +kernel : decode cX5_firstRow 13 = .ok (.aload_n 0, 1)) rfl rfl) ?_
  refine q_fa (ok_sipush (by decide +kernel : decode cX5_firstRow 14 = .ok (.sipush 4224, 3)) rfl (by decide +kernel)) ?_
  refine q_fa (ok_iconst (by decide +kernel : decode cX5_firstRow 17 = .ok (.iconst 1, 1)) rfl (by decide +kernel)) ?_
  refine q_fa (ok_callV (by decide +kernel : decode cX5_firstRow 18 = .ok (.invokevirtual 28, 3)) rfl kX5_reach.1 kX5_reach.2.1 kX5_reach.2.2.1 kX5_reach.2.2.2.1 kX5_reach.2.2.2.2 (rfl : vwCl[5]? = some (RX5, TX5, 3)) g596 gs26 g594) ?_
  refine q_fa (ok_iconst (by decide +kernel : decode cX5_firstRow 21 = .ok (.iconst 0, 1)) rfl (by decide +kernel)) ?_
  refine q_fa (ok_istore (by decide +kernel : decode cX5_firstRow 22 = .ok (.istore 4, 2)) rfl (by decide)) ?_
  refine q_fa (ok_iload (by decide +kernel : decode cX5_firstRow 24 = .ok (.iload 4, 2)) rfl) ?_
  refine q_fa (ok_aload_n (by decide +kernel : decode cX5_firstRow 26 = .ok (.aload_n 0, 1)) rfl rfl) ?_
  refine q_fa (ok_get (by decide +kernel : decode cX5_firstRow 27 = .ok (.getfield 24, 3)) rfl (rfl : vwCl[5]? = some (RX5, TX5, 3)) inX5 (by decide) g581) ?_
  refine q_fa (ok_if2ge (by decide +kernel : decode cX5_firstRow 30 = .ok (.if_icmp .ge 139, 3)) (by decide) rfl) ?_
  refine q_fa (ok_iload (by decide +kernel : decode cX5_firstRow 33 = .ok (.iload 4, 2)) rfl) ?_
  refine q_fa (ok_aload_n (by decide +kernel : decode cX5_firstRow 35 = .ok (.aload_n 0, 1)) rfl rfl) ?_
  refine q_fa (ok_get (by decide +kernel : decode cX5_firstRow 36 = .ok (.getfield 15, 3)) rfl (rfl : vwCl[5]? = some (RX5, TX5, 3)) inX5 (by decide) g580) ?_
  refine q_fa (ok_alen (by decide +kernel : decode cX5_firstRow 39 = .ok (.arraylength, 1)) rfl) ?_
  refine q_fa (ok_if2ge (by decide +kernel : decode cX5_firstRow 40 = .ok (.if_icmp .ge 129, 3)) (by decide) rfl) ?_
  refine q_fa (ok_aload_n (by decide +kernel : decode cX5_firstRow 43 = .ok (.aload_n 0, 1)) rfl rfl) ?_
  refine q_fa (ok_get (by decide +kernel : decode cX5_firstRow 44 = .ok (.getfield 15, 3)) rfl (rfl : vwCl[5]? = some (RX5, TX5, 3)) inX5 (by decide) g580) ?_
  refine q_fa (ok_iload (by decide +kernel : decode cX5_firstRow 47 = .ok (.iload 4, 2)) rfl) ?_
  refine q_fa (ok_iaload (by decide +kernel : decode cX5_firstRow 49 = .ok (.iaload, 1)) rfl) ?_
  refine q_fa (ok_istore (by decide +kernel : decode cX5_firstRow 50 = .ok (.istore 5, 2)) rfl (by decide)) ?_
  refine q_fa (ok_iload (by decide +kernel : decode cX5_firstRow 52 = .ok (.iload 5, 2)) rfl) ?_
  refine q_fa (ok_bipush (by decide +kernel : decode cX5_firstRow 54 = .ok (.bipush 65, 2)) rfl (by decide +kernel)) ?_
  refine q_fa (ok_idiv (by decide +kernel : decode cX5_firstRow 56 = .ok (.idiv, 1)) rfl) ?_
  refine q_fa (ok_istore (by decide +kernel : decode cX5_firstRow 57 = .ok (.istore 6, 2)) rfl (by decide)) ?_
  refine q_fa (ok_iload (by decide +kernel : decode cX5_firstRow 59 = .ok (.iload 5, 2)) rfl) ?_
  refine q_fa (ok_bipush (by decide +kernel : decode cX5_firstRow 61 = .ok (.bipush 65, 2)) rfl (by decide +kernel)) ?_
  refine q_fa (ok_irem (by decide +kernel : decode cX5_firstRow 63 = .ok (.irem, 1)) rfl) ?_
  refine q_fa (ok_istore (by decide +kernel : decode cX5_firstRow 64 = .ok (.istore 7, 2)) rfl (by decide)) ?_
  refine q_fa (ok_aload_n (by decide +kernel : decode cX5_firstRow 66 = .ok (.aload_n 0, 1)) rfl rfl) ?_
  refine q_fa (ok_iload (by decide +kernel : decode cX5_firstRow 67 = .ok (.iload 5, 2)) rfl) ?_
  refine q_fa (ok_callV (by decide +kernel : decode cX5_firstRow 69 = .ok (.invokevirtual 32, 3)) rfl kX5_rowTo.1 kX5_rowTo.2.1 kX5_rowTo.2.2.1 kX5_rowTo.2.2.2.1 kX5_rowTo.2.2.2.2 (rfl : vwCl[5]? = some (RX5, TX5, 3)) g600 gs27 g598) ?_
  refine q_fa (ok_istore (by decide +kernel : decode cX5_firstRow 72 = .ok (.istore 8, 2)) rfl (by decide)) ?_
  refine q_fa (ok_aload_n (by decide +kernel : decode cX5_firstRow 74 = .ok (.aload_n 1, 1)) rfl rfl) ?_
  refine q_fa (ok_iload (by decide +kernel : decode cX5_firstRow 75 = .ok (.iload 6, 2)) rfl) ?_
  refine q_fa (ok_callV (by decide +kernel : decode cX5_firstRow 77 = .ok (.invokevirtual 36, 3)) rfl kX0_endsAt.1 kX0_endsAt.2.1 kX0_endsAt.2.2.1 kX0_endsAt.2.2.2.1 kX0_endsAt.2.2.2.2 (rfl : vwCl[0]? = some (RX0, TX0, 9)) g533 g534 g602) ?_
  refine q_fa (ok_istore (by decide +kernel : decode cX5_firstRow 80 = .ok (.istore 9, 2)) rfl (by decide)) ?_
  refine q_fa (ok_aload_n (by decide +kernel : decode cX5_firstRow 82 = .ok (.aload_n 2, 1)) rfl rfl) ?_
  refine q_fa (ok_iload (by decide +kernel : decode cX5_firstRow 83 = .ok (.iload 7, 2)) rfl) ?_
  refine q_fa (ok_callV (by decide +kernel : decode cX5_firstRow 85 = .ok (.invokevirtual 36, 3)) rfl kX0_endsAt.1 kX0_endsAt.2.1 kX0_endsAt.2.2.1 kX0_endsAt.2.2.2.1 kX0_endsAt.2.2.2.2 (rfl : vwCl[0]? = some (RX0, TX0, 9)) g533 g534 g602) ?_
  refine q_fa (ok_istore (by decide +kernel : decode cX5_firstRow 88 = .ok (.istore 10, 2)) rfl (by decide)) ?_
  refine q_fa (ok_iload (by decide +kernel : decode cX5_firstRow 90 = .ok (.iload 9, 2)) rfl) ?_
  refine q_fa (ok_if1eq (by decide +kernel : decode cX5_firstRow 92 = .ok (.ifCond .eq 8, 3)) (by decide) rfl) ?_
  refine q_fa (ok_iload (by decide +kernel : decode cX5_firstRow 95 = .ok (.iload 10, 2)) rfl) ?_
  refine q_fa (ok_if1eq (by decide +kernel : decode cX5_firstRow 97 = .ok (.ifCond .eq 17, 3)) (by decide) rfl) ?_
  refine q_fa (ok_iload (by decide +kernel : decode cX5_firstRow 100 = .ok (.iload 10, 2)) rfl) ?_
  refine q_fa (ok_if1eq (by decide +kernel : decode cX5_firstRow 102 = .ok (.ifCond .eq 15, 3)) (by decide) rfl) ?_
  refine q_fa (ok_iload (by decide +kernel : decode cX5_firstRow 105 = .ok (.iload 9, 2)) rfl) ?_
  refine q_fa (ok_if1ne (by decide +kernel : decode cX5_firstRow 107 = .ok (.ifCond .ne 10, 3)) (by decide) rfl) ?_
  refine q_fa (ok_iload_n (by decide +kernel : decode cX5_firstRow 110 = .ok (.iload_n 3, 1)) rfl rfl) ?_
  refine q_fa (ok_if1ne (by decide +kernel : decode cX5_firstRow 111 = .ok (.ifCond .ne 6, 3)) (by decide) rfl) ?_
  refine q_fa (ok_iload (by decide +kernel : decode cX5_firstRow 114 = .ok (.iload 8, 2)) rfl) ?_
  refine q_fa (ok_iret (by decide +kernel : decode cX5_firstRow 116 = .ok (.ireturn, 1)) rfl) ?_
  refine q_fa (ok_iconst (by decide +kernel : decode cX5_firstRow 117 = .ok (.iconst 0, 1)) rfl (by decide +kernel)) ?_
  refine q_fa (ok_istore (by decide +kernel : decode cX5_firstRow 118 = .ok (.istore 11, 2)) rfl (by decide)) ?_
  refine q_fa (ok_iload (by decide +kernel : decode cX5_firstRow 120 = .ok (.iload 11, 2)) rfl) ?_
  refine q_fa (ok_iconst (by decide +kernel : decode cX5_firstRow 122 = .ok (.iconst 3, 1)) rfl (by decide +kernel)) ?_
  refine q_fa (ok_if2ge (by decide +kernel : decode cX5_firstRow 123 = .ok (.if_icmp .ge 40, 3)) (by decide) rfl) ?_
  refine q_fa (ok_aload_n (by decide +kernel : decode cX5_firstRow 126 = .ok (.aload_n 0, 1)) rfl rfl) ?_
  refine q_fa (ok_aload_n (by decide +kernel : decode cX5_firstRow 127 = .ok (.aload_n 1, 1)) rfl rfl) ?_
  refine q_fa (ok_iload (by decide +kernel : decode cX5_firstRow 128 = .ok (.iload 6, 2)) rfl) ?_
  refine q_fa (ok_iload (by decide +kernel : decode cX5_firstRow 130 = .ok (.iload 11, 2)) rfl) ?_
  refine q_fa (ok_callV (by decide +kernel : decode cX5_firstRow 132 = .ok (.invokevirtual 42, 3)) rfl kX0_after.1 kX0_after.2.1 kX0_after.2.2.1 kX0_after.2.2.2.1 kX0_after.2.2.2.2 (rfl : vwCl[0]? = some (RX0, TX0, 9)) g529 g530 g603) ?_
  refine q_fa (ok_bipush (by decide +kernel : decode cX5_firstRow 135 = .ok (.bipush 65, 2)) rfl (by decide +kernel)) ?_
  refine q_fa (ok_imul (by decide +kernel : decode cX5_firstRow 137 = .ok (.imul, 1)) rfl) ?_
  refine q_fa (ok_aload_n (by decide +kernel : decode cX5_firstRow 138 = .ok (.aload_n 2, 1)) rfl rfl) ?_
  refine q_fa (ok_iload (by decide +kernel : decode cX5_firstRow 139 = .ok (.iload 7, 2)) rfl) ?_
  refine q_fa (ok_iload (by decide +kernel : decode cX5_firstRow 141 = .ok (.iload 11, 2)) rfl) ?_
  refine q_fa (ok_callV (by decide +kernel : decode cX5_firstRow 143 = .ok (.invokevirtual 42, 3)) rfl kX0_after.1 kX0_after.2.1 kX0_after.2.2.1 kX0_after.2.2.2.1 kX0_after.2.2.2.2 (rfl : vwCl[0]? = some (RX0, TX0, 9)) g529 g530 g603) ?_
  refine q_fa (ok_iadd (by decide +kernel : decode cX5_firstRow 146 = .ok (.iadd, 1)) rfl) ?_
  refine q_fa (ok_iload (by decide +kernel : decode cX5_firstRow 147 = .ok (.iload 8, 2)) rfl) ?_
  refine q_fa (ok_iload (by decide +kernel : decode cX5_firstRow 149 = .ok (.iload 11, 2)) rfl) ?_
  refine q_fa (ok_callS (by decide +kernel : decode cX5_firstRow 151 = .ok (.invokestatic 46, 3)) rfl kX5_longer.1 kX5_longer.2.1 kX5_longer.2.2.1 kX5_longer.2.2.2.1 kX5_longer.2.2.2.2 g605 g604) ?_
  refine q_fa (ok_callV (by decide +kernel : decode cX5_firstRow 154 = .ok (.invokevirtual 28, 3)) rfl kX5_reach.1 kX5_reach.2.1 kX5_reach.2.2.1 kX5_reach.2.2.2.1 kX5_reach.2.2.2.2 (rfl : vwCl[5]? = some (RX5, TX5, 3)) g596 gs26 g594) ?_
  refine q_fa (ok_iinc (by decide +kernel : decode cX5_firstRow 157 = .ok (.iinc 11 1, 3)) rfl (by decide +kernel) (by decide)) ?_
  refine q_fa (ok_goto (by decide +kernel : decode cX5_firstRow 160 = .ok (.goto (-40), 3)) (by decide)) ?_
  refine q_fa (ok_iinc (by decide +kernel : decode cX5_firstRow 163 = .ok (.iinc 4 1, 3)) rfl (by decide +kernel) (by decide)) ?_
  refine q_fa (ok_goto (by decide +kernel : decode cX5_firstRow 166 = .ok (.goto (-142), 3)) (by decide)) ?_
  refine q_fa (ok_bipush (by decide +kernel : decode cX5_firstRow 169 = .ok (.bipush (-2), 2)) rfl (by decide +kernel)) ?_
  refine q_fa (ok_iret (by decide +kernel : decode cX5_firstRow 171 = .ok (.ireturn, 1)) rfl) ?_
  exact q_fa0
theorem exX5_firstRow : ∃ t : Nat → qP, t = uX5_firstRow := ⟨_, rfl⟩
noncomputable def tX5_firstRow : Nat → qP := Classical.choose exX5_firstRow
theorem teX5_firstRow : tX5_firstRow = uX5_firstRow := Classical.choose_spec exX5_firstRow
theorem sX5_firstRow : q_Snd mX5_firstRow tX5_firstRow := by rw [teX5_firstRow]; exact suX5_firstRow
theorem tX5_firstRow_0 : tX5_firstRow 0 = oAl 0 1 := (congrFun teX5_firstRow 0).trans rfl
theorem tX5_firstRow_1 : tX5_firstRow 1 = oGet 5 0 4 := (congrFun teX5_firstRow 1).trans rfl
theorem tX5_firstRow_4 : tX5_firstRow 4 = oK (.int (nI 0)) 5 := (congrFun teX5_firstRow 4).trans rfl
theorem tX5_firstRow_5 : tX5_firstRow 5 = oCallS mJ7_fill_53178 2 8 := (congrFun teX5_firstRow 5).trans rfl
theorem tX5_firstRow_8 : tX5_firstRow 8 = oAl 0 9 := (congrFun teX5_firstRow 8).trans rfl
theorem tX5_firstRow_9 : tX5_firstRow 9 = oK (.int (nI 0)) 10 := (congrFun teX5_firstRow 9).trans rfl
theorem tX5_firstRow_10 : tX5_firstRow 10 = oPutI 5 2 13 := (congrFun teX5_firstRow 10).trans rfl
theorem tX5_firstRow_13 : tX5_firstRow 13 = oAl 0 14 := (congrFun teX5_firstRow 13).trans rfl
theorem tX5_firstRow_14 : tX5_firstRow 14 = oK (.int (nI 4224)) 17 := (congrFun teX5_firstRow 14).trans rfl
theorem tX5_firstRow_17 : tX5_firstRow 17 = oK (.int (nI 1)) 18 := (congrFun teX5_firstRow 17).trans rfl
theorem tX5_firstRow_18 : tX5_firstRow 18 = oCallV 5 mX5_reach 2 21 := (congrFun teX5_firstRow 18).trans rfl
theorem tX5_firstRow_21 : tX5_firstRow 21 = oK (.int (nI 0)) 22 := (congrFun teX5_firstRow 21).trans rfl
theorem tX5_firstRow_22 : tX5_firstRow 22 = oIs 4 24 := (congrFun teX5_firstRow 22).trans rfl
theorem tX5_firstRow_24 : tX5_firstRow 24 = oIl 4 26 := (congrFun teX5_firstRow 24).trans rfl
theorem tX5_firstRow_26 : tX5_firstRow 26 = oAl 0 27 := (congrFun teX5_firstRow 26).trans rfl
theorem tX5_firstRow_27 : tX5_firstRow 27 = oGet 5 2 30 := (congrFun teX5_firstRow 27).trans rfl
theorem tX5_firstRow_30 : tX5_firstRow 30 = oIf2ge 169 33 := (congrFun teX5_firstRow 30).trans rfl
theorem tX5_firstRow_33 : tX5_firstRow 33 = oIl 4 35 := (congrFun teX5_firstRow 33).trans rfl
theorem tX5_firstRow_35 : tX5_firstRow 35 = oAl 0 36 := (congrFun teX5_firstRow 35).trans rfl
theorem tX5_firstRow_36 : tX5_firstRow 36 = oGet 5 1 39 := (congrFun teX5_firstRow 36).trans rfl
theorem tX5_firstRow_39 : tX5_firstRow 39 = oAlen 40 := (congrFun teX5_firstRow 39).trans rfl
theorem tX5_firstRow_40 : tX5_firstRow 40 = oIf2ge 169 43 := (congrFun teX5_firstRow 40).trans rfl
theorem tX5_firstRow_43 : tX5_firstRow 43 = oAl 0 44 := (congrFun teX5_firstRow 43).trans rfl
theorem tX5_firstRow_44 : tX5_firstRow 44 = oGet 5 1 47 := (congrFun teX5_firstRow 44).trans rfl
theorem tX5_firstRow_47 : tX5_firstRow 47 = oIl 4 49 := (congrFun teX5_firstRow 47).trans rfl
theorem tX5_firstRow_49 : tX5_firstRow 49 = oIald 50 := (congrFun teX5_firstRow 49).trans rfl
theorem tX5_firstRow_50 : tX5_firstRow 50 = oIs 5 52 := (congrFun teX5_firstRow 50).trans rfl
theorem tX5_firstRow_52 : tX5_firstRow 52 = oIl 5 54 := (congrFun teX5_firstRow 52).trans rfl
theorem tX5_firstRow_54 : tX5_firstRow 54 = oK (.int (nI 65)) 56 := (congrFun teX5_firstRow 54).trans rfl
theorem tX5_firstRow_56 : tX5_firstRow 56 = oDiv 57 := (congrFun teX5_firstRow 56).trans rfl
theorem tX5_firstRow_57 : tX5_firstRow 57 = oIs 6 59 := (congrFun teX5_firstRow 57).trans rfl
theorem tX5_firstRow_59 : tX5_firstRow 59 = oIl 5 61 := (congrFun teX5_firstRow 59).trans rfl
theorem tX5_firstRow_61 : tX5_firstRow 61 = oK (.int (nI 65)) 63 := (congrFun teX5_firstRow 61).trans rfl
theorem tX5_firstRow_63 : tX5_firstRow 63 = oRem 64 := (congrFun teX5_firstRow 63).trans rfl
theorem tX5_firstRow_64 : tX5_firstRow 64 = oIs 7 66 := (congrFun teX5_firstRow 64).trans rfl
theorem tX5_firstRow_66 : tX5_firstRow 66 = oAl 0 67 := (congrFun teX5_firstRow 66).trans rfl
theorem tX5_firstRow_67 : tX5_firstRow 67 = oIl 5 69 := (congrFun teX5_firstRow 67).trans rfl
theorem tX5_firstRow_69 : tX5_firstRow 69 = oCallV 5 mX5_rowTo 1 72 := (congrFun teX5_firstRow 69).trans rfl
theorem tX5_firstRow_72 : tX5_firstRow 72 = oIs 8 74 := (congrFun teX5_firstRow 72).trans rfl
theorem tX5_firstRow_74 : tX5_firstRow 74 = oAl 1 75 := (congrFun teX5_firstRow 74).trans rfl
theorem tX5_firstRow_75 : tX5_firstRow 75 = oIl 6 77 := (congrFun teX5_firstRow 75).trans rfl
theorem tX5_firstRow_77 : tX5_firstRow 77 = oCallV 0 mX0_endsAt 1 80 := (congrFun teX5_firstRow 77).trans rfl
theorem tX5_firstRow_80 : tX5_firstRow 80 = oIs 9 82 := (congrFun teX5_firstRow 80).trans rfl
theorem tX5_firstRow_82 : tX5_firstRow 82 = oAl 2 83 := (congrFun teX5_firstRow 82).trans rfl
theorem tX5_firstRow_83 : tX5_firstRow 83 = oIl 7 85 := (congrFun teX5_firstRow 83).trans rfl
theorem tX5_firstRow_85 : tX5_firstRow 85 = oCallV 0 mX0_endsAt 1 88 := (congrFun teX5_firstRow 85).trans rfl
theorem tX5_firstRow_88 : tX5_firstRow 88 = oIs 10 90 := (congrFun teX5_firstRow 88).trans rfl
theorem tX5_firstRow_90 : tX5_firstRow 90 = oIl 9 92 := (congrFun teX5_firstRow 90).trans rfl
theorem tX5_firstRow_92 : tX5_firstRow 92 = oIf1eq 100 95 := (congrFun teX5_firstRow 92).trans rfl
theorem tX5_firstRow_95 : tX5_firstRow 95 = oIl 10 97 := (congrFun teX5_firstRow 95).trans rfl
theorem tX5_firstRow_97 : tX5_firstRow 97 = oIf1eq 114 100 := (congrFun teX5_firstRow 97).trans rfl
theorem tX5_firstRow_100 : tX5_firstRow 100 = oIl 10 102 := (congrFun teX5_firstRow 100).trans rfl
theorem tX5_firstRow_102 : tX5_firstRow 102 = oIf1eq 117 105 := (congrFun teX5_firstRow 102).trans rfl
theorem tX5_firstRow_105 : tX5_firstRow 105 = oIl 9 107 := (congrFun teX5_firstRow 105).trans rfl
theorem tX5_firstRow_107 : tX5_firstRow 107 = oIf1ne 117 110 := (congrFun teX5_firstRow 107).trans rfl
theorem tX5_firstRow_110 : tX5_firstRow 110 = oIl 3 111 := (congrFun teX5_firstRow 110).trans rfl
theorem tX5_firstRow_111 : tX5_firstRow 111 = oIf1ne 117 114 := (congrFun teX5_firstRow 111).trans rfl
theorem tX5_firstRow_114 : tX5_firstRow 114 = oIl 8 116 := (congrFun teX5_firstRow 114).trans rfl
theorem tX5_firstRow_116 : tX5_firstRow 116 = oIret := (congrFun teX5_firstRow 116).trans rfl
theorem tX5_firstRow_117 : tX5_firstRow 117 = oK (.int (nI 0)) 118 := (congrFun teX5_firstRow 117).trans rfl
theorem tX5_firstRow_118 : tX5_firstRow 118 = oIs 11 120 := (congrFun teX5_firstRow 118).trans rfl
theorem tX5_firstRow_120 : tX5_firstRow 120 = oIl 11 122 := (congrFun teX5_firstRow 120).trans rfl
theorem tX5_firstRow_122 : tX5_firstRow 122 = oK (.int (nI 3)) 123 := (congrFun teX5_firstRow 122).trans rfl
theorem tX5_firstRow_123 : tX5_firstRow 123 = oIf2ge 163 126 := (congrFun teX5_firstRow 123).trans rfl
theorem tX5_firstRow_126 : tX5_firstRow 126 = oAl 0 127 := (congrFun teX5_firstRow 126).trans rfl
theorem tX5_firstRow_127 : tX5_firstRow 127 = oAl 1 128 := (congrFun teX5_firstRow 127).trans rfl
theorem tX5_firstRow_128 : tX5_firstRow 128 = oIl 6 130 := (congrFun teX5_firstRow 128).trans rfl
theorem tX5_firstRow_130 : tX5_firstRow 130 = oIl 11 132 := (congrFun teX5_firstRow 130).trans rfl
theorem tX5_firstRow_132 : tX5_firstRow 132 = oCallV 0 mX0_after 2 135 := (congrFun teX5_firstRow 132).trans rfl
theorem tX5_firstRow_135 : tX5_firstRow 135 = oK (.int (nI 65)) 137 := (congrFun teX5_firstRow 135).trans rfl
theorem tX5_firstRow_137 : tX5_firstRow 137 = oMul 138 := (congrFun teX5_firstRow 137).trans rfl
theorem tX5_firstRow_138 : tX5_firstRow 138 = oAl 2 139 := (congrFun teX5_firstRow 138).trans rfl
theorem tX5_firstRow_139 : tX5_firstRow 139 = oIl 7 141 := (congrFun teX5_firstRow 139).trans rfl
theorem tX5_firstRow_141 : tX5_firstRow 141 = oIl 11 143 := (congrFun teX5_firstRow 141).trans rfl
theorem tX5_firstRow_143 : tX5_firstRow 143 = oCallV 0 mX0_after 2 146 := (congrFun teX5_firstRow 143).trans rfl
theorem tX5_firstRow_146 : tX5_firstRow 146 = oAdd 147 := (congrFun teX5_firstRow 146).trans rfl
theorem tX5_firstRow_147 : tX5_firstRow 147 = oIl 8 149 := (congrFun teX5_firstRow 147).trans rfl
theorem tX5_firstRow_149 : tX5_firstRow 149 = oIl 11 151 := (congrFun teX5_firstRow 149).trans rfl
theorem tX5_firstRow_151 : tX5_firstRow 151 = oCallS mX5_longer 2 154 := (congrFun teX5_firstRow 151).trans rfl
theorem tX5_firstRow_154 : tX5_firstRow 154 = oCallV 5 mX5_reach 2 157 := (congrFun teX5_firstRow 154).trans rfl
theorem tX5_firstRow_157 : tX5_firstRow 157 = oInc 11 (nI 1) 160 := (congrFun teX5_firstRow 157).trans rfl
theorem tX5_firstRow_160 : tX5_firstRow 160 = oGo 120 := (congrFun teX5_firstRow 160).trans rfl
theorem tX5_firstRow_163 : tX5_firstRow 163 = oInc 4 (nI 1) 166 := (congrFun teX5_firstRow 163).trans rfl
theorem tX5_firstRow_166 : tX5_firstRow 166 = oGo 24 := (congrFun teX5_firstRow 166).trans rfl
theorem tX5_firstRow_169 : tX5_firstRow 169 = oK (.int (-2)) 171 := (congrFun teX5_firstRow 169).trans rfl
theorem tX5_firstRow_171 : tX5_firstRow 171 = oIret := (congrFun teX5_firstRow 171).trans rfl
def lX5_rowTo : List (Nat × qP) := [(0, oIl 1 1), (1, oIf1lt 22 4), (4, oIl 1 5), (5, oAl 0 6), (6, oGet 5 0 9), (9, oAlen 10), (10, oIf2ge 22 13), (13, oAl 0 14), (14, oGet 5 0 17), (17, oIl 1 18), (18, oIald 19), (19, oGo 24), (22, oK (.int (-3)) 24), (24, oIret)]
def uX5_rowTo : Nat → qP := q_tb lX5_rowTo
set_option maxRecDepth 20000 in
theorem suX5_rowTo : q_Snd mX5_rowTo uX5_rowTo := by
  refine q_tb_ok ?_
  unfold lX5_rowTo
  refine q_fa (ok_iload_n (by decide +kernel : decode cX5_rowTo 0 = .ok (.iload_n 1, 1)) rfl rfl) ?_
  refine q_fa (ok_if1lt (by decide +kernel : decode cX5_rowTo 1 = .ok (.ifCond .lt 21, 3)) (by decide) rfl) ?_
  refine q_fa (ok_iload_n (by decide +kernel : decode cX5_rowTo 4 = .ok (.iload_n 1, 1)) rfl rfl) ?_
  refine q_fa (ok_aload_n (by decide +kernel : decode cX5_rowTo 5 = .ok (.aload_n 0, 1)) rfl rfl) ?_
  refine q_fa (ok_get (by decide +kernel : decode cX5_rowTo 6 = .ok (.getfield 9, 3)) rfl (rfl : vwCl[5]? = some (RX5, TX5, 3)) inX5 (by decide) g579) ?_
  refine q_fa (ok_alen (by decide +kernel : decode cX5_rowTo 9 = .ok (.arraylength, 1)) rfl) ?_
  refine q_fa (ok_if2ge (by decide +kernel : decode cX5_rowTo 10 = .ok (.if_icmp .ge 12, 3)) (by decide) rfl) ?_
  refine q_fa (ok_aload_n (by decide +kernel : decode cX5_rowTo 13 = .ok (.aload_n 0, 1)) rfl rfl) ?_
  refine q_fa (ok_get (by decide +kernel : decode cX5_rowTo 14 = .ok (.getfield 9, 3)) rfl (rfl : vwCl[5]? = some (RX5, TX5, 3)) inX5 (by decide) g579) ?_
  refine q_fa (ok_iload_n (by decide +kernel : decode cX5_rowTo 17 = .ok (.iload_n 1, 1)) rfl rfl) ?_
  refine q_fa (ok_iaload (by decide +kernel : decode cX5_rowTo 18 = .ok (.iaload, 1)) rfl) ?_
  refine q_fa (ok_goto (by decide +kernel : decode cX5_rowTo 19 = .ok (.goto 5, 3)) (by decide)) ?_
  refine q_fa (ok_bipush (by decide +kernel : decode cX5_rowTo 22 = .ok (.bipush (-3), 2)) rfl (by decide +kernel)) ?_
  refine q_fa (ok_iret (by decide +kernel : decode cX5_rowTo 24 = .ok (.ireturn, 1)) rfl) ?_
  exact q_fa0
theorem exX5_rowTo : ∃ t : Nat → qP, t = uX5_rowTo := ⟨_, rfl⟩
noncomputable def tX5_rowTo : Nat → qP := Classical.choose exX5_rowTo
theorem teX5_rowTo : tX5_rowTo = uX5_rowTo := Classical.choose_spec exX5_rowTo
theorem sX5_rowTo : q_Snd mX5_rowTo tX5_rowTo := by rw [teX5_rowTo]; exact suX5_rowTo
theorem tX5_rowTo_0 : tX5_rowTo 0 = oIl 1 1 := (congrFun teX5_rowTo 0).trans rfl
theorem tX5_rowTo_1 : tX5_rowTo 1 = oIf1lt 22 4 := (congrFun teX5_rowTo 1).trans rfl
theorem tX5_rowTo_4 : tX5_rowTo 4 = oIl 1 5 := (congrFun teX5_rowTo 4).trans rfl
theorem tX5_rowTo_5 : tX5_rowTo 5 = oAl 0 6 := (congrFun teX5_rowTo 5).trans rfl
theorem tX5_rowTo_6 : tX5_rowTo 6 = oGet 5 0 9 := (congrFun teX5_rowTo 6).trans rfl
theorem tX5_rowTo_9 : tX5_rowTo 9 = oAlen 10 := (congrFun teX5_rowTo 9).trans rfl
theorem tX5_rowTo_10 : tX5_rowTo 10 = oIf2ge 22 13 := (congrFun teX5_rowTo 10).trans rfl
theorem tX5_rowTo_13 : tX5_rowTo 13 = oAl 0 14 := (congrFun teX5_rowTo 13).trans rfl
theorem tX5_rowTo_14 : tX5_rowTo 14 = oGet 5 0 17 := (congrFun teX5_rowTo 14).trans rfl
theorem tX5_rowTo_17 : tX5_rowTo 17 = oIl 1 18 := (congrFun teX5_rowTo 17).trans rfl
theorem tX5_rowTo_18 : tX5_rowTo 18 = oIald 19 := (congrFun teX5_rowTo 18).trans rfl
theorem tX5_rowTo_19 : tX5_rowTo 19 = oGo 24 := (congrFun teX5_rowTo 19).trans rfl
theorem tX5_rowTo_22 : tX5_rowTo 22 = oK (.int (-3)) 24 := (congrFun teX5_rowTo 22).trans rfl
theorem tX5_rowTo_24 : tX5_rowTo 24 = oIret := (congrFun teX5_rowTo 24).trans rfl
def lX5_reach : List (Nat × qP) := [(0, oIl 1 1), (1, oIf1lt 34 4), (4, oIl 1 5), (5, oAl 0 6), (6, oGet 5 0 9), (9, oAlen 10), (10, oIf2ge 34 13), (13, oAl 0 14), (14, oGet 5 0 17), (17, oIl 1 18), (18, oIald 19), (19, oIf1ne 34 22), (22, oAl 0 23), (23, oGet 5 2 26), (26, oAl 0 27), (27, oGet 5 1 30), (30, oAlen 31), (31, oIf2lt 35 34), (34, oVret), (35, oAl 0 36), (36, oGet 5 0 39), (39, oIl 1 40), (40, oIl 2 41), (41, oIast 42), (42, oAl 0 43), (43, oGet 5 1 46), (46, oAl 0 47), (47, oGet 5 2 50), (50, oIl 1 51), (51, oIast 52), (52, oAl 0 53), (53, oDup 54), (54, oGet 5 2 57), (57, oK (.int (nI 1)) 58), (58, oAdd 59), (59, oPutI 5 2 62), (62, oVret)]
def uX5_reach : Nat → qP := q_tb lX5_reach
set_option maxRecDepth 20000 in
theorem suX5_reach : q_Snd mX5_reach uX5_reach := by
  refine q_tb_ok ?_
  unfold lX5_reach
  refine q_fa (ok_iload_n (by decide +kernel : decode cX5_reach 0 = .ok (.iload_n 1, 1)) rfl rfl) ?_
  refine q_fa (ok_if1lt (by decide +kernel : decode cX5_reach 1 = .ok (.ifCond .lt 33, 3)) (by decide) rfl) ?_
  refine q_fa (ok_iload_n (by decide +kernel : decode cX5_reach 4 = .ok (.iload_n 1, 1)) rfl rfl) ?_
  refine q_fa (ok_aload_n (by decide +kernel : decode cX5_reach 5 = .ok (.aload_n 0, 1)) rfl rfl) ?_
  refine q_fa (ok_get (by decide +kernel : decode cX5_reach 6 = .ok (.getfield 9, 3)) rfl (rfl : vwCl[5]? = some (RX5, TX5, 3)) inX5 (by decide) g579) ?_
  refine q_fa (ok_alen (by decide +kernel : decode cX5_reach 9 = .ok (.arraylength, 1)) rfl) ?_
  refine q_fa (ok_if2ge (by decide +kernel : decode cX5_reach 10 = .ok (.if_icmp .ge 24, 3)) (by decide) rfl) ?_
  refine q_fa (ok_aload_n (by decide +kernel : decode cX5_reach 13 = .ok (.aload_n 0, 1)) rfl rfl) ?_
  refine q_fa (ok_get (by decide +kernel : decode cX5_reach 14 = .ok (.getfield 9, 3)) rfl (rfl : vwCl[5]? = some (RX5, TX5, 3)) inX5 (by decide) g579) ?_
  refine q_fa (ok_iload_n (by decide +kernel : decode cX5_reach 17 = .ok (.iload_n 1, 1)) rfl rfl) ?_
  refine q_fa (ok_iaload (by decide +kernel : decode cX5_reach 18 = .ok (.iaload, 1)) rfl) ?_
  refine q_fa (ok_if1ne (by decide +kernel : decode cX5_reach 19 = .ok (.ifCond .ne 15, 3)) (by decide) rfl) ?_
  refine q_fa (ok_aload_n (by decide +kernel : decode cX5_reach 22 = .ok (.aload_n 0, 1)) rfl rfl) ?_
  refine q_fa (ok_get (by decide +kernel : decode cX5_reach 23 = .ok (.getfield 24, 3)) rfl (rfl : vwCl[5]? = some (RX5, TX5, 3)) inX5 (by decide) g581) ?_
  refine q_fa (ok_aload_n (by decide +kernel : decode cX5_reach 26 = .ok (.aload_n 0, 1)) rfl rfl) ?_
  refine q_fa (ok_get (by decide +kernel : decode cX5_reach 27 = .ok (.getfield 15, 3)) rfl (rfl : vwCl[5]? = some (RX5, TX5, 3)) inX5 (by decide) g580) ?_
  refine q_fa (ok_alen (by decide +kernel : decode cX5_reach 30 = .ok (.arraylength, 1)) rfl) ?_
  refine q_fa (ok_if2lt (by decide +kernel : decode cX5_reach 31 = .ok (.if_icmp .lt 4, 3)) (by decide) rfl) ?_
  refine q_fa (ok_vret (by decide +kernel : decode cX5_reach 34 = .ok (.return_, 1)) rfl) ?_
  refine q_fa (ok_aload_n (by decide +kernel : decode cX5_reach 35 = .ok (.aload_n 0, 1)) rfl rfl) ?_
  refine q_fa (ok_get (by decide +kernel : decode cX5_reach 36 = .ok (.getfield 9, 3)) rfl (rfl : vwCl[5]? = some (RX5, TX5, 3)) inX5 (by decide) g579) ?_
  refine q_fa (ok_iload_n (by decide +kernel : decode cX5_reach 39 = .ok (.iload_n 1, 1)) rfl rfl) ?_
  refine q_fa (ok_iload_n (by decide +kernel : decode cX5_reach 40 = .ok (.iload_n 2, 1)) rfl rfl) ?_
  refine q_fa (ok_iastore (by decide +kernel : decode cX5_reach 41 = .ok (.iastore, 1)) rfl) ?_
  refine q_fa (ok_aload_n (by decide +kernel : decode cX5_reach 42 = .ok (.aload_n 0, 1)) rfl rfl) ?_
  refine q_fa (ok_get (by decide +kernel : decode cX5_reach 43 = .ok (.getfield 15, 3)) rfl (rfl : vwCl[5]? = some (RX5, TX5, 3)) inX5 (by decide) g580) ?_
  refine q_fa (ok_aload_n (by decide +kernel : decode cX5_reach 46 = .ok (.aload_n 0, 1)) rfl rfl) ?_
  refine q_fa (ok_get (by decide +kernel : decode cX5_reach 47 = .ok (.getfield 24, 3)) rfl (rfl : vwCl[5]? = some (RX5, TX5, 3)) inX5 (by decide) g581) ?_
  refine q_fa (ok_iload_n (by decide +kernel : decode cX5_reach 50 = .ok (.iload_n 1, 1)) rfl rfl) ?_
  refine q_fa (ok_iastore (by decide +kernel : decode cX5_reach 51 = .ok (.iastore, 1)) rfl) ?_
  refine q_fa (ok_aload_n (by decide +kernel : decode cX5_reach 52 = .ok (.aload_n 0, 1)) rfl rfl) ?_
  refine q_fa (ok_dup (by decide +kernel : decode cX5_reach 53 = .ok (.dup, 1)) rfl) ?_
  refine q_fa (ok_get (by decide +kernel : decode cX5_reach 54 = .ok (.getfield 24, 3)) rfl (rfl : vwCl[5]? = some (RX5, TX5, 3)) inX5 (by decide) g581) ?_
  refine q_fa (ok_iconst (by decide +kernel : decode cX5_reach 57 = .ok (.iconst 1, 1)) rfl (by decide +kernel)) ?_
  refine q_fa (ok_iadd (by decide +kernel : decode cX5_reach 58 = .ok (.iadd, 1)) rfl) ?_
  refine q_fa (ok_putI tyX5 (by decide +kernel : decode cX5_reach 59 = .ok (.putfield 24, 3)) rfl (rfl : vwCl[5]? = some (RX5, TX5, 3)) inX5 tyX5_ok nmX5 (by decide) g581 (Or.inl rfl) (by decide +kernel)) ?_
  refine q_fa (ok_vret (by decide +kernel : decode cX5_reach 62 = .ok (.return_, 1)) rfl) ?_
  exact q_fa0
theorem exX5_reach : ∃ t : Nat → qP, t = uX5_reach := ⟨_, rfl⟩
noncomputable def tX5_reach : Nat → qP := Classical.choose exX5_reach
theorem teX5_reach : tX5_reach = uX5_reach := Classical.choose_spec exX5_reach
theorem sX5_reach : q_Snd mX5_reach tX5_reach := by rw [teX5_reach]; exact suX5_reach
theorem tX5_reach_0 : tX5_reach 0 = oIl 1 1 := (congrFun teX5_reach 0).trans rfl
theorem tX5_reach_1 : tX5_reach 1 = oIf1lt 34 4 := (congrFun teX5_reach 1).trans rfl
theorem tX5_reach_4 : tX5_reach 4 = oIl 1 5 := (congrFun teX5_reach 4).trans rfl
theorem tX5_reach_5 : tX5_reach 5 = oAl 0 6 := (congrFun teX5_reach 5).trans rfl
theorem tX5_reach_6 : tX5_reach 6 = oGet 5 0 9 := (congrFun teX5_reach 6).trans rfl
theorem tX5_reach_9 : tX5_reach 9 = oAlen 10 := (congrFun teX5_reach 9).trans rfl
theorem tX5_reach_10 : tX5_reach 10 = oIf2ge 34 13 := (congrFun teX5_reach 10).trans rfl
theorem tX5_reach_13 : tX5_reach 13 = oAl 0 14 := (congrFun teX5_reach 13).trans rfl
theorem tX5_reach_14 : tX5_reach 14 = oGet 5 0 17 := (congrFun teX5_reach 14).trans rfl
theorem tX5_reach_17 : tX5_reach 17 = oIl 1 18 := (congrFun teX5_reach 17).trans rfl
theorem tX5_reach_18 : tX5_reach 18 = oIald 19 := (congrFun teX5_reach 18).trans rfl
theorem tX5_reach_19 : tX5_reach 19 = oIf1ne 34 22 := (congrFun teX5_reach 19).trans rfl
theorem tX5_reach_22 : tX5_reach 22 = oAl 0 23 := (congrFun teX5_reach 22).trans rfl
theorem tX5_reach_23 : tX5_reach 23 = oGet 5 2 26 := (congrFun teX5_reach 23).trans rfl
theorem tX5_reach_26 : tX5_reach 26 = oAl 0 27 := (congrFun teX5_reach 26).trans rfl
theorem tX5_reach_27 : tX5_reach 27 = oGet 5 1 30 := (congrFun teX5_reach 27).trans rfl
theorem tX5_reach_30 : tX5_reach 30 = oAlen 31 := (congrFun teX5_reach 30).trans rfl
theorem tX5_reach_31 : tX5_reach 31 = oIf2lt 35 34 := (congrFun teX5_reach 31).trans rfl
theorem tX5_reach_34 : tX5_reach 34 = oVret := (congrFun teX5_reach 34).trans rfl
theorem tX5_reach_35 : tX5_reach 35 = oAl 0 36 := (congrFun teX5_reach 35).trans rfl
theorem tX5_reach_36 : tX5_reach 36 = oGet 5 0 39 := (congrFun teX5_reach 36).trans rfl
theorem tX5_reach_39 : tX5_reach 39 = oIl 1 40 := (congrFun teX5_reach 39).trans rfl
theorem tX5_reach_40 : tX5_reach 40 = oIl 2 41 := (congrFun teX5_reach 40).trans rfl
theorem tX5_reach_41 : tX5_reach 41 = oIast 42 := (congrFun teX5_reach 41).trans rfl
theorem tX5_reach_42 : tX5_reach 42 = oAl 0 43 := (congrFun teX5_reach 42).trans rfl
theorem tX5_reach_43 : tX5_reach 43 = oGet 5 1 46 := (congrFun teX5_reach 43).trans rfl
theorem tX5_reach_46 : tX5_reach 46 = oAl 0 47 := (congrFun teX5_reach 46).trans rfl
theorem tX5_reach_47 : tX5_reach 47 = oGet 5 2 50 := (congrFun teX5_reach 47).trans rfl
theorem tX5_reach_50 : tX5_reach 50 = oIl 1 51 := (congrFun teX5_reach 50).trans rfl
theorem tX5_reach_51 : tX5_reach 51 = oIast 52 := (congrFun teX5_reach 51).trans rfl
theorem tX5_reach_52 : tX5_reach 52 = oAl 0 53 := (congrFun teX5_reach 52).trans rfl
theorem tX5_reach_53 : tX5_reach 53 = oDup 54 := (congrFun teX5_reach 53).trans rfl
theorem tX5_reach_54 : tX5_reach 54 = oGet 5 2 57 := (congrFun teX5_reach 54).trans rfl
theorem tX5_reach_57 : tX5_reach 57 = oK (.int (nI 1)) 58 := (congrFun teX5_reach 57).trans rfl
theorem tX5_reach_58 : tX5_reach 58 = oAdd 59 := (congrFun teX5_reach 58).trans rfl
theorem tX5_reach_59 : tX5_reach 59 = oPutI 5 2 62 := (congrFun teX5_reach 59).trans rfl
theorem tX5_reach_62 : tX5_reach 62 = oVret := (congrFun teX5_reach 62).trans rfl
def lX5_longer : List (Nat × qP) := [(0, oIl 0 1), (1, oK (.int (-3)) 3), (3, oIf2eq 16 6), (6, oIl 0 7), (7, oStW 10), (10, oK (.int (nI 12)) 12), (12, oIald 13), (13, oIf2lt 21 16), (16, oK (.int (-3)) 18), (18, oGo 26), (21, oIl 0 22), (22, oK (.int (nI 3)) 23), (23, oMul 24), (24, oIl 1 25), (25, oAdd 26), (26, oIret)]
def uX5_longer : Nat → qP := q_tb lX5_longer
set_option maxRecDepth 20000 in
theorem suX5_longer : q_Snd mX5_longer uX5_longer := by
  refine q_tb_ok ?_
  unfold lX5_longer
  refine q_fa (ok_iload_n (by decide +kernel : decode cX5_longer 0 = .ok (.iload_n 0, 1)) rfl rfl) ?_
  refine q_fa (ok_bipush (by decide +kernel : decode cX5_longer 1 = .ok (.bipush (-3), 2)) rfl (by decide +kernel)) ?_
  refine q_fa (ok_if2eq (by decide +kernel : decode cX5_longer 3 = .ok (.if_icmp .eq 13, 3)) (by decide) rfl) ?_
  refine q_fa (ok_iload_n (by decide +kernel : decode cX5_longer 6 = .ok (.iload_n 0, 1)) rfl rfl) ?_
  refine q_fa (ok_stWN (by decide +kernel : decode cX5_longer 7 = .ok (.getstatic 49, 3)) rfl gn607) ?_
  refine q_fa (ok_bipush (by decide +kernel : decode cX5_longer 10 = .ok (.bipush 12, 2)) rfl (by decide +kernel)) ?_
  refine q_fa (ok_iaload (by decide +kernel : decode cX5_longer 12 = .ok (.iaload, 1)) rfl) ?_
  refine q_fa (ok_if2lt (by decide +kernel : decode cX5_longer 13 = .ok (.if_icmp .lt 8, 3)) (by decide) rfl) ?_
  refine q_fa (ok_bipush (by decide +kernel : decode cX5_longer 16 = .ok (.bipush (-3), 2)) rfl (by decide +kernel)) ?_
  refine q_fa (ok_goto (by decide +kernel : decode cX5_longer 18 = .ok (.goto 8, 3)) (by decide)) ?_
  refine q_fa (ok_iload_n (by decide +kernel : decode cX5_longer 21 = .ok (.iload_n 0, 1)) rfl rfl) ?_
  refine q_fa (ok_iconst (by decide +kernel : decode cX5_longer 22 = .ok (.iconst 3, 1)) rfl (by decide +kernel)) ?_
  refine q_fa (ok_imul (by decide +kernel : decode cX5_longer 23 = .ok (.imul, 1)) rfl) ?_
  refine q_fa (ok_iload_n (by decide +kernel : decode cX5_longer 24 = .ok (.iload_n 1, 1)) rfl rfl) ?_
  refine q_fa (ok_iadd (by decide +kernel : decode cX5_longer 25 = .ok (.iadd, 1)) rfl) ?_
  refine q_fa (ok_iret (by decide +kernel : decode cX5_longer 26 = .ok (.ireturn, 1)) rfl) ?_
  exact q_fa0
theorem exX5_longer : ∃ t : Nat → qP, t = uX5_longer := ⟨_, rfl⟩
noncomputable def tX5_longer : Nat → qP := Classical.choose exX5_longer
theorem teX5_longer : tX5_longer = uX5_longer := Classical.choose_spec exX5_longer
theorem sX5_longer : q_Snd mX5_longer tX5_longer := by rw [teX5_longer]; exact suX5_longer
theorem tX5_longer_0 : tX5_longer 0 = oIl 0 1 := (congrFun teX5_longer 0).trans rfl
theorem tX5_longer_1 : tX5_longer 1 = oK (.int (-3)) 3 := (congrFun teX5_longer 1).trans rfl
theorem tX5_longer_3 : tX5_longer 3 = oIf2eq 16 6 := (congrFun teX5_longer 3).trans rfl
theorem tX5_longer_6 : tX5_longer 6 = oIl 0 7 := (congrFun teX5_longer 6).trans rfl
theorem tX5_longer_7 : tX5_longer 7 = oStW 10 := (congrFun teX5_longer 7).trans rfl
theorem tX5_longer_10 : tX5_longer 10 = oK (.int (nI 12)) 12 := (congrFun teX5_longer 10).trans rfl
theorem tX5_longer_12 : tX5_longer 12 = oIald 13 := (congrFun teX5_longer 12).trans rfl
theorem tX5_longer_13 : tX5_longer 13 = oIf2lt 21 16 := (congrFun teX5_longer 13).trans rfl
theorem tX5_longer_16 : tX5_longer 16 = oK (.int (-3)) 18 := (congrFun teX5_longer 16).trans rfl
theorem tX5_longer_18 : tX5_longer 18 = oGo 26 := (congrFun teX5_longer 18).trans rfl
theorem tX5_longer_21 : tX5_longer 21 = oIl 0 22 := (congrFun teX5_longer 21).trans rfl
theorem tX5_longer_22 : tX5_longer 22 = oK (.int (nI 3)) 23 := (congrFun teX5_longer 22).trans rfl
theorem tX5_longer_23 : tX5_longer 23 = oMul 24 := (congrFun teX5_longer 23).trans rfl
theorem tX5_longer_24 : tX5_longer 24 = oIl 1 25 := (congrFun teX5_longer 24).trans rfl
theorem tX5_longer_25 : tX5_longer 25 = oAdd 26 := (congrFun teX5_longer 25).trans rfl
theorem tX5_longer_26 : tX5_longer 26 = oIret := (congrFun teX5_longer 26).trans rfl
def lX6_init : List (Nat × qP) := [(0, oAl 0 1), (1, oObj 4), (4, oAl 0 5), (5, oK (.int (nI 60)) 7), (7, oNewa 1 9), (9, oPutR 6 0 12), (12, oAl 0 13), (13, oNew 4 4 [.null, .null, .null, .int 0] 16), (16, oDup 17), (17, oK (.int (nI 120)) 19), (19, oCallI mX4_init 1 22), (22, oPutR 6 2 25), (25, oAl 0 26), (26, oK (.int (nI 60)) 28), (28, oNewa 1 30), (30, oPutR 6 3 33), (33, oVret)]
def uX6_init : Nat → qP := q_tb lX6_init
set_option maxRecDepth 20000 in
theorem suX6_init : q_Snd mX6_init uX6_init := by
  refine q_tb_ok ?_
  unfold lX6_init
  refine q_fa (ok_aload_n (by decide +kernel : decode cX6_init 0 = .ok (.aload_n 0, 1)) rfl rfl) ?_
  refine q_fa (ok_obj (by decide +kernel : decode cX6_init 1 = .ok (.invokespecial 3, 3)) rfl g33 g24 g25) ?_
  refine q_fa (ok_aload_n (by decide +kernel : decode cX6_init 4 = .ok (.aload_n 0, 1)) rfl rfl) ?_
  refine q_fa (ok_bipush (by decide +kernel : decode cX6_init 5 = .ok (.bipush 60, 2)) rfl (by decide +kernel)) ?_
  refine q_fa (ok_newa_int (by decide +kernel : decode cX6_init 7 = .ok (.newarray .int, 2)) rfl g56) ?_
  refine q_fa (ok_putR tyX6 (by decide +kernel : decode cX6_init 9 = .ok (.putfield 9, 3)) rfl (rfl : vwCl[6]? = some (RX6, TX6, 7)) inX6 tyX6_ok nmX6 (by decide) g57 (Or.inr ⟨rfl, rfl, rfl⟩) (by decide +kernel : parseFieldDescriptor (TX6 0).2.2.1 = some (tyX6 0)) (q_rfA _)) ?_
  refine q_fa (ok_aload_n (by decide +kernel : decode cX6_init 12 = .ok (.aload_n 0, 1)) rfl rfl) ?_
  refine q_fa (ok_new tyX4 (by decide +kernel : decode cX6_init 13 = .ok (.new 15, 3)) rfl (rfl : vwCl[4]? = some (RX4, TX4, 4)) inX4 tyX4_ok g34 g35 g3 (by decide +kernel)) ?_
  refine q_fa (ok_dup (by decide +kernel : decode cX6_init 16 = .ok (.dup, 1)) rfl) ?_
  refine q_fa (ok_bipush (by decide +kernel : decode cX6_init 17 = .ok (.bipush 120, 2)) rfl (by decide +kernel)) ?_
  refine q_fa (ok_callI (by decide +kernel : decode cX6_init 19 = .ok (.invokespecial 17, 3)) rfl kX4_init.1 kX4_init.2.1 kX4_init.2.2.1 kX4_init.2.2.2.1 kX4_init.2.2.2.2 rfl rfl g37 g36) ?_
  refine q_fa (ok_putR tyX6 (by decide +kernel : decode cX6_init 22 = .ok (.putfield 20, 3)) rfl (rfl : vwCl[6]? = some (RX6, TX6, 7)) inX6 tyX6_ok nmX6 (by decide) g59 (Or.inr ⟨rfl, rfl, rfl⟩) (by decide +kernel : parseFieldDescriptor (TX6 2).2.2.1 = some (tyX6 2)) (q_rfO _)) ?_
  refine q_fa (ok_aload_n (by decide +kernel : decode cX6_init 25 = .ok (.aload_n 0, 1)) rfl rfl) ?_
  refine q_fa (ok_bipush (by decide +kernel : decode cX6_init 26 = .ok (.bipush 60, 2)) rfl (by decide +kernel)) ?_
  refine q_fa (ok_newa_int (by decide +kernel : decode cX6_init 28 = .ok (.newarray .int, 2)) rfl g56) ?_
  refine q_fa (ok_putR tyX6 (by decide +kernel : decode cX6_init 30 = .ok (.putfield 24, 3)) rfl (rfl : vwCl[6]? = some (RX6, TX6, 7)) inX6 tyX6_ok nmX6 (by decide) g60 (Or.inr ⟨rfl, rfl, rfl⟩) (by decide +kernel : parseFieldDescriptor (TX6 3).2.2.1 = some (tyX6 3)) (q_rfA _)) ?_
  refine q_fa (ok_vret (by decide +kernel : decode cX6_init 33 = .ok (.return_, 1)) rfl) ?_
  exact q_fa0
theorem exX6_init : ∃ t : Nat → qP, t = uX6_init := ⟨_, rfl⟩
noncomputable def tX6_init : Nat → qP := Classical.choose exX6_init
theorem teX6_init : tX6_init = uX6_init := Classical.choose_spec exX6_init
theorem sX6_init : q_Snd mX6_init tX6_init := by rw [teX6_init]; exact suX6_init
theorem tX6_init_0 : tX6_init 0 = oAl 0 1 := (congrFun teX6_init 0).trans rfl
theorem tX6_init_1 : tX6_init 1 = oObj 4 := (congrFun teX6_init 1).trans rfl
theorem tX6_init_4 : tX6_init 4 = oAl 0 5 := (congrFun teX6_init 4).trans rfl
theorem tX6_init_5 : tX6_init 5 = oK (.int (nI 60)) 7 := (congrFun teX6_init 5).trans rfl
theorem tX6_init_7 : tX6_init 7 = oNewa 1 9 := (congrFun teX6_init 7).trans rfl
theorem tX6_init_9 : tX6_init 9 = oPutR 6 0 12 := (congrFun teX6_init 9).trans rfl
theorem tX6_init_12 : tX6_init 12 = oAl 0 13 := (congrFun teX6_init 12).trans rfl
theorem tX6_init_13 : tX6_init 13 = oNew 4 4 [.null, .null, .null, .int 0] 16 := (congrFun teX6_init 13).trans rfl
theorem tX6_init_16 : tX6_init 16 = oDup 17 := (congrFun teX6_init 16).trans rfl
theorem tX6_init_17 : tX6_init 17 = oK (.int (nI 120)) 19 := (congrFun teX6_init 17).trans rfl
theorem tX6_init_19 : tX6_init 19 = oCallI mX4_init 1 22 := (congrFun teX6_init 19).trans rfl
theorem tX6_init_22 : tX6_init 22 = oPutR 6 2 25 := (congrFun teX6_init 22).trans rfl
theorem tX6_init_25 : tX6_init 25 = oAl 0 26 := (congrFun teX6_init 25).trans rfl
theorem tX6_init_26 : tX6_init 26 = oK (.int (nI 60)) 28 := (congrFun teX6_init 26).trans rfl
theorem tX6_init_28 : tX6_init 28 = oNewa 1 30 := (congrFun teX6_init 28).trans rfl
theorem tX6_init_30 : tX6_init 30 = oPutR 6 3 33 := (congrFun teX6_init 30).trans rfl
theorem tX6_init_33 : tX6_init 33 = oVret := (congrFun teX6_init 33).trans rfl
def lX6_length : List (Nat × qP) := [(0, oAl 0 1), (1, oGet 6 1 4), (4, oIret)]
def uX6_length : Nat → qP := q_tb lX6_length
set_option maxRecDepth 20000 in
theorem suX6_length : q_Snd mX6_length uX6_length := by
  refine q_tb_ok ?_
  unfold lX6_length
  refine q_fa (ok_aload_n (by decide +kernel : decode cX6_length 0 = .ok (.aload_n 0, 1)) rfl rfl) ?_
  refine q_fa (ok_get (by decide +kernel : decode cX6_length 1 = .ok (.getfield 27, 3)) rfl (rfl : vwCl[6]? = some (RX6, TX6, 7)) inX6 (by decide) g58) ?_
  refine q_fa (ok_iret (by decide +kernel : decode cX6_length 4 = .ok (.ireturn, 1)) rfl) ?_
  exact q_fa0
theorem exX6_length : ∃ t : Nat → qP, t = uX6_length := ⟨_, rfl⟩
noncomputable def tX6_length : Nat → qP := Classical.choose exX6_length
theorem teX6_length : tX6_length = uX6_length := Classical.choose_spec exX6_length
theorem sX6_length : q_Snd mX6_length tX6_length := by rw [teX6_length]; exact suX6_length
theorem tX6_length_0 : tX6_length 0 = oAl 0 1 := (congrFun teX6_length 0).trans rfl
theorem tX6_length_1 : tX6_length 1 = oGet 6 1 4 := (congrFun teX6_length 1).trans rfl
theorem tX6_length_4 : tX6_length 4 = oIret := (congrFun teX6_length 4).trans rfl
def lX6_nodes : List (Nat × qP) := [(0, oAl 0 1), (1, oGet 6 2 4), (4, oAret)]
def uX6_nodes : Nat → qP := q_tb lX6_nodes
set_option maxRecDepth 20000 in
theorem suX6_nodes : q_Snd mX6_nodes uX6_nodes := by
  refine q_tb_ok ?_
  unfold lX6_nodes
  refine q_fa (ok_aload_n (by decide +kernel : decode cX6_nodes 0 = .ok (.aload_n 0, 1)) rfl rfl) ?_
  refine q_fa (ok_get (by decide +kernel : decode cX6_nodes 1 = .ok (.getfield 20, 3)) rfl (rfl : vwCl[6]? = some (RX6, TX6, 7)) inX6 (by decide) g59) ?_
  refine q_fa (ok_aret (by decide +kernel : decode cX6_nodes 4 = .ok (.areturn, 1)) rfl) ?_
  exact q_fa0
theorem exX6_nodes : ∃ t : Nat → qP, t = uX6_nodes := ⟨_, rfl⟩
noncomputable def tX6_nodes : Nat → qP := Classical.choose exX6_nodes
theorem teX6_nodes : tX6_nodes = uX6_nodes := Classical.choose_spec exX6_nodes
theorem sX6_nodes : q_Snd mX6_nodes tX6_nodes := by rw [teX6_nodes]; exact suX6_nodes
theorem tX6_nodes_0 : tX6_nodes 0 = oAl 0 1 := (congrFun teX6_nodes 0).trans rfl
theorem tX6_nodes_1 : tX6_nodes 1 = oGet 6 2 4 := (congrFun teX6_nodes 1).trans rfl
theorem tX6_nodes_4 : tX6_nodes 4 = oAret := (congrFun teX6_nodes 4).trans rfl
def lX6_fault : List (Nat × qP) := [(0, oAl 0 1), (1, oGet 6 5 4), (4, oIret)]
def uX6_fault : Nat → qP := q_tb lX6_fault
set_option maxRecDepth 20000 in
theorem suX6_fault : q_Snd mX6_fault uX6_fault := by
  refine q_tb_ok ?_
  unfold lX6_fault
  refine q_fa (ok_aload_n (by decide +kernel : decode cX6_fault 0 = .ok (.aload_n 0, 1)) rfl rfl) ?_
  refine q_fa (ok_get (by decide +kernel : decode cX6_fault 1 = .ok (.getfield 31, 3)) rfl (rfl : vwCl[6]? = some (RX6, TX6, 7)) inX6 (by decide) g62) ?_
  refine q_fa (ok_iret (by decide +kernel : decode cX6_fault 4 = .ok (.ireturn, 1)) rfl) ?_
  exact q_fa0
theorem exX6_fault : ∃ t : Nat → qP, t = uX6_fault := ⟨_, rfl⟩
noncomputable def tX6_fault : Nat → qP := Classical.choose exX6_fault
theorem teX6_fault : tX6_fault = uX6_fault := Classical.choose_spec exX6_fault
theorem sX6_fault : q_Snd mX6_fault tX6_fault := by rw [teX6_fault]; exact suX6_fault
theorem tX6_fault_0 : tX6_fault 0 = oAl 0 1 := (congrFun teX6_fault 0).trans rfl
theorem tX6_fault_1 : tX6_fault 1 = oGet 6 5 4 := (congrFun teX6_fault 1).trans rfl
theorem tX6_fault_4 : tX6_fault 4 = oIret := (congrFun teX6_fault 4).trans rfl
def lX6_take : List (Nat × qP) := [(0, oIl 1 1), (1, oIf1lt 15 4), (4, oIl 1 5), (5, oK (.int (nI 60)) 7), (7, oAl 0 8), (8, oGet 6 1 11), (11, oSub 12), (12, oIf2le 18 15), (15, oK (.int (-3)) 17), (17, oIret), (18, oIl 2 19), (19, oIs 3 20), (20, oK (.int (nI 0)) 21), (21, oIs 4 23), (23, oIl 4 25), (25, oIl 1 26), (26, oIf2ge 49 29), (29, oAl 0 30), (30, oIl 3 31), (31, oK (.int (nI 255)) 34), (34, oAnd 35), (35, oCallV 6 mX6_put 1 38), (38, oIl 3 39), (39, oK (.int (nI 8)) 41), (41, oUshr 42), (42, oIs 3 43), (43, oInc 4 (nI 1) 46), (46, oGo 23), (49, oAl 0 50), (50, oGet 6 1 53), (53, oIret)]
def uX6_take : Nat → qP := q_tb lX6_take
set_option maxRecDepth 20000 in
theorem suX6_take : q_Snd mX6_take uX6_take := by
  refine q_tb_ok ?_
  unfold lX6_take
  refine q_fa (ok_iload_n (by decide +kernel : decode cX6_take 0 = .ok (.iload_n 1, 1)) rfl rfl) ?_
  refine q_fa (ok_if1lt (by decide +kernel : decode cX6_take 1 = .ok (.ifCond .lt 14, 3)) (by decide) rfl) ?_
  refine q_fa (ok_iload_n (by decide +kernel : decode cX6_take 4 = .ok (.iload_n 1, 1)) rfl rfl) ?_
  refine q_fa (ok_bipush (by decide +kernel : decode cX6_take 5 = .ok (.bipush 60, 2)) rfl (by decide +kernel)) ?_
  refine q_fa (ok_aload_n (by decide +kernel : decode cX6_take 7 = .ok (.aload_n 0, 1)) rfl rfl) ?_
  refine q_fa (ok_get (by decide +kernel : decode cX6_take 8 = .ok (.getfield 27, 3)) rfl (rfl : vwCl[6]? = some (RX6, TX6, 7)) inX6 (by decide) g58) ?_
  refine q_fa (ok_isub (by decide +kernel : decode cX6_take 11 = .ok (.isub, 1)) rfl) ?_
  refine q_fa (ok_if2le (by decide +kernel : decode cX6_take 12 = .ok (.if_icmp .le 6, 3)) (by decide) rfl) ?_
  refine q_fa (ok_bipush (by decide +kernel : decode cX6_take 15 = .ok (.bipush (-3), 2)) rfl (by decide +kernel)) ?_
  refine q_fa (ok_iret (by decide +kernel : decode cX6_take 17 = .ok (.ireturn, 1)) rfl) ?_
  refine q_fa (ok_iload_n (by decide +kernel : decode cX6_take 18 = .ok (.iload_n 2, 1)) rfl rfl) ?_
  refine q_fa (ok_istore_n (by decide +kernel : decode cX6_take 19 = .ok (.istore_n 3, 1)) rfl rfl (by decide)) ?_
  refine q_fa (ok_iconst (by decide +kernel : decode cX6_take 20 = .ok (.iconst 0, 1)) rfl (by decide +kernel)) ?_
  refine q_fa (ok_istore (by decide +kernel : decode cX6_take 21 = .ok (.istore 4, 2)) rfl (by decide)) ?_
  refine q_fa (ok_iload (by decide +kernel : decode cX6_take 23 = .ok (.iload 4, 2)) rfl) ?_
  refine q_fa (ok_iload_n (by decide +kernel : decode cX6_take 25 = .ok (.iload_n 1, 1)) rfl rfl) ?_
  refine q_fa (ok_if2ge (by decide +kernel : decode cX6_take 26 = .ok (.if_icmp .ge 23, 3)) (by decide) rfl) ?_
  refine q_fa (ok_aload_n (by decide +kernel : decode cX6_take 29 = .ok (.aload_n 0, 1)) rfl rfl) ?_
  refine q_fa (ok_iload_n (by decide +kernel : decode cX6_take 30 = .ok (.iload_n 3, 1)) rfl rfl) ?_
  refine q_fa (ok_sipush (by decide +kernel : decode cX6_take 31 = .ok (.sipush 255, 3)) rfl (by decide +kernel)) ?_
  refine q_fa (ok_iand (by decide +kernel : decode cX6_take 34 = .ok (.iand, 1)) rfl) ?_
  refine q_fa (ok_callV (by decide +kernel : decode cX6_take 35 = .ok (.invokevirtual 34, 3)) rfl kX6_put.1 kX6_put.2.1 kX6_put.2.2.1 kX6_put.2.2.2.1 kX6_put.2.2.2.2 (rfl : vwCl[6]? = some (RX6, TX6, 7)) g222 gs0 g220) ?_
  refine q_fa (ok_iload_n (by decide +kernel : decode cX6_take 38 = .ok (.iload_n 3, 1)) rfl rfl) ?_
  refine q_fa (ok_bipush (by decide +kernel : decode cX6_take 39 = .ok (.bipush 8, 2)) rfl (by decide +kernel)) ?_
  refine q_fa (ok_iushr (by decide +kernel : decode cX6_take 41 = .ok (.iushr, 1)) rfl) ?_
  refine q_fa (ok_istore_n (by decide +kernel : decode cX6_take 42 = .ok (.istore_n 3, 1)) rfl rfl (by decide)) ?_
  refine q_fa (ok_iinc (by decide +kernel : decode cX6_take 43 = .ok (.iinc 4 1, 3)) rfl (by decide +kernel) (by decide)) ?_
  refine q_fa (ok_goto (by decide +kernel : decode cX6_take 46 = .ok (.goto (-23), 3)) (by decide)) ?_
  refine q_fa (ok_aload_n (by decide +kernel : decode cX6_take 49 = .ok (.aload_n 0, 1)) rfl rfl) ?_
  refine q_fa (ok_get (by decide +kernel : decode cX6_take 50 = .ok (.getfield 27, 3)) rfl (rfl : vwCl[6]? = some (RX6, TX6, 7)) inX6 (by decide) g58) ?_
  refine q_fa (ok_iret (by decide +kernel : decode cX6_take 53 = .ok (.ireturn, 1)) rfl) ?_
  exact q_fa0
theorem exX6_take : ∃ t : Nat → qP, t = uX6_take := ⟨_, rfl⟩
noncomputable def tX6_take : Nat → qP := Classical.choose exX6_take
theorem teX6_take : tX6_take = uX6_take := Classical.choose_spec exX6_take
theorem sX6_take : q_Snd mX6_take tX6_take := by rw [teX6_take]; exact suX6_take
theorem tX6_take_0 : tX6_take 0 = oIl 1 1 := (congrFun teX6_take 0).trans rfl
theorem tX6_take_1 : tX6_take 1 = oIf1lt 15 4 := (congrFun teX6_take 1).trans rfl
theorem tX6_take_4 : tX6_take 4 = oIl 1 5 := (congrFun teX6_take 4).trans rfl
theorem tX6_take_5 : tX6_take 5 = oK (.int (nI 60)) 7 := (congrFun teX6_take 5).trans rfl
theorem tX6_take_7 : tX6_take 7 = oAl 0 8 := (congrFun teX6_take 7).trans rfl
theorem tX6_take_8 : tX6_take 8 = oGet 6 1 11 := (congrFun teX6_take 8).trans rfl
theorem tX6_take_11 : tX6_take 11 = oSub 12 := (congrFun teX6_take 11).trans rfl
theorem tX6_take_12 : tX6_take 12 = oIf2le 18 15 := (congrFun teX6_take 12).trans rfl
theorem tX6_take_15 : tX6_take 15 = oK (.int (-3)) 17 := (congrFun teX6_take 15).trans rfl
theorem tX6_take_17 : tX6_take 17 = oIret := (congrFun teX6_take 17).trans rfl
theorem tX6_take_18 : tX6_take 18 = oIl 2 19 := (congrFun teX6_take 18).trans rfl
theorem tX6_take_19 : tX6_take 19 = oIs 3 20 := (congrFun teX6_take 19).trans rfl
theorem tX6_take_20 : tX6_take 20 = oK (.int (nI 0)) 21 := (congrFun teX6_take 20).trans rfl
theorem tX6_take_21 : tX6_take 21 = oIs 4 23 := (congrFun teX6_take 21).trans rfl
theorem tX6_take_23 : tX6_take 23 = oIl 4 25 := (congrFun teX6_take 23).trans rfl
theorem tX6_take_25 : tX6_take 25 = oIl 1 26 := (congrFun teX6_take 25).trans rfl
theorem tX6_take_26 : tX6_take 26 = oIf2ge 49 29 := (congrFun teX6_take 26).trans rfl
theorem tX6_take_29 : tX6_take 29 = oAl 0 30 := (congrFun teX6_take 29).trans rfl
theorem tX6_take_30 : tX6_take 30 = oIl 3 31 := (congrFun teX6_take 30).trans rfl
theorem tX6_take_31 : tX6_take 31 = oK (.int (nI 255)) 34 := (congrFun teX6_take 31).trans rfl
theorem tX6_take_34 : tX6_take 34 = oAnd 35 := (congrFun teX6_take 34).trans rfl
theorem tX6_take_35 : tX6_take 35 = oCallV 6 mX6_put 1 38 := (congrFun teX6_take 35).trans rfl
theorem tX6_take_38 : tX6_take 38 = oIl 3 39 := (congrFun teX6_take 38).trans rfl
theorem tX6_take_39 : tX6_take 39 = oK (.int (nI 8)) 41 := (congrFun teX6_take 39).trans rfl
theorem tX6_take_41 : tX6_take 41 = oUshr 42 := (congrFun teX6_take 41).trans rfl
theorem tX6_take_42 : tX6_take 42 = oIs 3 43 := (congrFun teX6_take 42).trans rfl
theorem tX6_take_43 : tX6_take 43 = oInc 4 (nI 1) 46 := (congrFun teX6_take 43).trans rfl
theorem tX6_take_46 : tX6_take 46 = oGo 23 := (congrFun teX6_take 46).trans rfl
theorem tX6_take_49 : tX6_take 49 = oAl 0 50 := (congrFun teX6_take 49).trans rfl
theorem tX6_take_50 : tX6_take 50 = oGet 6 1 53 := (congrFun teX6_take 50).trans rfl
theorem tX6_take_53 : tX6_take 53 = oIret := (congrFun teX6_take 53).trans rfl
def lX6_put : List (Nat × qP) := [(0, oAl 0 1), (1, oGet 6 1 4), (4, oAl 0 5), (5, oGet 6 0 8), (8, oAlen 9), (9, oIf2ge 32 12), (12, oAl 0 13), (13, oGet 6 0 16), (16, oAl 0 17), (17, oGet 6 1 20), (20, oIl 1 21), (21, oIast 22), (22, oAl 0 23), (23, oDup 24), (24, oGet 6 1 27), (27, oK (.int (nI 1)) 28), (28, oAdd 29), (29, oPutI 6 1 32), (32, oVret)]
def uX6_put : Nat → qP := q_tb lX6_put
set_option maxRecDepth 20000 in
theorem suX6_put : q_Snd mX6_put uX6_put := by
  refine q_tb_ok ?_
  unfold lX6_put
  refine q_fa (ok_aload_n (by decide +kernel : decode cX6_put 0 = .ok (.aload_n 0, 1)) rfl rfl) ?_
  refine q_fa (ok_get (by decide +kernel : decode cX6_put 1 = .ok (.getfield 27, 3)) rfl (rfl : vwCl[6]? = some (RX6, TX6, 7)) inX6 (by decide) g58) ?_
  refine q_fa (ok_aload_n (by decide +kernel : decode cX6_put 4 = .ok (.aload_n 0, 1)) rfl rfl) ?_
  refine q_fa (ok_get (by decide +kernel : decode cX6_put 5 = .ok (.getfield 9, 3)) rfl (rfl : vwCl[6]? = some (RX6, TX6, 7)) inX6 (by decide) g57) ?_
  refine q_fa (ok_alen (by decide +kernel : decode cX6_put 8 = .ok (.arraylength, 1)) rfl) ?_
  refine q_fa (ok_if2ge (by decide +kernel : decode cX6_put 9 = .ok (.if_icmp .ge 23, 3)) (by decide) rfl) ?_
  refine q_fa (ok_aload_n (by decide +kernel : decode cX6_put 12 = .ok (.aload_n 0, 1)) rfl rfl) ?_
  refine q_fa (ok_get (by decide +kernel : decode cX6_put 13 = .ok (.getfield 9, 3)) rfl (rfl : vwCl[6]? = some (RX6, TX6, 7)) inX6 (by decide) g57) ?_
  refine q_fa (ok_aload_n (by decide +kernel : decode cX6_put 16 = .ok (.aload_n 0, 1)) rfl rfl) ?_
  refine q_fa (ok_get (by decide +kernel : decode cX6_put 17 = .ok (.getfield 27, 3)) rfl (rfl : vwCl[6]? = some (RX6, TX6, 7)) inX6 (by decide) g58) ?_
  refine q_fa (ok_iload_n (by decide +kernel : decode cX6_put 20 = .ok (.iload_n 1, 1)) rfl rfl) ?_
  refine q_fa (ok_iastore (by decide +kernel : decode cX6_put 21 = .ok (.iastore, 1)) rfl) ?_
  refine q_fa (ok_aload_n (by decide +kernel : decode cX6_put 22 = .ok (.aload_n 0, 1)) rfl rfl) ?_
  refine q_fa (ok_dup (by decide +kernel : decode cX6_put 23 = .ok (.dup, 1)) rfl) ?_
  refine q_fa (ok_get (by decide +kernel : decode cX6_put 24 = .ok (.getfield 27, 3)) rfl (rfl : vwCl[6]? = some (RX6, TX6, 7)) inX6 (by decide) g58) ?_
  refine q_fa (ok_iconst (by decide +kernel : decode cX6_put 27 = .ok (.iconst 1, 1)) rfl (by decide +kernel)) ?_
  refine q_fa (ok_iadd (by decide +kernel : decode cX6_put 28 = .ok (.iadd, 1)) rfl) ?_
  refine q_fa (ok_putI tyX6 (by decide +kernel : decode cX6_put 29 = .ok (.putfield 27, 3)) rfl (rfl : vwCl[6]? = some (RX6, TX6, 7)) inX6 tyX6_ok nmX6 (by decide) g58 (Or.inl rfl) (by decide +kernel)) ?_
  refine q_fa (ok_vret (by decide +kernel : decode cX6_put 32 = .ok (.return_, 1)) rfl) ?_
  exact q_fa0
theorem exX6_put : ∃ t : Nat → qP, t = uX6_put := ⟨_, rfl⟩
noncomputable def tX6_put : Nat → qP := Classical.choose exX6_put
theorem teX6_put : tX6_put = uX6_put := Classical.choose_spec exX6_put
theorem sX6_put : q_Snd mX6_put tX6_put := by rw [teX6_put]; exact suX6_put
theorem tX6_put_0 : tX6_put 0 = oAl 0 1 := (congrFun teX6_put 0).trans rfl
theorem tX6_put_1 : tX6_put 1 = oGet 6 1 4 := (congrFun teX6_put 1).trans rfl
theorem tX6_put_4 : tX6_put 4 = oAl 0 5 := (congrFun teX6_put 4).trans rfl
theorem tX6_put_5 : tX6_put 5 = oGet 6 0 8 := (congrFun teX6_put 5).trans rfl
theorem tX6_put_8 : tX6_put 8 = oAlen 9 := (congrFun teX6_put 8).trans rfl
theorem tX6_put_9 : tX6_put 9 = oIf2ge 32 12 := (congrFun teX6_put 9).trans rfl
theorem tX6_put_12 : tX6_put 12 = oAl 0 13 := (congrFun teX6_put 12).trans rfl
theorem tX6_put_13 : tX6_put 13 = oGet 6 0 16 := (congrFun teX6_put 13).trans rfl
theorem tX6_put_16 : tX6_put 16 = oAl 0 17 := (congrFun teX6_put 16).trans rfl
theorem tX6_put_17 : tX6_put 17 = oGet 6 1 20 := (congrFun teX6_put 17).trans rfl
theorem tX6_put_20 : tX6_put 20 = oIl 1 21 := (congrFun teX6_put 20).trans rfl
theorem tX6_put_21 : tX6_put 21 = oIast 22 := (congrFun teX6_put 21).trans rfl
theorem tX6_put_22 : tX6_put 22 = oAl 0 23 := (congrFun teX6_put 22).trans rfl
theorem tX6_put_23 : tX6_put 23 = oDup 24 := (congrFun teX6_put 23).trans rfl
theorem tX6_put_24 : tX6_put 24 = oGet 6 1 27 := (congrFun teX6_put 24).trans rfl
theorem tX6_put_27 : tX6_put 27 = oK (.int (nI 1)) 28 := (congrFun teX6_put 27).trans rfl
theorem tX6_put_28 : tX6_put 28 = oAdd 29 := (congrFun teX6_put 28).trans rfl
theorem tX6_put_29 : tX6_put 29 = oPutI 6 1 32 := (congrFun teX6_put 29).trans rfl
theorem tX6_put_32 : tX6_put 32 = oVret := (congrFun teX6_put 32).trans rfl
def lX6_parse : List (Nat × qP) := [(0, oAl 0 1), (1, oGet 6 2 4), (4, oCallV 4 mX4_clear 0 7), (7, oAl 0 8), (8, oK (.int (nI 0)) 9), (9, oPutI 6 4 12), (12, oAl 0 13), (13, oK (.int (nI 0)) 14), (14, oPutI 6 5 17), (17, oAl 0 18), (18, oAl 0 19), (19, oGet 6 1 22), (22, oPutI 6 6 25), (25, oAl 0 26), (26, oK (.int (nI 0)) 27), (27, oPutI 6 1 30), (30, oAl 0 31), (31, oK (.int (nI 0)) 32), (32, oCallV 6 mX6_readChoice 1 35), (35, oIs 1 36), (36, oAl 0 37), (37, oGet 6 5 40), (40, oAl 0 41), (41, oGet 6 6 44), (44, oIf2ge 51 47), (47, oK (.int (-1)) 48), (48, oGo 52), (51, oIl 1 52), (52, oIret)]
def uX6_parse : Nat → qP := q_tb lX6_parse
set_option maxRecDepth 20000 in
theorem suX6_parse : q_Snd mX6_parse uX6_parse := by
  refine q_tb_ok ?_
  unfold lX6_parse
  refine q_fa (ok_aload_n (by decide +kernel : decode cX6_parse 0 = .ok (.aload_n 0, 1)) rfl rfl) ?_
  refine q_fa (ok_get (by decide +kernel : decode cX6_parse 1 = .ok (.getfield 20, 3)) rfl (rfl : vwCl[6]? = some (RX6, TX6, 7)) inX6 (by decide) g59) ?_
  refine q_fa (ok_callV (by decide +kernel : decode cX6_parse 4 = .ok (.invokevirtual 37, 3)) rfl kX4_clear.1 kX4_clear.2.1 kX4_clear.2.2.1 kX4_clear.2.2.2.1 kX4_clear.2.2.2.2 (rfl : vwCl[4]? = some (RX4, TX4, 4)) g237 g238 g236) ?_
  refine q_fa (ok_aload_n (by decide +kernel : decode cX6_parse 7 = .ok (.aload_n 0, 1)) rfl rfl) ?_
  refine q_fa (ok_iconst (by decide +kernel : decode cX6_parse 8 = .ok (.iconst 0, 1)) rfl (by decide +kernel)) ?_
  refine q_fa (ok_putI tyX6 (by decide +kernel : decode cX6_parse 9 = .ok (.putfield 40, 3)) rfl (rfl : vwCl[6]? = some (RX6, TX6, 7)) inX6 tyX6_ok nmX6 (by decide) g61 (Or.inl rfl) (by decide +kernel)) ?_
  refine q_fa (ok_aload_n (by decide +kernel : decode cX6_parse 12 = .ok (.aload_n 0, 1)) rfl rfl) ?_
  refine q_fa (ok_iconst (by decide +kernel : decode cX6_parse 13 = .ok (.iconst 0, 1)) rfl (by decide +kernel)) ?_
  refine q_fa (ok_putI tyX6 (by decide +kernel : decode cX6_parse 14 = .ok (.putfield 31, 3)) rfl (rfl : vwCl[6]? = some (RX6, TX6, 7)) inX6 tyX6_ok nmX6 (by decide) g62 (Or.inl rfl) (by decide +kernel)) ?_
  refine q_fa (ok_aload_n (by decide +kernel : decode cX6_parse 17 = .ok (.aload_n 0, 1)) rfl rfl) ?_
  refine q_fa (ok_aload_n (by decide +kernel : decode cX6_parse 18 = .ok (.aload_n 0, 1)) rfl rfl) ?_
  refine q_fa (ok_get (by decide +kernel : decode cX6_parse 19 = .ok (.getfield 27, 3)) rfl (rfl : vwCl[6]? = some (RX6, TX6, 7)) inX6 (by decide) g58) ?_
  refine q_fa (ok_putI tyX6 (by decide +kernel : decode cX6_parse 22 = .ok (.putfield 43, 3)) rfl (rfl : vwCl[6]? = some (RX6, TX6, 7)) inX6 tyX6_ok nmX6 (by decide) g63 (Or.inl rfl) (by decide +kernel)) ?_
  refine q_fa (ok_aload_n (by decide +kernel : decode cX6_parse 25 = .ok (.aload_n 0, 1)) rfl rfl) ?_
  refine q_fa (ok_iconst (by decide +kernel : decode cX6_parse 26 = .ok (.iconst 0, 1)) rfl (by decide +kernel)) ?_
  refine q_fa (ok_putI tyX6 (by decide +kernel : decode cX6_parse 27 = .ok (.putfield 27, 3)) rfl (rfl : vwCl[6]? = some (RX6, TX6, 7)) inX6 tyX6_ok nmX6 (by decide) g58 (Or.inl rfl) (by decide +kernel)) ?_
  refine q_fa (ok_aload_n (by decide +kernel : decode cX6_parse 30 = .ok (.aload_n 0, 1)) rfl rfl) ?_
  refine q_fa (ok_iconst (by decide +kernel : decode cX6_parse 31 = .ok (.iconst 0, 1)) rfl (by decide +kernel)) ?_
  refine q_fa (ok_callV (by decide +kernel : decode cX6_parse 32 = .ok (.invokevirtual 46, 3)) rfl kX6_readChoice.1 kX6_readChoice.2.1 kX6_readChoice.2.2.1 kX6_readChoice.2.2.2.1 kX6_readChoice.2.2.2.2 (rfl : vwCl[6]? = some (RX6, TX6, 7)) g242 gs2 g240) ?_
  refine q_fa (ok_istore_n (by decide +kernel : decode cX6_parse 35 = .ok (.istore_n 1, 1)) rfl rfl (by decide)) ?_
  refine q_fa (ok_aload_n (by decide +kernel : decode cX6_parse 36 = .ok (.aload_n 0, 1)) rfl rfl) ?_
  refine q_fa (ok_get (by decide +kernel : decode cX6_parse 37 = .ok (.getfield 31, 3)) rfl (rfl : vwCl[6]? = some (RX6, TX6, 7)) inX6 (by decide) g62) ?_
  refine q_fa (ok_aload_n (by decide +kernel : decode cX6_parse 40 = .ok (.aload_n 0, 1)) rfl rfl) ?_
  refine q_fa (ok_get (by decide +kernel : decode cX6_parse 41 = .ok (.getfield 43, 3)) rfl (rfl : vwCl[6]? = some (RX6, TX6, 7)) inX6 (by decide) g63) ?_
  refine q_fa (ok_if2ge (by decide +kernel : decode cX6_parse 44 = .ok (.if_icmp .ge 7, 3)) (by decide) rfl) ?_
  refine q_fa (ok_iconst (by decide +kernel : decode cX6_parse 47 = .ok (.iconst (-1), 1)) rfl (by decide +kernel)) ?_
  refine q_fa (ok_goto (by decide +kernel : decode cX6_parse 48 = .ok (.goto 4, 3)) (by decide)) ?_
  refine q_fa (ok_iload_n (by decide +kernel : decode cX6_parse 51 = .ok (.iload_n 1, 1)) rfl rfl) ?_
  refine q_fa (ok_iret (by decide +kernel : decode cX6_parse 52 = .ok (.ireturn, 1)) rfl) ?_
  exact q_fa0
theorem exX6_parse : ∃ t : Nat → qP, t = uX6_parse := ⟨_, rfl⟩
noncomputable def tX6_parse : Nat → qP := Classical.choose exX6_parse
theorem teX6_parse : tX6_parse = uX6_parse := Classical.choose_spec exX6_parse
theorem sX6_parse : q_Snd mX6_parse tX6_parse := by rw [teX6_parse]; exact suX6_parse
theorem tX6_parse_0 : tX6_parse 0 = oAl 0 1 := (congrFun teX6_parse 0).trans rfl
theorem tX6_parse_1 : tX6_parse 1 = oGet 6 2 4 := (congrFun teX6_parse 1).trans rfl
theorem tX6_parse_4 : tX6_parse 4 = oCallV 4 mX4_clear 0 7 := (congrFun teX6_parse 4).trans rfl
theorem tX6_parse_7 : tX6_parse 7 = oAl 0 8 := (congrFun teX6_parse 7).trans rfl
theorem tX6_parse_8 : tX6_parse 8 = oK (.int (nI 0)) 9 := (congrFun teX6_parse 8).trans rfl
theorem tX6_parse_9 : tX6_parse 9 = oPutI 6 4 12 := (congrFun teX6_parse 9).trans rfl
theorem tX6_parse_12 : tX6_parse 12 = oAl 0 13 := (congrFun teX6_parse 12).trans rfl
theorem tX6_parse_13 : tX6_parse 13 = oK (.int (nI 0)) 14 := (congrFun teX6_parse 13).trans rfl
theorem tX6_parse_14 : tX6_parse 14 = oPutI 6 5 17 := (congrFun teX6_parse 14).trans rfl
theorem tX6_parse_17 : tX6_parse 17 = oAl 0 18 := (congrFun teX6_parse 17).trans rfl
theorem tX6_parse_18 : tX6_parse 18 = oAl 0 19 := (congrFun teX6_parse 18).trans rfl
theorem tX6_parse_19 : tX6_parse 19 = oGet 6 1 22 := (congrFun teX6_parse 19).trans rfl
theorem tX6_parse_22 : tX6_parse 22 = oPutI 6 6 25 := (congrFun teX6_parse 22).trans rfl
theorem tX6_parse_25 : tX6_parse 25 = oAl 0 26 := (congrFun teX6_parse 25).trans rfl
theorem tX6_parse_26 : tX6_parse 26 = oK (.int (nI 0)) 27 := (congrFun teX6_parse 26).trans rfl
theorem tX6_parse_27 : tX6_parse 27 = oPutI 6 1 30 := (congrFun teX6_parse 27).trans rfl
theorem tX6_parse_30 : tX6_parse 30 = oAl 0 31 := (congrFun teX6_parse 30).trans rfl
theorem tX6_parse_31 : tX6_parse 31 = oK (.int (nI 0)) 32 := (congrFun teX6_parse 31).trans rfl
theorem tX6_parse_32 : tX6_parse 32 = oCallV 6 mX6_readChoice 1 35 := (congrFun teX6_parse 32).trans rfl
theorem tX6_parse_35 : tX6_parse 35 = oIs 1 36 := (congrFun teX6_parse 35).trans rfl
theorem tX6_parse_36 : tX6_parse 36 = oAl 0 37 := (congrFun teX6_parse 36).trans rfl
theorem tX6_parse_37 : tX6_parse 37 = oGet 6 5 40 := (congrFun teX6_parse 37).trans rfl
theorem tX6_parse_40 : tX6_parse 40 = oAl 0 41 := (congrFun teX6_parse 40).trans rfl
theorem tX6_parse_41 : tX6_parse 41 = oGet 6 6 44 := (congrFun teX6_parse 41).trans rfl
theorem tX6_parse_44 : tX6_parse 44 = oIf2ge 51 47 := (congrFun teX6_parse 44).trans rfl
theorem tX6_parse_47 : tX6_parse 47 = oK (.int (-1)) 48 := (congrFun teX6_parse 47).trans rfl
theorem tX6_parse_48 : tX6_parse 48 = oGo 52 := (congrFun teX6_parse 48).trans rfl
theorem tX6_parse_51 : tX6_parse 51 = oIl 1 52 := (congrFun teX6_parse 51).trans rfl
theorem tX6_parse_52 : tX6_parse 52 = oIret := (congrFun teX6_parse 52).trans rfl
def lX6_sign : List (Nat × qP) := [(0, oAl 0 1), (1, oGet 6 5 4), (4, oIf1lt 42 7), (7, oAl 0 8), (8, oGet 6 5 11), (11, oAl 0 12), (12, oGet 6 6 15), (15, oIf2ge 42 18), (18, oAl 0 19), (19, oGet 6 5 22), (22, oAl 0 23), (23, oGet 6 0 26), (26, oAlen 27), (27, oIf2ge 42 30), (30, oAl 0 31), (31, oGet 6 0 34), (34, oAl 0 35), (35, oGet 6 5 38), (38, oIald 39), (39, oGo 43), (42, oK (.int (-1)) 43), (43, oIret)]
def uX6_sign : Nat → qP := q_tb lX6_sign
set_option maxRecDepth 20000 in
theorem suX6_sign : q_Snd mX6_sign uX6_sign := by
  refine q_tb_ok ?_
  unfold lX6_sign
  refine q_fa (ok_aload_n (by decide +kernel : decode cX6_sign 0 = .ok (.aload_n 0, 1)) rfl rfl) ?_
  refine q_fa (ok_get (by decide +kernel : decode cX6_sign 1 = .ok (.getfield 31, 3)) rfl (rfl : vwCl[6]? = some (RX6, TX6, 7)) inX6 (by decide) g62) ?_
  refine q_fa (ok_if1lt (by decide +kernel : decode cX6_sign 4 = .ok (.ifCond .lt 38, 3)) (by decide) rfl) ?_
  refine q_fa (ok_aload_n (by decide +kernel : decode cX6_sign 7 = .ok (.aload_n 0, 1)) rfl rfl) ?_
  refine q_fa (ok_get (by decide +kernel : decode cX6_sign 8 = .ok (.getfield 31, 3)) rfl (rfl : vwCl[6]? = some (RX6, TX6, 7)) inX6 (by decide) g62) ?_
  refine q_fa (ok_aload_n (by decide +kernel : decode cX6_sign 11 = .ok (.aload_n 0, 1)) rfl rfl) ?_
  refine q_fa (ok_get (by decide +kernel : decode cX6_sign 12 = .ok (.getfield 43, 3)) rfl (rfl : vwCl[6]? = some (RX6, TX6, 7)) inX6 (by decide) g63) ?_
  refine q_fa (ok_if2ge (by decide +kernel : decode cX6_sign 15 = .ok (.if_icmp .ge 27, 3)) (by decide) rfl) ?_
  refine q_fa (ok_aload_n (by decide +kernel : decode cX6_sign 18 = .ok (.aload_n 0, 1)) rfl rfl) ?_
  refine q_fa (ok_get (by decide +kernel : decode cX6_sign 19 = .ok (.getfield 31, 3)) rfl (rfl : vwCl[6]? = some (RX6, TX6, 7)) inX6 (by decide) g62) ?_
  refine q_fa (ok_aload_n (by decide +kernel : decode cX6_sign 22 = .ok (.aload_n 0, 1)) rfl rfl) ?_
  refine q_fa (ok_get (by decide +kernel : decode cX6_sign 23 = .ok (.getfield 9, 3)) rfl (rfl : vwCl[6]? = some (RX6, TX6, 7)) inX6 (by decide) g57) ?_
  refine q_fa (ok_alen (by decide +kernel : decode cX6_sign 26 = .ok (.arraylength, 1)) rfl) ?_
  refine q_fa (ok_if2ge (by decide +kernel : decode cX6_sign 27 = .ok (.if_icmp .ge 15, 3)) (by decide) rfl) ?_
  refine q_fa (ok_aload_n (by decide +kernel : decode cX6_sign 30 = .ok (.aload_n 0, 1)) rfl rfl) ?_
  refine q_fa (ok_get (by decide +kernel : decode cX6_sign 31 = .ok (.getfield 9, 3)) rfl (rfl : vwCl[6]? = some (RX6, TX6, 7)) inX6 (by decide) g57) ?_
  refine q_fa (ok_aload_n (by decide +kernel : decode cX6_sign 34 = .ok (.aload_n 0, 1)) rfl rfl) ?_
  refine q_fa (ok_get (by decide +kernel : decode cX6_sign 35 = .ok (.getfield 31, 3)) rfl (rfl : vwCl[6]? = some (RX6, TX6, 7)) inX6 (by decide) g62) ?_
  refine q_fa (ok_iaload (by decide +kernel : decode cX6_sign 38 = .ok (.iaload, 1)) rfl) ?_
  refine q_fa (ok_goto (by decide +kernel : decode cX6_sign 39 = .ok (.goto 4, 3)) (by decide)) ?_
  refine q_fa (ok_iconst (by decide +kernel : decode cX6_sign 42 = .ok (.iconst (-1), 1)) rfl (by decide +kernel)) ?_
  refine q_fa (ok_iret (by decide +kernel : decode cX6_sign 43 = .ok (.ireturn, 1)) rfl) ?_
  exact q_fa0
theorem exX6_sign : ∃ t : Nat → qP, t = uX6_sign := ⟨_, rfl⟩
noncomputable def tX6_sign : Nat → qP := Classical.choose exX6_sign
theorem teX6_sign : tX6_sign = uX6_sign := Classical.choose_spec exX6_sign
theorem sX6_sign : q_Snd mX6_sign tX6_sign := by rw [teX6_sign]; exact suX6_sign
theorem tX6_sign_0 : tX6_sign 0 = oAl 0 1 := (congrFun teX6_sign 0).trans rfl
theorem tX6_sign_1 : tX6_sign 1 = oGet 6 5 4 := (congrFun teX6_sign 1).trans rfl
theorem tX6_sign_4 : tX6_sign 4 = oIf1lt 42 7 := (congrFun teX6_sign 4).trans rfl
theorem tX6_sign_7 : tX6_sign 7 = oAl 0 8 := (congrFun teX6_sign 7).trans rfl
theorem tX6_sign_8 : tX6_sign 8 = oGet 6 5 11 := (congrFun teX6_sign 8).trans rfl
theorem tX6_sign_11 : tX6_sign 11 = oAl 0 12 := (congrFun teX6_sign 11).trans rfl
theorem tX6_sign_12 : tX6_sign 12 = oGet 6 6 15 := (congrFun teX6_sign 12).trans rfl
theorem tX6_sign_15 : tX6_sign 15 = oIf2ge 42 18 := (congrFun teX6_sign 15).trans rfl
theorem tX6_sign_18 : tX6_sign 18 = oAl 0 19 := (congrFun teX6_sign 18).trans rfl
theorem tX6_sign_19 : tX6_sign 19 = oGet 6 5 22 := (congrFun teX6_sign 19).trans rfl
theorem tX6_sign_22 : tX6_sign 22 = oAl 0 23 := (congrFun teX6_sign 22).trans rfl
theorem tX6_sign_23 : tX6_sign 23 = oGet 6 0 26 := (congrFun teX6_sign 23).trans rfl
theorem tX6_sign_26 : tX6_sign 26 = oAlen 27 := (congrFun teX6_sign 26).trans rfl
theorem tX6_sign_27 : tX6_sign 27 = oIf2ge 42 30 := (congrFun teX6_sign 27).trans rfl
theorem tX6_sign_30 : tX6_sign 30 = oAl 0 31 := (congrFun teX6_sign 30).trans rfl
theorem tX6_sign_31 : tX6_sign 31 = oGet 6 0 34 := (congrFun teX6_sign 31).trans rfl
theorem tX6_sign_34 : tX6_sign 34 = oAl 0 35 := (congrFun teX6_sign 34).trans rfl
theorem tX6_sign_35 : tX6_sign 35 = oGet 6 5 38 := (congrFun teX6_sign 35).trans rfl
theorem tX6_sign_38 : tX6_sign 38 = oIald 39 := (congrFun teX6_sign 38).trans rfl
theorem tX6_sign_39 : tX6_sign 39 = oGo 43 := (congrFun teX6_sign 39).trans rfl
theorem tX6_sign_42 : tX6_sign 42 = oK (.int (-1)) 43 := (congrFun teX6_sign 42).trans rfl
theorem tX6_sign_43 : tX6_sign 43 = oIret := (congrFun teX6_sign 43).trans rfl
def lX6_push : List (Nat × qP) := [(0, oAl 0 1), (1, oGet 6 4 4), (4, oAl 0 5), (5, oGet 6 3 8), (8, oAlen 9), (9, oIf2ge 32 12), (12, oAl 0 13), (13, oGet 6 3 16), (16, oAl 0 17), (17, oGet 6 4 20), (20, oIl 1 21), (21, oIast 22), (22, oAl 0 23), (23, oDup 24), (24, oGet 6 4 27), (27, oK (.int (nI 1)) 28), (28, oAdd 29), (29, oPutI 6 4 32), (32, oVret)]
def uX6_push : Nat → qP := q_tb lX6_push
set_option maxRecDepth 20000 in
theorem suX6_push : q_Snd mX6_push uX6_push := by
  refine q_tb_ok ?_
  unfold lX6_push
  refine q_fa (ok_aload_n (by decide +kernel : decode cX6_push 0 = .ok (.aload_n 0, 1)) rfl rfl) ?_
  refine q_fa (ok_get (by decide +kernel : decode cX6_push 1 = .ok (.getfield 40, 3)) rfl (rfl : vwCl[6]? = some (RX6, TX6, 7)) inX6 (by decide) g61) ?_
  refine q_fa (ok_aload_n (by decide +kernel : decode cX6_push 4 = .ok (.aload_n 0, 1)) rfl rfl) ?_
  refine q_fa (ok_get (by decide +kernel : decode cX6_push 5 = .ok (.getfield 24, 3)) rfl (rfl : vwCl[6]? = some (RX6, TX6, 7)) inX6 (by decide) g60) ?_
  refine q_fa (ok_alen (by decide +kernel : decode cX6_push 8 = .ok (.arraylength, 1)) rfl) ?_
  refine q_fa (ok_if2ge (by decide +kernel : decode cX6_push 9 = .ok (.if_icmp .ge 23, 3)) (by decide) rfl) ?_
  refine q_fa (ok_aload_n (by decide +kernel : decode cX6_push 12 = .ok (.aload_n 0, 1)) rfl rfl) ?_
  refine q_fa (ok_get (by decide +kernel : decode cX6_push 13 = .ok (.getfield 24, 3)) rfl (rfl : vwCl[6]? = some (RX6, TX6, 7)) inX6 (by decide) g60) ?_
  refine q_fa (ok_aload_n (by decide +kernel : decode cX6_push 16 = .ok (.aload_n 0, 1)) rfl rfl) ?_
  refine q_fa (ok_get (by decide +kernel : decode cX6_push 17 = .ok (.getfield 40, 3)) rfl (rfl : vwCl[6]? = some (RX6, TX6, 7)) inX6 (by decide) g61) ?_
  refine q_fa (ok_iload_n (by decide +kernel : decode cX6_push 20 = .ok (.iload_n 1, 1)) rfl rfl) ?_
  refine q_fa (ok_iastore (by decide +kernel : decode cX6_push 21 = .ok (.iastore, 1)) rfl) ?_
  refine q_fa (ok_aload_n (by decide +kernel : decode cX6_push 22 = .ok (.aload_n 0, 1)) rfl rfl) ?_
  refine q_fa (ok_dup (by decide +kernel : decode cX6_push 23 = .ok (.dup, 1)) rfl) ?_
  refine q_fa (ok_get (by decide +kernel : decode cX6_push 24 = .ok (.getfield 40, 3)) rfl (rfl : vwCl[6]? = some (RX6, TX6, 7)) inX6 (by decide) g61) ?_
  refine q_fa (ok_iconst (by decide +kernel : decode cX6_push 27 = .ok (.iconst 1, 1)) rfl (by decide +kernel)) ?_
  refine q_fa (ok_iadd (by decide +kernel : decode cX6_push 28 = .ok (.iadd, 1)) rfl) ?_
  refine q_fa (ok_putI tyX6 (by decide +kernel : decode cX6_push 29 = .ok (.putfield 40, 3)) rfl (rfl : vwCl[6]? = some (RX6, TX6, 7)) inX6 tyX6_ok nmX6 (by decide) g61 (Or.inl rfl) (by decide +kernel)) ?_
  refine q_fa (ok_vret (by decide +kernel : decode cX6_push 32 = .ok (.return_, 1)) rfl) ?_
  exact q_fa0
theorem exX6_push : ∃ t : Nat → qP, t = uX6_push := ⟨_, rfl⟩
noncomputable def tX6_push : Nat → qP := Classical.choose exX6_push
theorem teX6_push : tX6_push = uX6_push := Classical.choose_spec exX6_push
theorem sX6_push : q_Snd mX6_push tX6_push := by rw [teX6_push]; exact suX6_push
theorem tX6_push_0 : tX6_push 0 = oAl 0 1 := (congrFun teX6_push 0).trans rfl
theorem tX6_push_1 : tX6_push 1 = oGet 6 4 4 := (congrFun teX6_push 1).trans rfl
theorem tX6_push_4 : tX6_push 4 = oAl 0 5 := (congrFun teX6_push 4).trans rfl
theorem tX6_push_5 : tX6_push 5 = oGet 6 3 8 := (congrFun teX6_push 5).trans rfl
theorem tX6_push_8 : tX6_push 8 = oAlen 9 := (congrFun teX6_push 8).trans rfl
theorem tX6_push_9 : tX6_push 9 = oIf2ge 32 12 := (congrFun teX6_push 9).trans rfl
theorem tX6_push_12 : tX6_push 12 = oAl 0 13 := (congrFun teX6_push 12).trans rfl
theorem tX6_push_13 : tX6_push 13 = oGet 6 3 16 := (congrFun teX6_push 13).trans rfl
theorem tX6_push_16 : tX6_push 16 = oAl 0 17 := (congrFun teX6_push 16).trans rfl
theorem tX6_push_17 : tX6_push 17 = oGet 6 4 20 := (congrFun teX6_push 17).trans rfl
theorem tX6_push_20 : tX6_push 20 = oIl 1 21 := (congrFun teX6_push 20).trans rfl
theorem tX6_push_21 : tX6_push 21 = oIast 22 := (congrFun teX6_push 21).trans rfl
theorem tX6_push_22 : tX6_push 22 = oAl 0 23 := (congrFun teX6_push 22).trans rfl
theorem tX6_push_23 : tX6_push 23 = oDup 24 := (congrFun teX6_push 23).trans rfl
theorem tX6_push_24 : tX6_push 24 = oGet 6 4 27 := (congrFun teX6_push 24).trans rfl
theorem tX6_push_27 : tX6_push 27 = oK (.int (nI 1)) 28 := (congrFun teX6_push 27).trans rfl
theorem tX6_push_28 : tX6_push 28 = oAdd 29 := (congrFun teX6_push 28).trans rfl
theorem tX6_push_29 : tX6_push 29 = oPutI 6 4 32 := (congrFun teX6_push 29).trans rfl
theorem tX6_push_32 : tX6_push 32 = oVret := (congrFun teX6_push 32).trans rfl
def lX6_pop : List (Nat × qP) := [(0, oAl 0 1), (1, oGet 6 4 4), (4, oIf1gt 9 7), (7, oK (.int (-1)) 8), (8, oIret), (9, oAl 0 10), (10, oDup 11), (11, oGet 6 4 14), (14, oK (.int (nI 1)) 15), (15, oSub 16), (16, oPutI 6 4 19), (19, oAl 0 20), (20, oGet 6 3 23), (23, oAl 0 24), (24, oGet 6 4 27), (27, oIald 28), (28, oIret)]
def uX6_pop : Nat → qP := q_tb lX6_pop
set_option maxRecDepth 20000 in
theorem suX6_pop : q_Snd mX6_pop uX6_pop := by
  refine q_tb_ok ?_
  unfold lX6_pop
  refine q_fa (ok_aload_n (by decide +kernel : decode cX6_pop 0 = .ok (.aload_n 0, 1)) rfl rfl) ?_
  refine q_fa (ok_get (by decide +kernel : decode cX6_pop 1 = .ok (.getfield 40, 3)) rfl (rfl : vwCl[6]? = some (RX6, TX6, 7)) inX6 (by decide) g61) ?_
  refine q_fa (ok_if1gt (by decide +kernel : decode cX6_pop 4 = .ok (.ifCond .gt 5, 3)) (by decide) rfl) ?_
  refine q_fa (ok_iconst (by decide +kernel : decode cX6_pop 7 = .ok (.iconst (-1), 1)) rfl (by decide +kernel)) ?_
  refine q_fa (ok_iret (by decide +kernel : decode cX6_pop 8 = .ok (.ireturn, 1)) rfl) ?_
  refine q_fa (ok_aload_n (by decide +kernel : decode cX6_pop 9 = .ok (.aload_n 0, 1)) rfl rfl) ?_
  refine q_fa (ok_dup (by decide +kernel : decode cX6_pop 10 = .ok (.dup, 1)) rfl) ?_
  refine q_fa (ok_get (by decide +kernel : decode cX6_pop 11 = .ok (.getfield 40, 3)) rfl (rfl : vwCl[6]? = some (RX6, TX6, 7)) inX6 (by decide) g61) ?_
  refine q_fa (ok_iconst (by decide +kernel : decode cX6_pop 14 = .ok (.iconst 1, 1)) rfl (by decide +kernel)) ?_
  refine q_fa (ok_isub (by decide +kernel : decode cX6_pop 15 = .ok (.isub, 1)) rfl) ?_
  refine q_fa (ok_putI tyX6 (by decide +kernel : decode cX6_pop 16 = .ok (.putfield 40, 3)) rfl (rfl : vwCl[6]? = some (RX6, TX6, 7)) inX6 tyX6_ok nmX6 (by decide) g61 (Or.inl rfl) (by decide +kernel)) ?_
  refine q_fa (ok_aload_n (by decide +kernel : decode cX6_pop 19 = .ok (.aload_n 0, 1)) rfl rfl) ?_
  refine q_fa (ok_get (by decide +kernel : decode cX6_pop 20 = .ok (.getfield 24, 3)) rfl (rfl : vwCl[6]? = some (RX6, TX6, 7)) inX6 (by decide) g60) ?_
  refine q_fa (ok_aload_n (by decide +kernel : decode cX6_pop 23 = .ok (.aload_n 0, 1)) rfl rfl) ?_
  refine q_fa (ok_get (by decide +kernel : decode cX6_pop 24 = .ok (.getfield 40, 3)) rfl (rfl : vwCl[6]? = some (RX6, TX6, 7)) inX6 (by decide) g61) ?_
  refine q_fa (ok_iaload (by decide +kernel : decode cX6_pop 27 = .ok (.iaload, 1)) rfl) ?_
  refine q_fa (ok_iret (by decide +kernel : decode cX6_pop 28 = .ok (.ireturn, 1)) rfl) ?_
  exact q_fa0
theorem exX6_pop : ∃ t : Nat → qP, t = uX6_pop := ⟨_, rfl⟩
noncomputable def tX6_pop : Nat → qP := Classical.choose exX6_pop
theorem teX6_pop : tX6_pop = uX6_pop := Classical.choose_spec exX6_pop
theorem sX6_pop : q_Snd mX6_pop tX6_pop := by rw [teX6_pop]; exact suX6_pop
theorem tX6_pop_0 : tX6_pop 0 = oAl 0 1 := (congrFun teX6_pop 0).trans rfl
theorem tX6_pop_1 : tX6_pop 1 = oGet 6 4 4 := (congrFun teX6_pop 1).trans rfl
theorem tX6_pop_4 : tX6_pop 4 = oIf1gt 9 7 := (congrFun teX6_pop 4).trans rfl
theorem tX6_pop_7 : tX6_pop 7 = oK (.int (-1)) 8 := (congrFun teX6_pop 7).trans rfl
theorem tX6_pop_8 : tX6_pop 8 = oIret := (congrFun teX6_pop 8).trans rfl
theorem tX6_pop_9 : tX6_pop 9 = oAl 0 10 := (congrFun teX6_pop 9).trans rfl
theorem tX6_pop_10 : tX6_pop 10 = oDup 11 := (congrFun teX6_pop 10).trans rfl
theorem tX6_pop_11 : tX6_pop 11 = oGet 6 4 14 := (congrFun teX6_pop 11).trans rfl
theorem tX6_pop_14 : tX6_pop 14 = oK (.int (nI 1)) 15 := (congrFun teX6_pop 14).trans rfl
theorem tX6_pop_15 : tX6_pop 15 = oSub 16 := (congrFun teX6_pop 15).trans rfl
theorem tX6_pop_16 : tX6_pop 16 = oPutI 6 4 19 := (congrFun teX6_pop 16).trans rfl
theorem tX6_pop_19 : tX6_pop 19 = oAl 0 20 := (congrFun teX6_pop 19).trans rfl
theorem tX6_pop_20 : tX6_pop 20 = oGet 6 3 23 := (congrFun teX6_pop 20).trans rfl
theorem tX6_pop_23 : tX6_pop 23 = oAl 0 24 := (congrFun teX6_pop 23).trans rfl
theorem tX6_pop_24 : tX6_pop 24 = oGet 6 4 27 := (congrFun teX6_pop 24).trans rfl
theorem tX6_pop_27 : tX6_pop 27 = oIald 28 := (congrFun teX6_pop 27).trans rfl
theorem tX6_pop_28 : tX6_pop 28 = oIret := (congrFun teX6_pop 28).trans rfl
def lX6_readChoice : List (Nat × qP) := [(0, oAl 0 1), (1, oGet 6 4 4), (4, oIs 2 5), (5, oAl 0 6), (6, oIl 1 7), (7, oCallV 6 mX6_readChain 1 10), (10, oIs 3 11), (11, oK (.int (nI 0)) 12), (12, oIs 4 14), (14, oIl 4 16), (16, oK (.int (nI 60)) 18), (18, oIf2ge 61 21), (21, oIl 3 22), (22, oIf1lt 61 25), (25, oAl 0 26), (26, oCallV 6 mX6_sign 0 29), (29, oK (.int (nI 124)) 31), (31, oIf2ne 61 34), (34, oAl 0 35), (35, oIl 3 36), (36, oCallV 6 mX6_push 1 39), (39, oAl 0 40), (40, oDup 41), (41, oGet 6 5 44), (44, oK (.int (nI 1)) 45), (45, oAdd 46), (46, oPutI 6 5 49), (49, oAl 0 50), (50, oIl 1 51), (51, oCallV 6 mX6_readChain 1 54), (54, oIs 3 55), (55, oInc 4 (nI 1) 58), (58, oGo 14), (61, oAl 0 62), (62, oGet 6 4 65), (65, oIs 4 67), (67, oIl 4 69), (69, oIl 2 70), (70, oIf2le 97 73), (73, oIl 3 74), (74, oIf1lt 97 77), (77, oAl 0 78), (78, oGet 6 2 81), (81, oK (.int (nI 3)) 82), (82, oAl 0 83), (83, oCallV 6 mX6_pop 0 86), (86, oIl 3 87), (87, oCallV 4 mX4_add 3 90), (90, oIs 3 91), (91, oInc 4 (-1) 94), (94, oGo 67), (97, oIl 3 98), (98, oIret)]
def uX6_readChoice : Nat → qP := q_tb lX6_readChoice
set_option maxRecDepth 20000 in
theorem suX6_readChoice : q_Snd mX6_readChoice uX6_readChoice := by
  refine q_tb_ok ?_
  unfold lX6_readChoice
  refine q_fa (ok_aload_n (by decide +kernel : decode cX6_readChoice 0 = .ok (.aload_n 0, 1)) rfl rfl) ?_
  refine q_fa (ok_get (by decide +kernel : decode cX6_readChoice 1 = .ok (.getfield 40, 3)) rfl (rfl : vwCl[6]? = some (RX6, TX6, 7)) inX6 (by decide) g61) ?_
  refine q_fa (ok_istore_n (by decide +kernel : decode cX6_readChoice 4 = .ok (.istore_n 2, 1)) rfl rfl (by decide)) ?_
  refine q_fa (ok_aload_n (by decide +kernel : decode cX6_readChoice 5 = .ok (.aload_n 0, 1)) rfl rfl) ?_
  refine q_fa (ok_iload_n (by decide +kernel : decode cX6_readChoice 6 = .ok (.iload_n 1, 1)) rfl rfl) ?_
  refine q_fa (ok_callV (by decide +kernel : decode cX6_readChoice 7 = .ok (.invokevirtual 50, 3)) rfl kX6_readChain.1 kX6_readChain.2.1 kX6_readChain.2.2.1 kX6_readChain.2.2.2.1 kX6_readChain.2.2.2.2 (rfl : vwCl[6]? = some (RX6, TX6, 7)) g246 gs3 g244) ?_
  refine q_fa (ok_istore_n (by decide +kernel : decode cX6_readChoice 10 = .ok (.istore_n 3, 1)) rfl rfl (by decide)) ?_
  refine q_fa (ok_iconst (by decide +kernel : decode cX6_readChoice 11 = .ok (.iconst 0, 1)) rfl (by decide +kernel)) ?_
  refine q_fa (ok_istore (by decide +kernel : decode cX6_readChoice 12 = .ok (.istore 4, 2)) rfl (by decide)) ?_
  refine q_fa (ok_iload (by decide +kernel : decode cX6_readChoice 14 = .ok (.iload 4, 2)) rfl) ?_
  refine q_fa (ok_bipush (by decide +kernel : decode cX6_readChoice 16 = .ok (.bipush 60, 2)) rfl (by decide +kernel)) ?_
  refine q_fa (ok_if2ge (by decide +kernel : decode cX6_readChoice 18 = .ok (.if_icmp .ge 43, 3)) (by decide) rfl) ?_
  refine q_fa (ok_iload_n (by decide +kernel : decode cX6_readChoice 21 = .ok (.iload_n 3, 1)) rfl rfl) ?_
  refine q_fa (ok_if1lt (by decide +kernel : decode cX6_readChoice 22 = .ok (.ifCond .lt 39, 3)) (by decide) rfl) ?_
  refine q_fa (ok_aload_n (by decide +kernel : decode cX6_readChoice 25 = .ok (.aload_n 0, 1)) rfl rfl) ?_
  refine q_fa (ok_callV (by decide +kernel : decode cX6_readChoice 26 = .ok (.invokevirtual 53, 3)) rfl kX6_sign.1 kX6_sign.2.1 kX6_sign.2.2.1 kX6_sign.2.2.2.1 kX6_sign.2.2.2.2 (rfl : vwCl[6]? = some (RX6, TX6, 7)) g258 gs6 g256) ?_
  refine q_fa (ok_bipush (by decide +kernel : decode cX6_readChoice 29 = .ok (.bipush 124, 2)) rfl (by decide +kernel)) ?_
  refine q_fa (ok_if2ne (by decide +kernel : decode cX6_readChoice 31 = .ok (.if_icmp .ne 30, 3)) (by decide) rfl) ?_
  refine q_fa (ok_aload_n (by decide +kernel : decode cX6_readChoice 34 = .ok (.aload_n 0, 1)) rfl rfl) ?_
  refine q_fa (ok_iload_n (by decide +kernel : decode cX6_readChoice 35 = .ok (.iload_n 3, 1)) rfl rfl) ?_
  refine q_fa (ok_callV (by decide +kernel : decode cX6_readChoice 36 = .ok (.invokevirtual 57, 3)) rfl kX6_push.1 kX6_push.2.1 kX6_push.2.2.1 kX6_push.2.2.2.1 kX6_push.2.2.2.2 (rfl : vwCl[6]? = some (RX6, TX6, 7)) g276 gs8 g274) ?_
  refine q_fa (ok_aload_n (by decide +kernel : decode cX6_readChoice 39 = .ok (.aload_n 0, 1)) rfl rfl) ?_
  refine q_fa (ok_dup (by decide +kernel : decode cX6_readChoice 40 = .ok (.dup, 1)) rfl) ?_
  refine q_fa (ok_get (by decide +kernel : decode cX6_readChoice 41 = .ok (.getfield 31, 3)) rfl (rfl : vwCl[6]? = some (RX6, TX6, 7)) inX6 (by decide) g62) ?_
  refine q_fa (ok_iconst (by decide +kernel : decode cX6_readChoice 44 = .ok (.iconst 1, 1)) rfl (by decide +kernel)) ?_
  refine q_fa (ok_iadd (by decide +kernel : decode cX6_readChoice 45 = .ok (.iadd, 1)) rfl) ?_
  refine q_fa (ok_putI tyX6 (by decide +kernel : decode cX6_readChoice 46 = .ok (.putfield 31, 3)) rfl (rfl : vwCl[6]? = some (RX6, TX6, 7)) inX6 tyX6_ok nmX6 (by decide) g62 (Or.inl rfl) (by decide +kernel)) ?_
  refine q_fa (ok_aload_n (by decide +kernel : decode cX6_readChoice 49 = .ok (.aload_n 0, 1)) rfl rfl) ?_
  refine q_fa (ok_iload_n (by decide +kernel : decode cX6_readChoice 50 = .ok (.iload_n 1, 1)) rfl rfl) ?_
  refine q_fa (ok_callV (by decide +kernel : decode cX6_readChoice 51 = .ok (.invokevirtual 50, 3)) rfl kX6_readChain.1 kX6_readChain.2.1 kX6_readChain.2.2.1 kX6_readChain.2.2.2.1 kX6_readChain.2.2.2.2 (rfl : vwCl[6]? = some (RX6, TX6, 7)) g246 gs3 g244) ?_
  refine q_fa (ok_istore_n (by decide +kernel : decode cX6_readChoice 54 = .ok (.istore_n 3, 1)) rfl rfl (by decide)) ?_
  refine q_fa (ok_iinc (by decide +kernel : decode cX6_readChoice 55 = .ok (.iinc 4 1, 3)) rfl (by decide +kernel) (by decide)) ?_
  refine q_fa (ok_goto (by decide +kernel : decode cX6_readChoice 58 = .ok (.goto (-44), 3)) (by decide)) ?_
  refine q_fa (ok_aload_n (by decide +kernel : decode cX6_readChoice 61 = .ok (.aload_n 0, 1)) rfl rfl) ?_
  refine q_fa (ok_get (by decide +kernel : decode cX6_readChoice 62 = .ok (.getfield 40, 3)) rfl (rfl : vwCl[6]? = some (RX6, TX6, 7)) inX6 (by decide) g61) ?_
  refine q_fa (ok_istore (by decide +kernel : decode cX6_readChoice 65 = .ok (.istore 4, 2)) rfl (by decide)) ?_
  refine q_fa (ok_iload (by decide +kernel : decode cX6_readChoice 67 = .ok (.iload 4, 2)) rfl) ?_
  refine q_fa (ok_iload_n (by decide +kernel : decode cX6_readChoice 69 = .ok (.iload_n 2, 1)) rfl rfl) ?_
  refine q_fa (ok_if2le (by decide +kernel : decode cX6_readChoice 70 = .ok (.if_icmp .le 27, 3)) (by decide) rfl) ?_
  refine q_fa (ok_iload_n (by decide +kernel : decode cX6_readChoice 73 = .ok (.iload_n 3, 1)) rfl rfl) ?_
  refine q_fa (ok_if1lt (by decide +kernel : decode cX6_readChoice 74 = .ok (.ifCond .lt 23, 3)) (by decide) rfl) ?_
  refine q_fa (ok_aload_n (by decide +kernel : decode cX6_readChoice 77 = .ok (.aload_n 0, 1)) rfl rfl) ?_
  refine q_fa (ok_get (by decide +kernel : decode cX6_readChoice 78 = .ok (.getfield 20, 3)) rfl (rfl : vwCl[6]? = some (RX6, TX6, 7)) inX6 (by decide) g59) ?_
  refine q_fa (ok_iconst (by decide +kernel : decode cX6_readChoice 81 = .ok (.iconst 3, 1)) rfl (by decide +kernel)) ?_
  refine q_fa (ok_aload_n (by decide +kernel : decode cX6_readChoice 82 = .ok (.aload_n 0, 1)) rfl rfl) ?_
  refine q_fa (ok_callV (by decide +kernel : decode cX6_readChoice 83 = .ok (.invokevirtual 60, 3)) rfl kX6_pop.1 kX6_pop.2.1 kX6_pop.2.2.1 kX6_pop.2.2.2.1 kX6_pop.2.2.2.2 (rfl : vwCl[6]? = some (RX6, TX6, 7)) g280 gs9 g278) ?_
  refine q_fa (ok_iload_n (by decide +kernel : decode cX6_readChoice 86 = .ok (.iload_n 3, 1)) rfl rfl) ?_
  refine q_fa (ok_callV (by decide +kernel : decode cX6_readChoice 87 = .ok (.invokevirtual 63, 3)) rfl kX4_add.1 kX4_add.2.1 kX4_add.2.2.1 kX4_add.2.2.2.1 kX4_add.2.2.2.2 (rfl : vwCl[4]? = some (RX4, TX4, 4)) g264 g265 g263) ?_
  refine q_fa (ok_istore_n (by decide +kernel : decode cX6_readChoice 90 = .ok (.istore_n 3, 1)) rfl rfl (by decide)) ?_
  refine q_fa (ok_iinc (by decide +kernel : decode cX6_readChoice 91 = .ok (.iinc 4 (-1), 3)) rfl (by decide +kernel) (by decide)) ?_
  refine q_fa (ok_goto (by decide +kernel : decode cX6_readChoice 94 = .ok (.goto (-27), 3)) (by decide)) ?_
  refine q_fa (ok_iload_n (by decide +kernel : decode cX6_readChoice 97 = .ok (.iload_n 3, 1)) rfl rfl) ?_
  refine q_fa (ok_iret (by decide +kernel : decode cX6_readChoice 98 = .ok (.ireturn, 1)) rfl) ?_
  exact q_fa0
theorem exX6_readChoice : ∃ t : Nat → qP, t = uX6_readChoice := ⟨_, rfl⟩
noncomputable def tX6_readChoice : Nat → qP := Classical.choose exX6_readChoice
theorem teX6_readChoice : tX6_readChoice = uX6_readChoice := Classical.choose_spec exX6_readChoice
theorem sX6_readChoice : q_Snd mX6_readChoice tX6_readChoice := by rw [teX6_readChoice]; exact suX6_readChoice
theorem tX6_readChoice_0 : tX6_readChoice 0 = oAl 0 1 := (congrFun teX6_readChoice 0).trans rfl
theorem tX6_readChoice_1 : tX6_readChoice 1 = oGet 6 4 4 := (congrFun teX6_readChoice 1).trans rfl
theorem tX6_readChoice_4 : tX6_readChoice 4 = oIs 2 5 := (congrFun teX6_readChoice 4).trans rfl
theorem tX6_readChoice_5 : tX6_readChoice 5 = oAl 0 6 := (congrFun teX6_readChoice 5).trans rfl
theorem tX6_readChoice_6 : tX6_readChoice 6 = oIl 1 7 := (congrFun teX6_readChoice 6).trans rfl
theorem tX6_readChoice_7 : tX6_readChoice 7 = oCallV 6 mX6_readChain 1 10 := (congrFun teX6_readChoice 7).trans rfl
theorem tX6_readChoice_10 : tX6_readChoice 10 = oIs 3 11 := (congrFun teX6_readChoice 10).trans rfl
theorem tX6_readChoice_11 : tX6_readChoice 11 = oK (.int (nI 0)) 12 := (congrFun teX6_readChoice 11).trans rfl
theorem tX6_readChoice_12 : tX6_readChoice 12 = oIs 4 14 := (congrFun teX6_readChoice 12).trans rfl
theorem tX6_readChoice_14 : tX6_readChoice 14 = oIl 4 16 := (congrFun teX6_readChoice 14).trans rfl
theorem tX6_readChoice_16 : tX6_readChoice 16 = oK (.int (nI 60)) 18 := (congrFun teX6_readChoice 16).trans rfl
theorem tX6_readChoice_18 : tX6_readChoice 18 = oIf2ge 61 21 := (congrFun teX6_readChoice 18).trans rfl
theorem tX6_readChoice_21 : tX6_readChoice 21 = oIl 3 22 := (congrFun teX6_readChoice 21).trans rfl
theorem tX6_readChoice_22 : tX6_readChoice 22 = oIf1lt 61 25 := (congrFun teX6_readChoice 22).trans rfl
theorem tX6_readChoice_25 : tX6_readChoice 25 = oAl 0 26 := (congrFun teX6_readChoice 25).trans rfl
theorem tX6_readChoice_26 : tX6_readChoice 26 = oCallV 6 mX6_sign 0 29 := (congrFun teX6_readChoice 26).trans rfl
theorem tX6_readChoice_29 : tX6_readChoice 29 = oK (.int (nI 124)) 31 := (congrFun teX6_readChoice 29).trans rfl
theorem tX6_readChoice_31 : tX6_readChoice 31 = oIf2ne 61 34 := (congrFun teX6_readChoice 31).trans rfl
theorem tX6_readChoice_34 : tX6_readChoice 34 = oAl 0 35 := (congrFun teX6_readChoice 34).trans rfl
theorem tX6_readChoice_35 : tX6_readChoice 35 = oIl 3 36 := (congrFun teX6_readChoice 35).trans rfl
theorem tX6_readChoice_36 : tX6_readChoice 36 = oCallV 6 mX6_push 1 39 := (congrFun teX6_readChoice 36).trans rfl
theorem tX6_readChoice_39 : tX6_readChoice 39 = oAl 0 40 := (congrFun teX6_readChoice 39).trans rfl
theorem tX6_readChoice_40 : tX6_readChoice 40 = oDup 41 := (congrFun teX6_readChoice 40).trans rfl
theorem tX6_readChoice_41 : tX6_readChoice 41 = oGet 6 5 44 := (congrFun teX6_readChoice 41).trans rfl
theorem tX6_readChoice_44 : tX6_readChoice 44 = oK (.int (nI 1)) 45 := (congrFun teX6_readChoice 44).trans rfl
theorem tX6_readChoice_45 : tX6_readChoice 45 = oAdd 46 := (congrFun teX6_readChoice 45).trans rfl
theorem tX6_readChoice_46 : tX6_readChoice 46 = oPutI 6 5 49 := (congrFun teX6_readChoice 46).trans rfl
theorem tX6_readChoice_49 : tX6_readChoice 49 = oAl 0 50 := (congrFun teX6_readChoice 49).trans rfl
theorem tX6_readChoice_50 : tX6_readChoice 50 = oIl 1 51 := (congrFun teX6_readChoice 50).trans rfl
theorem tX6_readChoice_51 : tX6_readChoice 51 = oCallV 6 mX6_readChain 1 54 := (congrFun teX6_readChoice 51).trans rfl
theorem tX6_readChoice_54 : tX6_readChoice 54 = oIs 3 55 := (congrFun teX6_readChoice 54).trans rfl
theorem tX6_readChoice_55 : tX6_readChoice 55 = oInc 4 (nI 1) 58 := (congrFun teX6_readChoice 55).trans rfl
theorem tX6_readChoice_58 : tX6_readChoice 58 = oGo 14 := (congrFun teX6_readChoice 58).trans rfl
theorem tX6_readChoice_61 : tX6_readChoice 61 = oAl 0 62 := (congrFun teX6_readChoice 61).trans rfl
theorem tX6_readChoice_62 : tX6_readChoice 62 = oGet 6 4 65 := (congrFun teX6_readChoice 62).trans rfl
theorem tX6_readChoice_65 : tX6_readChoice 65 = oIs 4 67 := (congrFun teX6_readChoice 65).trans rfl
theorem tX6_readChoice_67 : tX6_readChoice 67 = oIl 4 69 := (congrFun teX6_readChoice 67).trans rfl
theorem tX6_readChoice_69 : tX6_readChoice 69 = oIl 2 70 := (congrFun teX6_readChoice 69).trans rfl
theorem tX6_readChoice_70 : tX6_readChoice 70 = oIf2le 97 73 := (congrFun teX6_readChoice 70).trans rfl
theorem tX6_readChoice_73 : tX6_readChoice 73 = oIl 3 74 := (congrFun teX6_readChoice 73).trans rfl
theorem tX6_readChoice_74 : tX6_readChoice 74 = oIf1lt 97 77 := (congrFun teX6_readChoice 74).trans rfl
theorem tX6_readChoice_77 : tX6_readChoice 77 = oAl 0 78 := (congrFun teX6_readChoice 77).trans rfl
theorem tX6_readChoice_78 : tX6_readChoice 78 = oGet 6 2 81 := (congrFun teX6_readChoice 78).trans rfl
theorem tX6_readChoice_81 : tX6_readChoice 81 = oK (.int (nI 3)) 82 := (congrFun teX6_readChoice 81).trans rfl
theorem tX6_readChoice_82 : tX6_readChoice 82 = oAl 0 83 := (congrFun teX6_readChoice 82).trans rfl
theorem tX6_readChoice_83 : tX6_readChoice 83 = oCallV 6 mX6_pop 0 86 := (congrFun teX6_readChoice 83).trans rfl
theorem tX6_readChoice_86 : tX6_readChoice 86 = oIl 3 87 := (congrFun teX6_readChoice 86).trans rfl
theorem tX6_readChoice_87 : tX6_readChoice 87 = oCallV 4 mX4_add 3 90 := (congrFun teX6_readChoice 87).trans rfl
theorem tX6_readChoice_90 : tX6_readChoice 90 = oIs 3 91 := (congrFun teX6_readChoice 90).trans rfl
theorem tX6_readChoice_91 : tX6_readChoice 91 = oInc 4 (-1) 94 := (congrFun teX6_readChoice 91).trans rfl
theorem tX6_readChoice_94 : tX6_readChoice 94 = oGo 67 := (congrFun teX6_readChoice 94).trans rfl
theorem tX6_readChoice_97 : tX6_readChoice 97 = oIl 3 98 := (congrFun teX6_readChoice 97).trans rfl
theorem tX6_readChoice_98 : tX6_readChoice 98 = oIret := (congrFun teX6_readChoice 98).trans rfl
def lX6_readChain : List (Nat × qP) := [(0, oAl 0 1), (1, oGet 6 4 4), (4, oIs 2 5), (5, oAl 0 6), (6, oIl 1 7), (7, oCallV 6 mX6_readRepeats 1 10), (10, oIs 3 11), (11, oK (.int (nI 0)) 12), (12, oIs 4 14), (14, oIl 4 16), (16, oK (.int (nI 60)) 18), (18, oIf2ge 52 21), (21, oIl 3 22), (22, oIf1lt 52 25), (25, oAl 0 26), (26, oCallV 6 mX6_sign 0 29), (29, oCallS mX6_beginsPart 1 32), (32, oIf1eq 52 35), (35, oAl 0 36), (36, oIl 3 37), (37, oCallV 6 mX6_push 1 40), (40, oAl 0 41), (41, oIl 1 42), (42, oCallV 6 mX6_readRepeats 1 45), (45, oIs 3 46), (46, oInc 4 (nI 1) 49), (49, oGo 14), (52, oAl 0 53), (53, oGet 6 4 56), (56, oIs 4 58), (58, oIl 4 60), (60, oIl 2 61), (61, oIf2le 84 64), (64, oIl 3 65), (65, oIf1lt 84 68), (68, oAl 0 69), (69, oAl 0 70), (70, oCallV 6 mX6_pop 0 73), (73, oIl 3 74), (74, oCallV 6 mX6_chain 2 77), (77, oIs 3 78), (78, oInc 4 (-1) 81), (81, oGo 58), (84, oIl 3 85), (85, oIret)]
def uX6_readChain : Nat → qP := q_tb lX6_readChain
set_option maxRecDepth 20000 in
theorem suX6_readChain : q_Snd mX6_readChain uX6_readChain := by
  refine q_tb_ok ?_
  unfold lX6_readChain
  refine q_fa (ok_aload_n (by decide +kernel : decode cX6_readChain 0 = .ok (.aload_n 0, 1)) rfl rfl) ?_
  refine q_fa (ok_get (by decide +kernel : decode cX6_readChain 1 = .ok (.getfield 40, 3)) rfl (rfl : vwCl[6]? = some (RX6, TX6, 7)) inX6 (by decide) g61) ?_
  refine q_fa (ok_istore_n (by decide +kernel : decode cX6_readChain 4 = .ok (.istore_n 2, 1)) rfl rfl (by decide)) ?_
  refine q_fa (ok_aload_n (by decide +kernel : decode cX6_readChain 5 = .ok (.aload_n 0, 1)) rfl rfl) ?_
  refine q_fa (ok_iload_n (by decide +kernel : decode cX6_readChain 6 = .ok (.iload_n 1, 1)) rfl rfl) ?_
  refine q_fa (ok_callV (by decide +kernel : decode cX6_readChain 7 = .ok (.invokevirtual 67, 3)) rfl kX6_readRepeats.1 kX6_readRepeats.2.1 kX6_readRepeats.2.2.1 kX6_readRepeats.2.2.2.1 kX6_readRepeats.2.2.2.2 (rfl : vwCl[6]? = some (RX6, TX6, 7)) g250 gs4 g248) ?_
  refine q_fa (ok_istore_n (by decide +kernel : decode cX6_readChain 10 = .ok (.istore_n 3, 1)) rfl rfl (by decide)) ?_
  refine q_fa (ok_iconst (by decide +kernel : decode cX6_readChain 11 = .ok (.iconst 0, 1)) rfl (by decide +kernel)) ?_
  refine q_fa (ok_istore (by decide +kernel : decode cX6_readChain 12 = .ok (.istore 4, 2)) rfl (by decide)) ?_
  refine q_fa (ok_iload (by decide +kernel : decode cX6_readChain 14 = .ok (.iload 4, 2)) rfl) ?_
  refine q_fa (ok_bipush (by decide +kernel : decode cX6_readChain 16 = .ok (.bipush 60, 2)) rfl (by decide +kernel)) ?_
  refine q_fa (ok_if2ge (by decide +kernel : decode cX6_readChain 18 = .ok (.if_icmp .ge 34, 3)) (by decide) rfl) ?_
  refine q_fa (ok_iload_n (by decide +kernel : decode cX6_readChain 21 = .ok (.iload_n 3, 1)) rfl rfl) ?_
  refine q_fa (ok_if1lt (by decide +kernel : decode cX6_readChain 22 = .ok (.ifCond .lt 30, 3)) (by decide) rfl) ?_
  refine q_fa (ok_aload_n (by decide +kernel : decode cX6_readChain 25 = .ok (.aload_n 0, 1)) rfl rfl) ?_
  refine q_fa (ok_callV (by decide +kernel : decode cX6_readChain 26 = .ok (.invokevirtual 53, 3)) rfl kX6_sign.1 kX6_sign.2.1 kX6_sign.2.2.1 kX6_sign.2.2.2.1 kX6_sign.2.2.2.2 (rfl : vwCl[6]? = some (RX6, TX6, 7)) g258 gs6 g256) ?_
  refine q_fa (ok_callS (by decide +kernel : decode cX6_readChain 29 = .ok (.invokestatic 70, 3)) rfl kX6_beginsPart.1 kX6_beginsPart.2.1 kX6_beginsPart.2.2.1 kX6_beginsPart.2.2.2.1 kX6_beginsPart.2.2.2.2 g272 g271) ?_
  refine q_fa (ok_if1eq (by decide +kernel : decode cX6_readChain 32 = .ok (.ifCond .eq 20, 3)) (by decide) rfl) ?_
  refine q_fa (ok_aload_n (by decide +kernel : decode cX6_readChain 35 = .ok (.aload_n 0, 1)) rfl rfl) ?_
  refine q_fa (ok_iload_n (by decide +kernel : decode cX6_readChain 36 = .ok (.iload_n 3, 1)) rfl rfl) ?_
  refine q_fa (ok_callV (by decide +kernel : decode cX6_readChain 37 = .ok (.invokevirtual 57, 3)) rfl kX6_push.1 kX6_push.2.1 kX6_push.2.2.1 kX6_push.2.2.2.1 kX6_push.2.2.2.2 (rfl : vwCl[6]? = some (RX6, TX6, 7)) g276 gs8 g274) ?_
  refine q_fa (ok_aload_n (by decide +kernel : decode cX6_readChain 40 = .ok (.aload_n 0, 1)) rfl rfl) ?_
  refine q_fa (ok_iload_n (by decide +kernel : decode cX6_readChain 41 = .ok (.iload_n 1, 1)) rfl rfl) ?_
  refine q_fa (ok_callV (by decide +kernel : decode cX6_readChain 42 = .ok (.invokevirtual 67, 3)) rfl kX6_readRepeats.1 kX6_readRepeats.2.1 kX6_readRepeats.2.2.1 kX6_readRepeats.2.2.2.1 kX6_readRepeats.2.2.2.2 (rfl : vwCl[6]? = some (RX6, TX6, 7)) g250 gs4 g248) ?_
  refine q_fa (ok_istore_n (by decide +kernel : decode cX6_readChain 45 = .ok (.istore_n 3, 1)) rfl rfl (by decide)) ?_
  refine q_fa (ok_iinc (by decide +kernel : decode cX6_readChain 46 = .ok (.iinc 4 1, 3)) rfl (by decide +kernel) (by decide)) ?_
  refine q_fa (ok_goto (by decide +kernel : decode cX6_readChain 49 = .ok (.goto (-35), 3)) (by decide)) ?_
  refine q_fa (ok_aload_n (by decide +kernel : decode cX6_readChain 52 = .ok (.aload_n 0, 1)) rfl rfl) ?_
  refine q_fa (ok_get (by decide +kernel : decode cX6_readChain 53 = .ok (.getfield 40, 3)) rfl (rfl : vwCl[6]? = some (RX6, TX6, 7)) inX6 (by decide) g61) ?_
  refine q_fa (ok_istore (by decide +kernel : decode cX6_readChain 56 = .ok (.istore 4, 2)) rfl (by decide)) ?_
  refine q_fa (ok_iload (by decide +kernel : decode cX6_readChain 58 = .ok (.iload 4, 2)) rfl) ?_
  refine q_fa (ok_iload_n (by decide +kernel : decode cX6_readChain 60 = .ok (.iload_n 2, 1)) rfl rfl) ?_
  refine q_fa (ok_if2le (by decide +kernel : decode cX6_readChain 61 = .ok (.if_icmp .le 23, 3)) (by decide) rfl) ?_
  refine q_fa (ok_iload_n (by decide +kernel : decode cX6_readChain 64 = .ok (.iload_n 3, 1)) rfl rfl) ?_
  refine q_fa (ok_if1lt (by decide +kernel : decode cX6_readChain 65 = .ok (.ifCond .lt 19, 3)) (by decide) rfl) ?_
  refine q_fa (ok_aload_n (by decide +kernel : decode cX6_readChain 68 = .ok (.aload_n 0, 1)) rfl rfl) ?_
  refine q_fa (ok_aload_n (by decide +kernel : decode cX6_readChain 69 = .ok (.aload_n 0, 1)) rfl rfl) ?_
  refine q_fa (ok_callV (by decide +kernel : decode cX6_readChain 70 = .ok (.invokevirtual 60, 3)) rfl kX6_pop.1 kX6_pop.2.1 kX6_pop.2.2.1 kX6_pop.2.2.2.1 kX6_pop.2.2.2.2 (rfl : vwCl[6]? = some (RX6, TX6, 7)) g280 gs9 g278) ?_
  refine q_fa (ok_iload_n (by decide +kernel : decode cX6_readChain 73 = .ok (.iload_n 3, 1)) rfl rfl) ?_
  refine q_fa (ok_callV (by decide +kernel : decode cX6_readChain 74 = .ok (.invokevirtual 74, 3)) rfl kX6_chain.1 kX6_chain.2.1 kX6_chain.2.2.1 kX6_chain.2.2.2.1 kX6_chain.2.2.2.2 (rfl : vwCl[6]? = some (RX6, TX6, 7)) g284 gs10 g282) ?_
  refine q_fa (ok_istore_n (by decide +kernel : decode cX6_readChain 77 = .ok (.istore_n 3, 1)) rfl rfl (by decide)) ?_
  refine q_fa (ok_iinc (by decide +kernel : decode cX6_readChain 78 = .ok (.iinc 4 (-1), 3)) rfl (by decide +kernel) (by decide)) ?_
  refine q_fa (ok_goto (by decide +kernel : decode cX6_readChain 81 = .ok (.goto (-23), 3)) (by decide)) ?_
  refine q_fa (ok_iload_n (by decide +kernel : decode cX6_readChain 84 = .ok (.iload_n 3, 1)) rfl rfl) ?_
  refine q_fa (ok_iret (by decide +kernel : decode cX6_readChain 85 = .ok (.ireturn, 1)) rfl) ?_
  exact q_fa0
theorem exX6_readChain : ∃ t : Nat → qP, t = uX6_readChain := ⟨_, rfl⟩
noncomputable def tX6_readChain : Nat → qP := Classical.choose exX6_readChain
theorem teX6_readChain : tX6_readChain = uX6_readChain := Classical.choose_spec exX6_readChain
theorem sX6_readChain : q_Snd mX6_readChain tX6_readChain := by rw [teX6_readChain]; exact suX6_readChain
theorem tX6_readChain_0 : tX6_readChain 0 = oAl 0 1 := (congrFun teX6_readChain 0).trans rfl
theorem tX6_readChain_1 : tX6_readChain 1 = oGet 6 4 4 := (congrFun teX6_readChain 1).trans rfl
theorem tX6_readChain_4 : tX6_readChain 4 = oIs 2 5 := (congrFun teX6_readChain 4).trans rfl
theorem tX6_readChain_5 : tX6_readChain 5 = oAl 0 6 := (congrFun teX6_readChain 5).trans rfl
theorem tX6_readChain_6 : tX6_readChain 6 = oIl 1 7 := (congrFun teX6_readChain 6).trans rfl
theorem tX6_readChain_7 : tX6_readChain 7 = oCallV 6 mX6_readRepeats 1 10 := (congrFun teX6_readChain 7).trans rfl
theorem tX6_readChain_10 : tX6_readChain 10 = oIs 3 11 := (congrFun teX6_readChain 10).trans rfl
theorem tX6_readChain_11 : tX6_readChain 11 = oK (.int (nI 0)) 12 := (congrFun teX6_readChain 11).trans rfl
theorem tX6_readChain_12 : tX6_readChain 12 = oIs 4 14 := (congrFun teX6_readChain 12).trans rfl
theorem tX6_readChain_14 : tX6_readChain 14 = oIl 4 16 := (congrFun teX6_readChain 14).trans rfl
theorem tX6_readChain_16 : tX6_readChain 16 = oK (.int (nI 60)) 18 := (congrFun teX6_readChain 16).trans rfl
theorem tX6_readChain_18 : tX6_readChain 18 = oIf2ge 52 21 := (congrFun teX6_readChain 18).trans rfl
theorem tX6_readChain_21 : tX6_readChain 21 = oIl 3 22 := (congrFun teX6_readChain 21).trans rfl
theorem tX6_readChain_22 : tX6_readChain 22 = oIf1lt 52 25 := (congrFun teX6_readChain 22).trans rfl
theorem tX6_readChain_25 : tX6_readChain 25 = oAl 0 26 := (congrFun teX6_readChain 25).trans rfl
theorem tX6_readChain_26 : tX6_readChain 26 = oCallV 6 mX6_sign 0 29 := (congrFun teX6_readChain 26).trans rfl
theorem tX6_readChain_29 : tX6_readChain 29 = oCallS mX6_beginsPart 1 32 := (congrFun teX6_readChain 29).trans rfl
theorem tX6_readChain_32 : tX6_readChain 32 = oIf1eq 52 35 := (congrFun teX6_readChain 32).trans rfl
theorem tX6_readChain_35 : tX6_readChain 35 = oAl 0 36 := (congrFun teX6_readChain 35).trans rfl
theorem tX6_readChain_36 : tX6_readChain 36 = oIl 3 37 := (congrFun teX6_readChain 36).trans rfl
theorem tX6_readChain_37 : tX6_readChain 37 = oCallV 6 mX6_push 1 40 := (congrFun teX6_readChain 37).trans rfl
theorem tX6_readChain_40 : tX6_readChain 40 = oAl 0 41 := (congrFun teX6_readChain 40).trans rfl
theorem tX6_readChain_41 : tX6_readChain 41 = oIl 1 42 := (congrFun teX6_readChain 41).trans rfl
theorem tX6_readChain_42 : tX6_readChain 42 = oCallV 6 mX6_readRepeats 1 45 := (congrFun teX6_readChain 42).trans rfl
theorem tX6_readChain_45 : tX6_readChain 45 = oIs 3 46 := (congrFun teX6_readChain 45).trans rfl
theorem tX6_readChain_46 : tX6_readChain 46 = oInc 4 (nI 1) 49 := (congrFun teX6_readChain 46).trans rfl
theorem tX6_readChain_49 : tX6_readChain 49 = oGo 14 := (congrFun teX6_readChain 49).trans rfl
theorem tX6_readChain_52 : tX6_readChain 52 = oAl 0 53 := (congrFun teX6_readChain 52).trans rfl
theorem tX6_readChain_53 : tX6_readChain 53 = oGet 6 4 56 := (congrFun teX6_readChain 53).trans rfl
theorem tX6_readChain_56 : tX6_readChain 56 = oIs 4 58 := (congrFun teX6_readChain 56).trans rfl
theorem tX6_readChain_58 : tX6_readChain 58 = oIl 4 60 := (congrFun teX6_readChain 58).trans rfl
theorem tX6_readChain_60 : tX6_readChain 60 = oIl 2 61 := (congrFun teX6_readChain 60).trans rfl
theorem tX6_readChain_61 : tX6_readChain 61 = oIf2le 84 64 := (congrFun teX6_readChain 61).trans rfl
theorem tX6_readChain_64 : tX6_readChain 64 = oIl 3 65 := (congrFun teX6_readChain 64).trans rfl
theorem tX6_readChain_65 : tX6_readChain 65 = oIf1lt 84 68 := (congrFun teX6_readChain 65).trans rfl
theorem tX6_readChain_68 : tX6_readChain 68 = oAl 0 69 := (congrFun teX6_readChain 68).trans rfl
theorem tX6_readChain_69 : tX6_readChain 69 = oAl 0 70 := (congrFun teX6_readChain 69).trans rfl
theorem tX6_readChain_70 : tX6_readChain 70 = oCallV 6 mX6_pop 0 73 := (congrFun teX6_readChain 70).trans rfl
theorem tX6_readChain_73 : tX6_readChain 73 = oIl 3 74 := (congrFun teX6_readChain 73).trans rfl
theorem tX6_readChain_74 : tX6_readChain 74 = oCallV 6 mX6_chain 2 77 := (congrFun teX6_readChain 74).trans rfl
theorem tX6_readChain_77 : tX6_readChain 77 = oIs 3 78 := (congrFun teX6_readChain 77).trans rfl
theorem tX6_readChain_78 : tX6_readChain 78 = oInc 4 (-1) 81 := (congrFun teX6_readChain 78).trans rfl
theorem tX6_readChain_81 : tX6_readChain 81 = oGo 58 := (congrFun teX6_readChain 81).trans rfl
theorem tX6_readChain_84 : tX6_readChain 84 = oIl 3 85 := (congrFun teX6_readChain 84).trans rfl
theorem tX6_readChain_85 : tX6_readChain 85 = oIret := (congrFun teX6_readChain 85).trans rfl
def lX6_beginsPart : List (Nat × qP) := [(0, oIl 0 1), (1, oK (.int (nI 40)) 3), (3, oIf2eq 19 6), (6, oIl 0 7), (7, oK (.int (nI 91)) 9), (9, oIf2eq 19 12), (12, oIl 0 13), (13, oCallS mX6_isLetter 1 16), (16, oIf1eq 23 19), (19, oK (.int (nI 1)) 20), (20, oGo 24), (23, oK (.int (nI 0)) 24), (24, oZret)]
def uX6_beginsPart : Nat → qP := q_tb lX6_beginsPart
set_option maxRecDepth 20000 in
theorem suX6_beginsPart : q_Snd mX6_beginsPart uX6_beginsPart := by
  refine q_tb_ok ?_
  unfold lX6_beginsPart
  refine q_fa (ok_iload_n (by decide +kernel : decode cX6_beginsPart 0 = .ok (.iload_n 0, 1)) rfl rfl) ?_
  refine q_fa (ok_bipush (by decide +kernel : decode cX6_beginsPart 1 = .ok (.bipush 40, 2)) rfl (by decide +kernel)) ?_
  refine q_fa (ok_if2eq (by decide +kernel : decode cX6_beginsPart 3 = .ok (.if_icmp .eq 16, 3)) (by decide) rfl) ?_
  refine q_fa (ok_iload_n (by decide +kernel : decode cX6_beginsPart 6 = .ok (.iload_n 0, 1)) rfl rfl) ?_
  refine q_fa (ok_bipush (by decide +kernel : decode cX6_beginsPart 7 = .ok (.bipush 91, 2)) rfl (by decide +kernel)) ?_
  refine q_fa (ok_if2eq (by decide +kernel : decode cX6_beginsPart 9 = .ok (.if_icmp .eq 10, 3)) (by decide) rfl) ?_
  refine q_fa (ok_iload_n (by decide +kernel : decode cX6_beginsPart 12 = .ok (.iload_n 0, 1)) rfl rfl) ?_
  refine q_fa (ok_callS (by decide +kernel : decode cX6_beginsPart 13 = .ok (.invokestatic 78, 3)) rfl kX6_isLetter.1 kX6_isLetter.2.1 kX6_isLetter.2.2.1 kX6_isLetter.2.2.2.1 kX6_isLetter.2.2.2.2 g261 g260) ?_
  refine q_fa (ok_if1eq (by decide +kernel : decode cX6_beginsPart 16 = .ok (.ifCond .eq 7, 3)) (by decide) rfl) ?_
  refine q_fa (ok_iconst (by decide +kernel : decode cX6_beginsPart 19 = .ok (.iconst 1, 1)) rfl (by decide +kernel)) ?_
  refine q_fa (ok_goto (by decide +kernel : decode cX6_beginsPart 20 = .ok (.goto 4, 3)) (by decide)) ?_
  refine q_fa (ok_iconst (by decide +kernel : decode cX6_beginsPart 23 = .ok (.iconst 0, 1)) rfl (by decide +kernel)) ?_
  refine q_fa (ok_zret (by decide +kernel : decode cX6_beginsPart 24 = .ok (.ireturn, 1)) rfl) ?_
  exact q_fa0
theorem exX6_beginsPart : ∃ t : Nat → qP, t = uX6_beginsPart := ⟨_, rfl⟩
noncomputable def tX6_beginsPart : Nat → qP := Classical.choose exX6_beginsPart
theorem teX6_beginsPart : tX6_beginsPart = uX6_beginsPart := Classical.choose_spec exX6_beginsPart
theorem sX6_beginsPart : q_Snd mX6_beginsPart tX6_beginsPart := by rw [teX6_beginsPart]; exact suX6_beginsPart
theorem tX6_beginsPart_0 : tX6_beginsPart 0 = oIl 0 1 := (congrFun teX6_beginsPart 0).trans rfl
theorem tX6_beginsPart_1 : tX6_beginsPart 1 = oK (.int (nI 40)) 3 := (congrFun teX6_beginsPart 1).trans rfl
theorem tX6_beginsPart_3 : tX6_beginsPart 3 = oIf2eq 19 6 := (congrFun teX6_beginsPart 3).trans rfl
theorem tX6_beginsPart_6 : tX6_beginsPart 6 = oIl 0 7 := (congrFun teX6_beginsPart 6).trans rfl
theorem tX6_beginsPart_7 : tX6_beginsPart 7 = oK (.int (nI 91)) 9 := (congrFun teX6_beginsPart 7).trans rfl
theorem tX6_beginsPart_9 : tX6_beginsPart 9 = oIf2eq 19 12 := (congrFun teX6_beginsPart 9).trans rfl
theorem tX6_beginsPart_12 : tX6_beginsPart 12 = oIl 0 13 := (congrFun teX6_beginsPart 12).trans rfl
theorem tX6_beginsPart_13 : tX6_beginsPart 13 = oCallS mX6_isLetter 1 16 := (congrFun teX6_beginsPart 13).trans rfl
theorem tX6_beginsPart_16 : tX6_beginsPart 16 = oIf1eq 23 19 := (congrFun teX6_beginsPart 16).trans rfl
theorem tX6_beginsPart_19 : tX6_beginsPart 19 = oK (.int (nI 1)) 20 := (congrFun teX6_beginsPart 19).trans rfl
theorem tX6_beginsPart_20 : tX6_beginsPart 20 = oGo 24 := (congrFun teX6_beginsPart 20).trans rfl
theorem tX6_beginsPart_23 : tX6_beginsPart 23 = oK (.int (nI 0)) 24 := (congrFun teX6_beginsPart 23).trans rfl
theorem tX6_beginsPart_24 : tX6_beginsPart 24 = oZret := (congrFun teX6_beginsPart 24).trans rfl
def lX6_isLetter : List (Nat × qP) := [(0, oIl 0 1), (1, oK (.int (nI 97)) 3), (3, oIf2lt 16 6), (6, oIl 0 7), (7, oK (.int (nI 100)) 9), (9, oIf2ge 16 12), (12, oK (.int (nI 1)) 13), (13, oGo 17), (16, oK (.int (nI 0)) 17), (17, oZret)]
def uX6_isLetter : Nat → qP := q_tb lX6_isLetter
set_option maxRecDepth 20000 in
theorem suX6_isLetter : q_Snd mX6_isLetter uX6_isLetter := by
  refine q_tb_ok ?_
  unfold lX6_isLetter
  refine q_fa (ok_iload_n (by decide +kernel : decode cX6_isLetter 0 = .ok (.iload_n 0, 1)) rfl rfl) ?_
  refine q_fa (ok_bipush (by decide +kernel : decode cX6_isLetter 1 = .ok (.bipush 97, 2)) rfl (by decide +kernel)) ?_
  refine q_fa (ok_if2lt (by decide +kernel : decode cX6_isLetter 3 = .ok (.if_icmp .lt 13, 3)) (by decide) rfl) ?_
  refine q_fa (ok_iload_n (by decide +kernel : decode cX6_isLetter 6 = .ok (.iload_n 0, 1)) rfl rfl) ?_
  refine q_fa (ok_bipush (by decide +kernel : decode cX6_isLetter 7 = .ok (.bipush 100, 2)) rfl (by decide +kernel)) ?_
  refine q_fa (ok_if2ge (by decide +kernel : decode cX6_isLetter 9 = .ok (.if_icmp .ge 7, 3)) (by decide) rfl) ?_
  refine q_fa (ok_iconst (by decide +kernel : decode cX6_isLetter 12 = .ok (.iconst 1, 1)) rfl (by decide +kernel)) ?_
  refine q_fa (ok_goto (by decide +kernel : decode cX6_isLetter 13 = .ok (.goto 4, 3)) (by decide)) ?_
  refine q_fa (ok_iconst (by decide +kernel : decode cX6_isLetter 16 = .ok (.iconst 0, 1)) rfl (by decide +kernel)) ?_
  refine q_fa (ok_zret (by decide +kernel : decode cX6_isLetter 17 = .ok (.ireturn, 1)) rfl) ?_
  exact q_fa0
theorem exX6_isLetter : ∃ t : Nat → qP, t = uX6_isLetter := ⟨_, rfl⟩
noncomputable def tX6_isLetter : Nat → qP := Classical.choose exX6_isLetter
theorem teX6_isLetter : tX6_isLetter = uX6_isLetter := Classical.choose_spec exX6_isLetter
theorem sX6_isLetter : q_Snd mX6_isLetter tX6_isLetter := by rw [teX6_isLetter]; exact suX6_isLetter
theorem tX6_isLetter_0 : tX6_isLetter 0 = oIl 0 1 := (congrFun teX6_isLetter 0).trans rfl
theorem tX6_isLetter_1 : tX6_isLetter 1 = oK (.int (nI 97)) 3 := (congrFun teX6_isLetter 1).trans rfl
theorem tX6_isLetter_3 : tX6_isLetter 3 = oIf2lt 16 6 := (congrFun teX6_isLetter 3).trans rfl
theorem tX6_isLetter_6 : tX6_isLetter 6 = oIl 0 7 := (congrFun teX6_isLetter 6).trans rfl
theorem tX6_isLetter_7 : tX6_isLetter 7 = oK (.int (nI 100)) 9 := (congrFun teX6_isLetter 7).trans rfl
theorem tX6_isLetter_9 : tX6_isLetter 9 = oIf2ge 16 12 := (congrFun teX6_isLetter 9).trans rfl
theorem tX6_isLetter_12 : tX6_isLetter 12 = oK (.int (nI 1)) 13 := (congrFun teX6_isLetter 12).trans rfl
theorem tX6_isLetter_13 : tX6_isLetter 13 = oGo 17 := (congrFun teX6_isLetter 13).trans rfl
theorem tX6_isLetter_16 : tX6_isLetter 16 = oK (.int (nI 0)) 17 := (congrFun teX6_isLetter 16).trans rfl
theorem tX6_isLetter_17 : tX6_isLetter 17 = oZret := (congrFun teX6_isLetter 17).trans rfl
def lX6_chain : List (Nat × qP) := [(0, oAl 0 1), (1, oGet 6 2 4), (4, oIl 1 5), (5, oCallV 4 mX4_kindOf 1 8), (8, oK (.int (nI 2)) 9), (9, oIf2eq 23 12), (12, oAl 0 13), (13, oGet 6 2 16), (16, oK (.int (nI 2)) 17), (17, oIl 1 18), (18, oIl 2 19), (19, oCallV 4 mX4_add 3 22), (22, oIret), (23, oIl 1 24), (24, oIs 3 25), (25, oK (.int (nI 0)) 26), (26, oIs 4 28), (28, oIl 4 30), (30, oK (.int (nI 60)) 32), (32, oIf2ge 69 35), (35, oAl 0 36), (36, oGet 6 2 39), (39, oAl 0 40), (40, oGet 6 2 43), (43, oIl 3 44), (44, oCallV 4 mX4_rightOf 1 47), (47, oCallV 4 mX4_kindOf 1 50), (50, oK (.int (nI 2)) 51), (51, oIf2ne 69 54), (54, oAl 0 55), (55, oGet 6 2 58), (58, oIl 3 59), (59, oCallV 4 mX4_rightOf 1 62), (62, oIs 3 63), (63, oInc 4 (nI 1) 66), (66, oGo 28), (69, oAl 0 70), (70, oGet 6 2 73), (73, oIl 3 74), (74, oAl 0 75), (75, oGet 6 2 78), (78, oK (.int (nI 2)) 79), (79, oAl 0 80), (80, oGet 6 2 83), (83, oIl 3 84), (84, oCallV 4 mX4_rightOf 1 87), (87, oIl 2 88), (88, oCallV 4 mX4_add 3 91), (91, oCallV 4 mX4_setRight 2 94), (94, oIl 1 95), (95, oIret)]
def uX6_chain : Nat → qP := q_tb lX6_chain
set_option maxRecDepth 20000 in
theorem suX6_chain : q_Snd mX6_chain uX6_chain := by
  refine q_tb_ok ?_
  unfold lX6_chain
  refine q_fa (ok_aload_n (by decide +kernel : decode cX6_chain 0 = .ok (.aload_n 0, 1)) rfl rfl) ?_
  refine q_fa (ok_get (by decide +kernel : decode cX6_chain 1 = .ok (.getfield 20, 3)) rfl (rfl : vwCl[6]? = some (RX6, TX6, 7)) inX6 (by decide) g59) ?_
  refine q_fa (ok_iload_n (by decide +kernel : decode cX6_chain 4 = .ok (.iload_n 1, 1)) rfl rfl) ?_
  refine q_fa (ok_callV (by decide +kernel : decode cX6_chain 5 = .ok (.invokevirtual 81, 3)) rfl kX4_kindOf.1 kX4_kindOf.2.1 kX4_kindOf.2.2.1 kX4_kindOf.2.2.2.1 kX4_kindOf.2.2.2.2 (rfl : vwCl[4]? = some (RX4, TX4, 4)) g287 g288 g286) ?_
  refine q_fa (ok_iconst (by decide +kernel : decode cX6_chain 8 = .ok (.iconst 2, 1)) rfl (by decide +kernel)) ?_
  refine q_fa (ok_if2eq (by decide +kernel : decode cX6_chain 9 = .ok (.if_icmp .eq 14, 3)) (by decide) rfl) ?_
  refine q_fa (ok_aload_n (by decide +kernel : decode cX6_chain 12 = .ok (.aload_n 0, 1)) rfl rfl) ?_
  refine q_fa (ok_get (by decide +kernel : decode cX6_chain 13 = .ok (.getfield 20, 3)) rfl (rfl : vwCl[6]? = some (RX6, TX6, 7)) inX6 (by decide) g59) ?_
  refine q_fa (ok_iconst (by decide +kernel : decode cX6_chain 16 = .ok (.iconst 2, 1)) rfl (by decide +kernel)) ?_
  refine q_fa (ok_iload_n (by decide +kernel : decode cX6_chain 17 = .ok (.iload_n 1, 1)) rfl rfl) ?_
  refine q_fa (ok_iload_n (by decide +kernel : decode cX6_chain 18 = .ok (.iload_n 2, 1)) rfl rfl) ?_
  refine q_fa (ok_callV (by decide +kernel : decode cX6_chain 19 = .ok (.invokevirtual 63, 3)) rfl kX4_add.1 kX4_add.2.1 kX4_add.2.2.1 kX4_add.2.2.2.1 kX4_add.2.2.2.2 (rfl : vwCl[4]? = some (RX4, TX4, 4)) g264 g265 g263) ?_
  refine q_fa (ok_iret (by decide +kernel : decode cX6_chain 22 = .ok (.ireturn, 1)) rfl) ?_
  refine q_fa (ok_iload_n (by decide +kernel : decode cX6_chain 23 = .ok (.iload_n 1, 1)) rfl rfl) ?_
  refine q_fa (ok_istore_n (by decide +kernel : decode cX6_chain 24 = .ok (.istore_n 3, 1)) rfl rfl (by decide)) ?_
  refine q_fa (ok_iconst (by decide +kernel : decode cX6_chain 25 = .ok (.iconst 0, 1)) rfl (by decide +kernel)) ?_
  refine q_fa (ok_istore (by decide +kernel : decode cX6_chain 26 = .ok (.istore 4, 2)) rfl (by decide)) ?_
  refine q_fa (ok_iload (by decide +kernel : decode cX6_chain 28 = .ok (.iload 4, 2)) rfl) ?_
  refine q_fa (ok_bipush (by decide +kernel : decode cX6_chain 30 = .ok (.bipush 60, 2)) rfl (by decide +kernel)) ?_
  refine q_fa (ok_if2ge (by decide +kernel : decode cX6_chain 32 = .ok (.if_icmp .ge 37, 3)) (by decide) rfl) ?_
  refine q_fa (ok_aload_n (by decide +kernel : decode cX6_chain 35 = .ok (.aload_n 0, 1)) rfl rfl) ?_
  refine q_fa (ok_get (by decide +kernel : decode cX6_chain 36 = .ok (.getfield 20, 3)) rfl (rfl : vwCl[6]? = some (RX6, TX6, 7)) inX6 (by decide) g59) ?_
  refine q_fa (ok_aload_n (by decide +kernel : decode cX6_chain 39 = .ok (.aload_n 0, 1)) rfl rfl) ?_
  refine q_fa (ok_get (by decide +kernel : decode cX6_chain 40 = .ok (.getfield 20, 3)) rfl (rfl : vwCl[6]? = some (RX6, TX6, 7)) inX6 (by decide) g59) ?_
  refine q_fa (ok_iload_n (by decide +kernel : decode cX6_chain 43 = .ok (.iload_n 3, 1)) rfl rfl) ?_
  refine q_fa (ok_callV (by decide +kernel : decode cX6_chain 44 = .ok (.invokevirtual 84, 3)) rfl kX4_rightOf.1 kX4_rightOf.2.1 kX4_rightOf.2.2.1 kX4_rightOf.2.2.2.1 kX4_rightOf.2.2.2.2 (rfl : vwCl[4]? = some (RX4, TX4, 4)) g291 g292 g290) ?_
  refine q_fa (ok_callV (by decide +kernel : decode cX6_chain 47 = .ok (.invokevirtual 81, 3)) rfl kX4_kindOf.1 kX4_kindOf.2.1 kX4_kindOf.2.2.1 kX4_kindOf.2.2.2.1 kX4_kindOf.2.2.2.2 (rfl : vwCl[4]? = some (RX4, TX4, 4)) g287 g288 g286) ?_
  refine q_fa (ok_iconst (by decide +kernel : decode cX6_chain 50 = .ok (.iconst 2, 1)) rfl (by decide +kernel)) ?_
  refine q_fa (ok_if2ne (by decide +kernel : decode cX6_chain 51 = .ok (.if_icmp .ne 18, 3)) (by decide) rfl) ?_
  refine q_fa (ok_aload_n (by decide +kernel : decode cX6_chain 54 = .ok (.aload_n 0, 1)) rfl rfl) ?_
  refine q_fa (ok_get (by decide +kernel : decode cX6_chain 55 = .ok (.getfield 20, 3)) rfl (rfl : vwCl[6]? = some (RX6, TX6, 7)) inX6 (by decide) g59) ?_
  refine q_fa (ok_iload_n (by decide +kernel : decode cX6_chain 58 = .ok (.iload_n 3, 1)) rfl rfl) ?_
  refine q_fa (ok_callV (by decide +kernel : decode cX6_chain 59 = .ok (.invokevirtual 84, 3)) rfl kX4_rightOf.1 kX4_rightOf.2.1 kX4_rightOf.2.2.1 kX4_rightOf.2.2.2.1 kX4_rightOf.2.2.2.2 (rfl : vwCl[4]? = some (RX4, TX4, 4)) g291 g292 g290) ?_
  refine q_fa (ok_istore_n (by decide +kernel : decode cX6_chain 62 = .ok (.istore_n 3, 1)) rfl rfl (by decide)) ?_
  refine q_fa (ok_iinc (by decide +kernel : decode cX6_chain 63 = .ok (.iinc 4 1, 3)) rfl (by decide +kernel) (by decide)) ?_
  refine q_fa (ok_goto (by decide +kernel : decode cX6_chain 66 = .ok (.goto (-38), 3)) (by decide)) ?_
  refine q_fa (ok_aload_n (by decide +kernel : decode cX6_chain 69 = .ok (.aload_n 0, 1)) rfl rfl) ?_
  refine q_fa (ok_get (by decide +kernel : decode cX6_chain 70 = .ok (.getfield 20, 3)) rfl (rfl : vwCl[6]? = some (RX6, TX6, 7)) inX6 (by decide) g59) ?_
  refine q_fa (ok_iload_n (by decide +kernel : decode cX6_chain 73 = .ok (.iload_n 3, 1)) rfl rfl) ?_
  refine q_fa (ok_aload_n (by decide +kernel : decode cX6_chain 74 = .ok (.aload_n 0, 1)) rfl rfl) ?_
  refine q_fa (ok_get (by decide +kernel : decode cX6_chain 75 = .ok (.getfield 20, 3)) rfl (rfl : vwCl[6]? = some (RX6, TX6, 7)) inX6 (by decide) g59) ?_
  refine q_fa (ok_iconst (by decide +kernel : decode cX6_chain 78 = .ok (.iconst 2, 1)) rfl (by decide +kernel)) ?_
  refine q_fa (ok_aload_n (by decide +kernel : decode cX6_chain 79 = .ok (.aload_n 0, 1)) rfl rfl) ?_
  refine q_fa (ok_get (by decide +kernel : decode cX6_chain 80 = .ok (.getfield 20, 3)) rfl (rfl : vwCl[6]? = some (RX6, TX6, 7)) inX6 (by decide) g59) ?_
  refine q_fa (ok_iload_n (by decide +kernel : decode cX6_chain 83 = .ok (.iload_n 3, 1)) rfl rfl) ?_
  refine q_fa (ok_callV (by decide +kernel : decode cX6_chain 84 = .ok (.invokevirtual 84, 3)) rfl kX4_rightOf.1 kX4_rightOf.2.1 kX4_rightOf.2.2.1 kX4_rightOf.2.2.2.1 kX4_rightOf.2.2.2.2 (rfl : vwCl[4]? = some (RX4, TX4, 4)) g291 g292 g290) ?_
  refine q_fa (ok_iload_n (by decide +kernel : decode cX6_chain 87 = .ok (.iload_n 2, 1)) rfl rfl) ?_
  refine q_fa (ok_callV (by decide +kernel : decode cX6_chain 88 = .ok (.invokevirtual 63, 3)) rfl kX4_add.1 kX4_add.2.1 kX4_add.2.2.1 kX4_add.2.2.2.1 kX4_add.2.2.2.2 (rfl : vwCl[4]? = some (RX4, TX4, 4)) g264 g265 g263) ?_
  refine q_fa (ok_callV (by decide +kernel : decode cX6_chain 91 = .ok (.invokevirtual 87, 3)) rfl kX4_setRight.1 kX4_setRight.2.1 kX4_setRight.2.2.1 kX4_setRight.2.2.2.1 kX4_setRight.2.2.2.2 (rfl : vwCl[4]? = some (RX4, TX4, 4)) g295 g296 g294) ?_
  refine q_fa (ok_iload_n (by decide +kernel : decode cX6_chain 94 = .ok (.iload_n 1, 1)) rfl rfl) ?_
  refine q_fa (ok_iret (by decide +kernel : decode cX6_chain 95 = .ok (.ireturn, 1)) rfl) ?_
  exact q_fa0
theorem exX6_chain : ∃ t : Nat → qP, t = uX6_chain := ⟨_, rfl⟩
noncomputable def tX6_chain : Nat → qP := Classical.choose exX6_chain
theorem teX6_chain : tX6_chain = uX6_chain := Classical.choose_spec exX6_chain
theorem sX6_chain : q_Snd mX6_chain tX6_chain := by rw [teX6_chain]; exact suX6_chain
theorem tX6_chain_0 : tX6_chain 0 = oAl 0 1 := (congrFun teX6_chain 0).trans rfl
theorem tX6_chain_1 : tX6_chain 1 = oGet 6 2 4 := (congrFun teX6_chain 1).trans rfl
theorem tX6_chain_4 : tX6_chain 4 = oIl 1 5 := (congrFun teX6_chain 4).trans rfl
theorem tX6_chain_5 : tX6_chain 5 = oCallV 4 mX4_kindOf 1 8 := (congrFun teX6_chain 5).trans rfl
theorem tX6_chain_8 : tX6_chain 8 = oK (.int (nI 2)) 9 := (congrFun teX6_chain 8).trans rfl
theorem tX6_chain_9 : tX6_chain 9 = oIf2eq 23 12 := (congrFun teX6_chain 9).trans rfl
theorem tX6_chain_12 : tX6_chain 12 = oAl 0 13 := (congrFun teX6_chain 12).trans rfl
theorem tX6_chain_13 : tX6_chain 13 = oGet 6 2 16 := (congrFun teX6_chain 13).trans rfl
theorem tX6_chain_16 : tX6_chain 16 = oK (.int (nI 2)) 17 := (congrFun teX6_chain 16).trans rfl
theorem tX6_chain_17 : tX6_chain 17 = oIl 1 18 := (congrFun teX6_chain 17).trans rfl
theorem tX6_chain_18 : tX6_chain 18 = oIl 2 19 := (congrFun teX6_chain 18).trans rfl
theorem tX6_chain_19 : tX6_chain 19 = oCallV 4 mX4_add 3 22 := (congrFun teX6_chain 19).trans rfl
theorem tX6_chain_22 : tX6_chain 22 = oIret := (congrFun teX6_chain 22).trans rfl
theorem tX6_chain_23 : tX6_chain 23 = oIl 1 24 := (congrFun teX6_chain 23).trans rfl
theorem tX6_chain_24 : tX6_chain 24 = oIs 3 25 := (congrFun teX6_chain 24).trans rfl
theorem tX6_chain_25 : tX6_chain 25 = oK (.int (nI 0)) 26 := (congrFun teX6_chain 25).trans rfl
theorem tX6_chain_26 : tX6_chain 26 = oIs 4 28 := (congrFun teX6_chain 26).trans rfl
theorem tX6_chain_28 : tX6_chain 28 = oIl 4 30 := (congrFun teX6_chain 28).trans rfl
theorem tX6_chain_30 : tX6_chain 30 = oK (.int (nI 60)) 32 := (congrFun teX6_chain 30).trans rfl
theorem tX6_chain_32 : tX6_chain 32 = oIf2ge 69 35 := (congrFun teX6_chain 32).trans rfl
theorem tX6_chain_35 : tX6_chain 35 = oAl 0 36 := (congrFun teX6_chain 35).trans rfl
theorem tX6_chain_36 : tX6_chain 36 = oGet 6 2 39 := (congrFun teX6_chain 36).trans rfl
theorem tX6_chain_39 : tX6_chain 39 = oAl 0 40 := (congrFun teX6_chain 39).trans rfl
theorem tX6_chain_40 : tX6_chain 40 = oGet 6 2 43 := (congrFun teX6_chain 40).trans rfl
theorem tX6_chain_43 : tX6_chain 43 = oIl 3 44 := (congrFun teX6_chain 43).trans rfl
theorem tX6_chain_44 : tX6_chain 44 = oCallV 4 mX4_rightOf 1 47 := (congrFun teX6_chain 44).trans rfl
theorem tX6_chain_47 : tX6_chain 47 = oCallV 4 mX4_kindOf 1 50 := (congrFun teX6_chain 47).trans rfl
theorem tX6_chain_50 : tX6_chain 50 = oK (.int (nI 2)) 51 := (congrFun teX6_chain 50).trans rfl
theorem tX6_chain_51 : tX6_chain 51 = oIf2ne 69 54 := (congrFun teX6_chain 51).trans rfl
theorem tX6_chain_54 : tX6_chain 54 = oAl 0 55 := (congrFun teX6_chain 54).trans rfl
theorem tX6_chain_55 : tX6_chain 55 = oGet 6 2 58 := (congrFun teX6_chain 55).trans rfl
theorem tX6_chain_58 : tX6_chain 58 = oIl 3 59 := (congrFun teX6_chain 58).trans rfl
theorem tX6_chain_59 : tX6_chain 59 = oCallV 4 mX4_rightOf 1 62 := (congrFun teX6_chain 59).trans rfl
theorem tX6_chain_62 : tX6_chain 62 = oIs 3 63 := (congrFun teX6_chain 62).trans rfl
theorem tX6_chain_63 : tX6_chain 63 = oInc 4 (nI 1) 66 := (congrFun teX6_chain 63).trans rfl
theorem tX6_chain_66 : tX6_chain 66 = oGo 28 := (congrFun teX6_chain 66).trans rfl
theorem tX6_chain_69 : tX6_chain 69 = oAl 0 70 := (congrFun teX6_chain 69).trans rfl
theorem tX6_chain_70 : tX6_chain 70 = oGet 6 2 73 := (congrFun teX6_chain 70).trans rfl
theorem tX6_chain_73 : tX6_chain 73 = oIl 3 74 := (congrFun teX6_chain 73).trans rfl
theorem tX6_chain_74 : tX6_chain 74 = oAl 0 75 := (congrFun teX6_chain 74).trans rfl
theorem tX6_chain_75 : tX6_chain 75 = oGet 6 2 78 := (congrFun teX6_chain 75).trans rfl
theorem tX6_chain_78 : tX6_chain 78 = oK (.int (nI 2)) 79 := (congrFun teX6_chain 78).trans rfl
theorem tX6_chain_79 : tX6_chain 79 = oAl 0 80 := (congrFun teX6_chain 79).trans rfl
theorem tX6_chain_80 : tX6_chain 80 = oGet 6 2 83 := (congrFun teX6_chain 80).trans rfl
theorem tX6_chain_83 : tX6_chain 83 = oIl 3 84 := (congrFun teX6_chain 83).trans rfl
theorem tX6_chain_84 : tX6_chain 84 = oCallV 4 mX4_rightOf 1 87 := (congrFun teX6_chain 84).trans rfl
theorem tX6_chain_87 : tX6_chain 87 = oIl 2 88 := (congrFun teX6_chain 87).trans rfl
theorem tX6_chain_88 : tX6_chain 88 = oCallV 4 mX4_add 3 91 := (congrFun teX6_chain 88).trans rfl
theorem tX6_chain_91 : tX6_chain 91 = oCallV 4 mX4_setRight 2 94 := (congrFun teX6_chain 91).trans rfl
theorem tX6_chain_94 : tX6_chain 94 = oIl 1 95 := (congrFun teX6_chain 94).trans rfl
theorem tX6_chain_95 : tX6_chain 95 = oIret := (congrFun teX6_chain 95).trans rfl
def lX6_readRepeats : List (Nat × qP) := [(0, oAl 0 1), (1, oIl 1 2), (2, oCallV 6 mX6_readPart 1 5), (5, oIs 2 6), (6, oK (.int (nI 0)) 7), (7, oIs 3 8), (8, oIl 3 9), (9, oK (.int (nI 60)) 11), (11, oIf2ge 76 14), (14, oIl 2 15), (15, oIf1lt 76 18), (18, oAl 0 19), (19, oCallV 6 mX6_sign 0 22), (22, oK (.int (nI 43)) 24), (24, oIf2eq 36 27), (27, oAl 0 28), (28, oCallV 6 mX6_sign 0 31), (31, oK (.int (nI 63)) 33), (33, oIf2ne 76 36), (36, oAl 0 37), (37, oGet 6 2 40), (40, oAl 0 41), (41, oCallV 6 mX6_sign 0 44), (44, oK (.int (nI 43)) 46), (46, oIf2ne 53 49), (49, oK (.int (nI 4)) 50), (50, oGo 54), (53, oK (.int (nI 5)) 54), (54, oIl 2 55), (55, oK (.int (nI 0)) 56), (56, oCallV 4 mX4_add 3 59), (59, oIs 2 60), (60, oAl 0 61), (61, oDup 62), (62, oGet 6 5 65), (65, oK (.int (nI 1)) 66), (66, oAdd 67), (67, oPutI 6 5 70), (70, oInc 3 (nI 1) 73), (73, oGo 8), (76, oIl 2 77), (77, oIret)]
def uX6_readRepeats : Nat → qP := q_tb lX6_readRepeats
set_option maxRecDepth 20000 in
theorem suX6_readRepeats : q_Snd mX6_readRepeats uX6_readRepeats := by
  refine q_tb_ok ?_
  unfold lX6_readRepeats
  refine q_fa (ok_aload_n (by decide +kernel : decode cX6_readRepeats 0 = .ok (.aload_n 0, 1)) rfl rfl) ?_
  refine q_fa (ok_iload_n (by decide +kernel : decode cX6_readRepeats 1 = .ok (.iload_n 1, 1)) rfl rfl) ?_
  refine q_fa (ok_callV (by decide +kernel : decode cX6_readRepeats 2 = .ok (.invokevirtual 91, 3)) rfl kX6_readPart.1 kX6_readPart.2.1 kX6_readPart.2.2.1 kX6_readPart.2.2.2.1 kX6_readPart.2.2.2.2 (rfl : vwCl[6]? = some (RX6, TX6, 7)) g254 gs5 g252) ?_
  refine q_fa (ok_istore_n (by decide +kernel : decode cX6_readRepeats 5 = .ok (.istore_n 2, 1)) rfl rfl (by decide)) ?_
  refine q_fa (ok_iconst (by decide +kernel : decode cX6_readRepeats 6 = .ok (.iconst 0, 1)) rfl (by decide +kernel)) ?_
  refine q_fa (ok_istore_n (by decide +kernel : decode cX6_readRepeats 7 = .ok (.istore_n 3, 1)) rfl rfl (by decide)) ?_
  refine q_fa (ok_iload_n (by decide +kernel : decode cX6_readRepeats 8 = .ok (.iload_n 3, 1)) rfl rfl) ?_
  refine q_fa (ok_bipush (by decide +kernel : decode cX6_readRepeats 9 = .ok (.bipush 60, 2)) rfl (by decide +kernel)) ?_
  refine q_fa (ok_if2ge (by decide +kernel : decode cX6_readRepeats 11 = .ok (.if_icmp .ge 65, 3)) (by decide) rfl) ?_
  refine q_fa (ok_iload_n (by decide +kernel : decode cX6_readRepeats 14 = .ok (.iload_n 2, 1)) rfl rfl) ?_
  refine q_fa (ok_if1lt (by decide +kernel : decode cX6_readRepeats 15 = .ok (.ifCond .lt 61, 3)) (by decide) rfl) ?_
  refine q_fa (ok_aload_n (by decide +kernel : decode cX6_readRepeats 18 = .ok (.aload_n 0, 1)) rfl rfl) ?_
  refine q_fa (ok_callV (by decide +kernel : decode cX6_readRepeats 19 = .ok (.invokevirtual 53, 3)) rfl kX6_sign.1 kX6_sign.2.1 kX6_sign.2.2.1 kX6_sign.2.2.2.1 kX6_sign.2.2.2.2 (rfl : vwCl[6]? = some (RX6, TX6, 7)) g258 gs6 g256) ?_
  refine q_fa (ok_bipush (by decide +kernel : decode cX6_readRepeats 22 = .ok (.bipush 43, 2)) rfl (by decide +kernel)) ?_
  refine q_fa (ok_if2eq (by decide +kernel : decode cX6_readRepeats 24 = .ok (.if_icmp .eq 12, 3)) (by decide) rfl) ?_
  refine q_fa (ok_aload_n (by decide +kernel : decode cX6_readRepeats 27 = .ok (.aload_n 0, 1)) rfl rfl) ?_
  refine q_fa (ok_callV (by decide +kernel : decode cX6_readRepeats 28 = .ok (.invokevirtual 53, 3)) rfl kX6_sign.1 kX6_sign.2.1 kX6_sign.2.2.1 kX6_sign.2.2.2.1 kX6_sign.2.2.2.2 (rfl : vwCl[6]? = some (RX6, TX6, 7)) g258 gs6 g256) ?_
  refine q_fa (ok_bipush (by decide +kernel : decode cX6_readRepeats 31 = .ok (.bipush 63, 2)) rfl (by decide +kernel)) ?_
  refine q_fa (ok_if2ne (by decide +kernel : decode cX6_readRepeats 33 = .ok (.if_icmp .ne 43, 3)) (by decide) rfl) ?_
  refine q_fa (ok_aload_n (by decide +kernel : decode cX6_readRepeats 36 = .ok (.aload_n 0, 1)) rfl rfl) ?_
  refine q_fa (ok_get (by decide +kernel : decode cX6_readRepeats 37 = .ok (.getfield 20, 3)) rfl (rfl : vwCl[6]? = some (RX6, TX6, 7)) inX6 (by decide) g59) ?_
  refine q_fa (ok_aload_n (by decide +kernel : decode cX6_readRepeats 40 = .ok (.aload_n 0, 1)) rfl rfl) ?_
  refine q_fa (ok_callV (by decide +kernel : decode cX6_readRepeats 41 = .ok (.invokevirtual 53, 3)) rfl kX6_sign.1 kX6_sign.2.1 kX6_sign.2.2.1 kX6_sign.2.2.2.1 kX6_sign.2.2.2.2 (rfl : vwCl[6]? = some (RX6, TX6, 7)) g258 gs6 g256) ?_
  refine q_fa (ok_bipush (by decide +kernel : decode cX6_readRepeats 44 = .ok (.bipush 43, 2)) rfl (by decide +kernel)) ?_
  refine q_fa (ok_if2ne (by decide +kernel : decode cX6_readRepeats 46 = .ok (.if_icmp .ne 7, 3)) (by decide) rfl) ?_
  refine q_fa (ok_iconst (by decide +kernel : decode cX6_readRepeats 49 = .ok (.iconst 4, 1)) rfl (by decide +kernel)) ?_
  refine q_fa (ok_goto (by decide +kernel : decode cX6_readRepeats 50 = .ok (.goto 4, 3)) (by decide)) ?_
  refine q_fa (ok_iconst (by decide +kernel : decode cX6_readRepeats 53 = .ok (.iconst 5, 1)) rfl (by decide +kernel)) ?_
  refine q_fa (ok_iload_n (by decide +kernel : decode cX6_readRepeats 54 = .ok (.iload_n 2, 1)) rfl rfl) ?_
  refine q_fa (ok_iconst (by decide +kernel : decode cX6_readRepeats 55 = .ok (.iconst 0, 1)) rfl (by decide +kernel)) ?_
  refine q_fa (ok_callV (by decide +kernel : decode cX6_readRepeats 56 = .ok (.invokevirtual 63, 3)) rfl kX4_add.1 kX4_add.2.1 kX4_add.2.2.1 kX4_add.2.2.2.1 kX4_add.2.2.2.2 (rfl : vwCl[4]? = some (RX4, TX4, 4)) g264 g265 g263) ?_
  refine q_fa (ok_istore_n (by decide +kernel : decode cX6_readRepeats 59 = .ok (.istore_n 2, 1)) rfl rfl (by decide)) ?_
  refine q_fa (ok_aload_n (by decide +kernel : decode cX6_readRepeats 60 = .ok (.aload_n 0, 1)) rfl rfl) ?_
  refine q_fa (ok_dup (by decide +kernel : decode cX6_readRepeats 61 = .ok (.dup, 1)) rfl) ?_
  refine q_fa (ok_get (by decide +kernel : decode cX6_readRepeats 62 = .ok (.getfield 31, 3)) rfl (rfl : vwCl[6]? = some (RX6, TX6, 7)) inX6 (by decide) g62) ?_
  refine q_fa (ok_iconst (by decide +kernel : decode cX6_readRepeats 65 = .ok (.iconst 1, 1)) rfl (by decide +kernel)) ?_
  refine q_fa (ok_iadd (by decide +kernel : decode cX6_readRepeats 66 = .ok (.iadd, 1)) rfl) ?_
  refine q_fa (ok_putI tyX6 (by decide +kernel : decode cX6_readRepeats 67 = .ok (.putfield 31, 3)) rfl (rfl : vwCl[6]? = some (RX6, TX6, 7)) inX6 tyX6_ok nmX6 (by decide) g62 (Or.inl rfl) (by decide +kernel)) ?_
  refine q_fa (ok_iinc (by decide +kernel : decode cX6_readRepeats 70 = .ok (.iinc 3 1, 3)) rfl (by decide +kernel) (by decide)) ?_
  refine q_fa (ok_goto (by decide +kernel : decode cX6_readRepeats 73 = .ok (.goto (-65), 3)) (by decide)) ?_
  refine q_fa (ok_iload_n (by decide +kernel : decode cX6_readRepeats 76 = .ok (.iload_n 2, 1)) rfl rfl) ?_
  refine q_fa (ok_iret (by decide +kernel : decode cX6_readRepeats 77 = .ok (.ireturn, 1)) rfl) ?_
  exact q_fa0
theorem exX6_readRepeats : ∃ t : Nat → qP, t = uX6_readRepeats := ⟨_, rfl⟩
noncomputable def tX6_readRepeats : Nat → qP := Classical.choose exX6_readRepeats
theorem teX6_readRepeats : tX6_readRepeats = uX6_readRepeats := Classical.choose_spec exX6_readRepeats
theorem sX6_readRepeats : q_Snd mX6_readRepeats tX6_readRepeats := by rw [teX6_readRepeats]; exact suX6_readRepeats
theorem tX6_readRepeats_0 : tX6_readRepeats 0 = oAl 0 1 := (congrFun teX6_readRepeats 0).trans rfl
theorem tX6_readRepeats_1 : tX6_readRepeats 1 = oIl 1 2 := (congrFun teX6_readRepeats 1).trans rfl
theorem tX6_readRepeats_2 : tX6_readRepeats 2 = oCallV 6 mX6_readPart 1 5 := (congrFun teX6_readRepeats 2).trans rfl
theorem tX6_readRepeats_5 : tX6_readRepeats 5 = oIs 2 6 := (congrFun teX6_readRepeats 5).trans rfl
theorem tX6_readRepeats_6 : tX6_readRepeats 6 = oK (.int (nI 0)) 7 := (congrFun teX6_readRepeats 6).trans rfl
theorem tX6_readRepeats_7 : tX6_readRepeats 7 = oIs 3 8 := (congrFun teX6_readRepeats 7).trans rfl
theorem tX6_readRepeats_8 : tX6_readRepeats 8 = oIl 3 9 := (congrFun teX6_readRepeats 8).trans rfl
theorem tX6_readRepeats_9 : tX6_readRepeats 9 = oK (.int (nI 60)) 11 := (congrFun teX6_readRepeats 9).trans rfl
theorem tX6_readRepeats_11 : tX6_readRepeats 11 = oIf2ge 76 14 := (congrFun teX6_readRepeats 11).trans rfl
theorem tX6_readRepeats_14 : tX6_readRepeats 14 = oIl 2 15 := (congrFun teX6_readRepeats 14).trans rfl
theorem tX6_readRepeats_15 : tX6_readRepeats 15 = oIf1lt 76 18 := (congrFun teX6_readRepeats 15).trans rfl
theorem tX6_readRepeats_18 : tX6_readRepeats 18 = oAl 0 19 := (congrFun teX6_readRepeats 18).trans rfl
theorem tX6_readRepeats_19 : tX6_readRepeats 19 = oCallV 6 mX6_sign 0 22 := (congrFun teX6_readRepeats 19).trans rfl
theorem tX6_readRepeats_22 : tX6_readRepeats 22 = oK (.int (nI 43)) 24 := (congrFun teX6_readRepeats 22).trans rfl
theorem tX6_readRepeats_24 : tX6_readRepeats 24 = oIf2eq 36 27 := (congrFun teX6_readRepeats 24).trans rfl
theorem tX6_readRepeats_27 : tX6_readRepeats 27 = oAl 0 28 := (congrFun teX6_readRepeats 27).trans rfl
theorem tX6_readRepeats_28 : tX6_readRepeats 28 = oCallV 6 mX6_sign 0 31 := (congrFun teX6_readRepeats 28).trans rfl
theorem tX6_readRepeats_31 : tX6_readRepeats 31 = oK (.int (nI 63)) 33 := (congrFun teX6_readRepeats 31).trans rfl
theorem tX6_readRepeats_33 : tX6_readRepeats 33 = oIf2ne 76 36 := (congrFun teX6_readRepeats 33).trans rfl
theorem tX6_readRepeats_36 : tX6_readRepeats 36 = oAl 0 37 := (congrFun teX6_readRepeats 36).trans rfl
theorem tX6_readRepeats_37 : tX6_readRepeats 37 = oGet 6 2 40 := (congrFun teX6_readRepeats 37).trans rfl
theorem tX6_readRepeats_40 : tX6_readRepeats 40 = oAl 0 41 := (congrFun teX6_readRepeats 40).trans rfl
theorem tX6_readRepeats_41 : tX6_readRepeats 41 = oCallV 6 mX6_sign 0 44 := (congrFun teX6_readRepeats 41).trans rfl
theorem tX6_readRepeats_44 : tX6_readRepeats 44 = oK (.int (nI 43)) 46 := (congrFun teX6_readRepeats 44).trans rfl
theorem tX6_readRepeats_46 : tX6_readRepeats 46 = oIf2ne 53 49 := (congrFun teX6_readRepeats 46).trans rfl
theorem tX6_readRepeats_49 : tX6_readRepeats 49 = oK (.int (nI 4)) 50 := (congrFun teX6_readRepeats 49).trans rfl
theorem tX6_readRepeats_50 : tX6_readRepeats 50 = oGo 54 := (congrFun teX6_readRepeats 50).trans rfl
theorem tX6_readRepeats_53 : tX6_readRepeats 53 = oK (.int (nI 5)) 54 := (congrFun teX6_readRepeats 53).trans rfl
theorem tX6_readRepeats_54 : tX6_readRepeats 54 = oIl 2 55 := (congrFun teX6_readRepeats 54).trans rfl
theorem tX6_readRepeats_55 : tX6_readRepeats 55 = oK (.int (nI 0)) 56 := (congrFun teX6_readRepeats 55).trans rfl
theorem tX6_readRepeats_56 : tX6_readRepeats 56 = oCallV 4 mX4_add 3 59 := (congrFun teX6_readRepeats 56).trans rfl
theorem tX6_readRepeats_59 : tX6_readRepeats 59 = oIs 2 60 := (congrFun teX6_readRepeats 59).trans rfl
theorem tX6_readRepeats_60 : tX6_readRepeats 60 = oAl 0 61 := (congrFun teX6_readRepeats 60).trans rfl
theorem tX6_readRepeats_61 : tX6_readRepeats 61 = oDup 62 := (congrFun teX6_readRepeats 61).trans rfl
theorem tX6_readRepeats_62 : tX6_readRepeats 62 = oGet 6 5 65 := (congrFun teX6_readRepeats 62).trans rfl
theorem tX6_readRepeats_65 : tX6_readRepeats 65 = oK (.int (nI 1)) 66 := (congrFun teX6_readRepeats 65).trans rfl
theorem tX6_readRepeats_66 : tX6_readRepeats 66 = oAdd 67 := (congrFun teX6_readRepeats 66).trans rfl
theorem tX6_readRepeats_67 : tX6_readRepeats 67 = oPutI 6 5 70 := (congrFun teX6_readRepeats 67).trans rfl
theorem tX6_readRepeats_70 : tX6_readRepeats 70 = oInc 3 (nI 1) 73 := (congrFun teX6_readRepeats 70).trans rfl
theorem tX6_readRepeats_73 : tX6_readRepeats 73 = oGo 8 := (congrFun teX6_readRepeats 73).trans rfl
theorem tX6_readRepeats_76 : tX6_readRepeats 76 = oIl 2 77 := (congrFun teX6_readRepeats 76).trans rfl
theorem tX6_readRepeats_77 : tX6_readRepeats 77 = oIret := (congrFun teX6_readRepeats 77).trans rfl
def lX6_readPart : List (Nat × qP) := [(0, oAl 0 1), (1, oCallV 6 mX6_sign 0 4), (4, oIs 2 5), (5, oIl 2 6), (6, oCallS mX6_isLetter 1 9), (9, oIf1eq 36 12), (12, oAl 0 13), (13, oDup 14), (14, oGet 6 5 17), (17, oK (.int (nI 1)) 18), (18, oAdd 19), (19, oPutI 6 5 22), (22, oAl 0 23), (23, oGet 6 2 26), (26, oK (.int (nI 0)) 27), (27, oIl 2 28), (28, oK (.int (nI 97)) 30), (30, oSub 31), (31, oK (.int (nI 0)) 32), (32, oCallV 4 mX4_add 3 35), (35, oIret), (36, oIl 2 37), (37, oK (.int (nI 91)) 39), (39, oIf2ne 57 42), (42, oAl 0 43), (43, oDup 44), (44, oGet 6 5 47), (47, oK (.int (nI 1)) 48), (48, oAdd 49), (49, oPutI 6 5 52), (52, oAl 0 53), (53, oCallV 6 mX6_readClass 0 56), (56, oIret), (57, oIl 2 58), (58, oK (.int (nI 40)) 60), (60, oIf2ne 69 63), (63, oIl 1 64), (64, oK (.int (nI 6)) 66), (66, oIf2lt 71 69), (69, oK (.int (-1)) 70), (70, oIret), (71, oAl 0 72), (72, oDup 73), (73, oGet 6 5 76), (76, oK (.int (nI 1)) 77), (77, oAdd 78), (78, oPutI 6 5 81), (81, oAl 0 82), (82, oIl 1 83), (83, oK (.int (nI 1)) 84), (84, oAdd 85), (85, oCallV 6 mX6_readChoice 1 88), (88, oIs 3 89), (89, oIl 3 90), (90, oIf1lt 102 93), (93, oAl 0 94), (94, oCallV 6 mX6_sign 0 97), (97, oK (.int (nI 41)) 99), (99, oIf2eq 104 102), (102, oK (.int (-1)) 103), (103, oIret), (104, oAl 0 105), (105, oDup 106), (106, oGet 6 5 109), (109, oK (.int (nI 1)) 110), (110, oAdd 111), (111, oPutI 6 5 114), (114, oIl 3 115), (115, oIret)]
def uX6_readPart : Nat → qP := q_tb lX6_readPart
set_option maxRecDepth 20000 in
theorem suX6_readPart : q_Snd mX6_readPart uX6_readPart := by
  refine q_tb_ok ?_
  unfold lX6_readPart
  refine q_fa (ok_aload_n (by decide +kernel : decode cX6_readPart 0 = .ok (.aload_n 0, 1)) rfl rfl) ?_
  refine q_fa (ok_callV (by decide +kernel : decode cX6_readPart 1 = .ok (.invokevirtual 53, 3)) rfl kX6_sign.1 kX6_sign.2.1 kX6_sign.2.2.1 kX6_sign.2.2.2.1 kX6_sign.2.2.2.2 (rfl : vwCl[6]? = some (RX6, TX6, 7)) g258 gs6 g256) ?_
  refine q_fa (ok_istore_n (by decide +kernel : decode cX6_readPart 4 = .ok (.istore_n 2, 1)) rfl rfl (by decide)) ?_
  refine q_fa (ok_iload_n (by decide +kernel : decode cX6_readPart 5 = .ok (.iload_n 2, 1)) rfl rfl) ?_
  refine q_fa (ok_callS (by decide +kernel : decode cX6_readPart 6 = .ok (.invokestatic 78, 3)) rfl kX6_isLetter.1 kX6_isLetter.2.1 kX6_isLetter.2.2.1 kX6_isLetter.2.2.2.1 kX6_isLetter.2.2.2.2 g261 g260) ?_
  refine q_fa (ok_if1eq (by decide +kernel : decode cX6_readPart 9 = .ok (.ifCond .eq 27, 3)) (by decide) rfl) ?_
  refine q_fa (ok_aload_n (by decide +kernel : decode cX6_readPart 12 = .ok (.aload_n 0, 1)) rfl rfl) ?_
  refine q_fa (ok_dup (by decide +kernel : decode cX6_readPart 13 = .ok (.dup, 1)) rfl) ?_
  refine q_fa (ok_get (by decide +kernel : decode cX6_readPart 14 = .ok (.getfield 31, 3)) rfl (rfl : vwCl[6]? = some (RX6, TX6, 7)) inX6 (by decide) g62) ?_
  refine q_fa (ok_iconst (by decide +kernel : decode cX6_readPart 17 = .ok (.iconst 1, 1)) rfl (by decide +kernel)) ?_
  refine q_fa (ok_iadd (by decide +kernel : decode cX6_readPart 18 = .ok (.iadd, 1)) rfl) ?_
  refine q_fa (ok_putI tyX6 (by decide +kernel : decode cX6_readPart 19 = .ok (.putfield 31, 3)) rfl (rfl : vwCl[6]? = some (RX6, TX6, 7)) inX6 tyX6_ok nmX6 (by decide) g62 (Or.inl rfl) (by decide +kernel)) ?_
  refine q_fa (ok_aload_n (by decide +kernel : decode cX6_readPart 22 = .ok (.aload_n 0, 1)) rfl rfl) ?_
  refine q_fa (ok_get (by decide +kernel : decode cX6_readPart 23 = .ok (.getfield 20, 3)) rfl (rfl : vwCl[6]? = some (RX6, TX6, 7)) inX6 (by decide) g59) ?_
  refine q_fa (ok_iconst (by decide +kernel : decode cX6_readPart 26 = .ok (.iconst 0, 1)) rfl (by decide +kernel)) ?_
  refine q_fa (ok_iload_n (by decide +kernel : decode cX6_readPart 27 = .ok (.iload_n 2, 1)) rfl rfl) ?_
  refine q_fa (ok_bipush (by decide +kernel : decode cX6_readPart 28 = .ok (.bipush 97, 2)) rfl (by decide +kernel)) ?_
  refine q_fa (ok_isub (by decide +kernel : decode cX6_readPart 30 = .ok (.isub, 1)) rfl) ?_
  refine q_fa (ok_iconst (by decide +kernel : decode cX6_readPart 31 = .ok (.iconst 0, 1)) rfl (by decide +kernel)) ?_
  refine q_fa (ok_callV (by decide +kernel : decode cX6_readPart 32 = .ok (.invokevirtual 63, 3)) rfl kX4_add.1 kX4_add.2.1 kX4_add.2.2.1 kX4_add.2.2.2.1 kX4_add.2.2.2.2 (rfl : vwCl[4]? = some (RX4, TX4, 4)) g264 g265 g263) ?_
  refine q_fa (ok_iret (by decide +kernel : decode cX6_readPart 35 = .ok (.ireturn, 1)) rfl) ?_
  refine q_fa (ok_iload_n (by decide +kernel : decode cX6_readPart 36 = .ok (.iload_n 2, 1)) rfl rfl) ?_
  refine q_fa (ok_bipush (by decide +kernel : decode cX6_readPart 37 = .ok (.bipush 91, 2)) rfl (by decide +kernel)) ?_
  refine q_fa (ok_if2ne (by decide +kernel : decode cX6_readPart 39 = .ok (.if_icmp .ne 18, 3)) (by decide) rfl) ?_
  refine q_fa (ok_aload_n (by decide +kernel : decode cX6_readPart 42 = .ok (.aload_n 0, 1)) rfl rfl) ?_
  refine q_fa (ok_dup (by decide +kernel : decode cX6_readPart 43 = .ok (.dup, 1)) rfl) ?_
  refine q_fa (ok_get (by decide +kernel : decode cX6_readPart 44 = .ok (.getfield 31, 3)) rfl (rfl : vwCl[6]? = some (RX6, TX6, 7)) inX6 (by decide) g62) ?_
  refine q_fa (ok_iconst (by decide +kernel : decode cX6_readPart 47 = .ok (.iconst 1, 1)) rfl (by decide +kernel)) ?_
  refine q_fa (ok_iadd (by decide +kernel : decode cX6_readPart 48 = .ok (.iadd, 1)) rfl) ?_
  refine q_fa (ok_putI tyX6 (by decide +kernel : decode cX6_readPart 49 = .ok (.putfield 31, 3)) rfl (rfl : vwCl[6]? = some (RX6, TX6, 7)) inX6 tyX6_ok nmX6 (by decide) g62 (Or.inl rfl) (by decide +kernel)) ?_
  refine q_fa (ok_aload_n (by decide +kernel : decode cX6_readPart 52 = .ok (.aload_n 0, 1)) rfl rfl) ?_
  refine q_fa (ok_callV (by decide +kernel : decode cX6_readPart 53 = .ok (.invokevirtual 94, 3)) rfl kX6_readClass.1 kX6_readClass.2.1 kX6_readClass.2.2.1 kX6_readClass.2.2.2.1 kX6_readClass.2.2.2.2 (rfl : vwCl[6]? = some (RX6, TX6, 7)) g269 gs7 g267) ?_
  refine q_fa (ok_iret (by decide +kernel : decode cX6_readPart 56 = .ok (.ireturn, 1)) rfl) ?_
  refine q_fa (ok_iload_n (by decide +kernel : decode cX6_readPart 57 = .ok (.iload_n 2, 1)) rfl rfl) ?_
  refine q_fa (ok_bipush (by decide +kernel : decode cX6_readPart 58 = .ok (.bipush 40, 2)) rfl (by decide +kernel)) ?_
  refine q_fa (ok_if2ne (by decide +kernel : decode cX6_readPart 60 = .ok (.if_icmp .ne 9, 3)) (by decide) rfl) ?_
  refine q_fa (ok_iload_n (by decide +kernel : decode cX6_readPart 63 = .ok (.iload_n 1, 1)) rfl rfl) ?_
  refine q_fa (ok_bipush (by decide +kernel : decode cX6_readPart 64 = .ok (.bipush 6, 2)) rfl (by decide +kernel)) ?_
  refine q_fa (ok_if2lt (by decide +kernel : decode cX6_readPart 66 = .ok (.if_icmp .lt 5, 3)) (by decide) rfl) ?_
  refine q_fa (ok_iconst (by decide +kernel : decode cX6_readPart 69 = .ok (.iconst (-1), 1)) rfl (by decide +kernel)) ?_
  refine q_fa (ok_iret (by decide +kernel : decode cX6_readPart 70 = .ok (.ireturn, 1)) rfl) ?_
  refine q_fa (ok_aload_n (by decide +kernel : decode cX6_readPart 71 = .ok (.aload_n 0, 1)) rfl rfl) ?_
  refine q_fa (ok_dup (by decide +kernel : decode cX6_readPart 72 = .ok (.dup, 1)) rfl) ?_
  refine q_fa (ok_get (by decide +kernel : decode cX6_readPart 73 = .ok (.getfield 31, 3)) rfl (rfl : vwCl[6]? = some (RX6, TX6, 7)) inX6 (by decide) g62) ?_
  refine q_fa (ok_iconst (by decide +kernel : decode cX6_readPart 76 = .ok (.iconst 1, 1)) rfl (by decide +kernel)) ?_
  refine q_fa (ok_iadd (by decide +kernel : decode cX6_readPart 77 = .ok (.iadd, 1)) rfl) ?_
  refine q_fa (ok_putI tyX6 (by decide +kernel : decode cX6_readPart 78 = .ok (.putfield 31, 3)) rfl (rfl : vwCl[6]? = some (RX6, TX6, 7)) inX6 tyX6_ok nmX6 (by decide) g62 (Or.inl rfl) (by decide +kernel)) ?_
  refine q_fa (ok_aload_n (by decide +kernel : decode cX6_readPart 81 = .ok (.aload_n 0, 1)) rfl rfl) ?_
  refine q_fa (ok_iload_n (by decide +kernel : decode cX6_readPart 82 = .ok (.iload_n 1, 1)) rfl rfl) ?_
  refine q_fa (ok_iconst (by decide +kernel : decode cX6_readPart 83 = .ok (.iconst 1, 1)) rfl (by decide +kernel)) ?_
  refine q_fa (ok_iadd (by decide +kernel : decode cX6_readPart 84 = .ok (.iadd, 1)) rfl) ?_
  refine q_fa (ok_callV (by decide +kernel : decode cX6_readPart 85 = .ok (.invokevirtual 46, 3)) rfl kX6_readChoice.1 kX6_readChoice.2.1 kX6_readChoice.2.2.1 kX6_readChoice.2.2.2.1 kX6_readChoice.2.2.2.2 (rfl : vwCl[6]? = some (RX6, TX6, 7)) g242 gs2 g240) ?_
  refine q_fa (ok_istore_n (by decide +kernel : decode cX6_readPart 88 = .ok (.istore_n 3, 1)) rfl rfl (by decide)) ?_
  refine q_fa (ok_iload_n (by decide +kernel : decode cX6_readPart 89 = .ok (.iload_n 3, 1)) rfl rfl) ?_
  refine q_fa (ok_if1lt (by decide +kernel : decode cX6_readPart 90 = .ok (.ifCond .lt 12, 3)) (by decide) rfl) ?_
  refine q_fa (ok_aload_n (by decide +kernel : decode cX6_readPart 93 = .ok (.aload_n 0, 1)) rfl rfl) ?_
  refine q_fa (ok_callV (by decide +kernel : decode cX6_readPart 94 = .ok (.invokevirtual 53, 3)) rfl kX6_sign.1 kX6_sign.2.1 kX6_sign.2.2.1 kX6_sign.2.2.2.1 kX6_sign.2.2.2.2 (rfl : vwCl[6]? = some (RX6, TX6, 7)) g258 gs6 g256) ?_
  refine q_fa (ok_bipush (by decide +kernel : decode cX6_readPart 97 = .ok (.bipush 41, 2)) rfl (by decide +kernel)) ?_
  refine q_fa (ok_if2eq (by decide +kernel : decode cX6_readPart 99 = .ok (.if_icmp .eq 5, 3)) (by decide) rfl) ?_
  refine q_fa (ok_iconst (by decide +kernel : decode cX6_readPart 102 = .ok (.iconst (-1), 1)) rfl (by decide +kernel)) ?_
  refine q_fa (ok_iret (by decide +kernel : decode cX6_readPart 103 = .ok (.ireturn, 1)) rfl) ?_
  refine q_fa (ok_aload_n (by decide +kernel : decode cX6_readPart 104 = .ok (.aload_n 0, 1)) rfl rfl) ?_
  refine q_fa (ok_dup (by decide +kernel : decode cX6_readPart 105 = .ok (.dup, 1)) rfl) ?_
  refine q_fa (ok_get (by decide +kernel : decode cX6_readPart 106 = .ok (.getfield 31, 3)) rfl (rfl : vwCl[6]? = some (RX6, TX6, 7)) inX6 (by decide) g62) ?_
  refine q_fa (ok_iconst (by decide +kernel : decode cX6_readPart 109 = .ok (.iconst 1, 1)) rfl (by decide +kernel)) ?_
  refine q_fa (ok_iadd (by decide +kernel : decode cX6_readPart 110 = .ok (.iadd, 1)) rfl) ?_
  refine q_fa (ok_putI tyX6 (by decide +kernel : decode cX6_readPart 111 = .ok (.putfield 31, 3)) rfl (rfl : vwCl[6]? = some (RX6, TX6, 7)) inX6 tyX6_ok nmX6 (by decide) g62 (Or.inl rfl) (by decide +kernel)) ?_
  refine q_fa (ok_iload_n (by decide +kernel : decode cX6_readPart 114 = .ok (.iload_n 3, 1)) rfl rfl) ?_
  refine q_fa (ok_iret (by decide +kernel : decode cX6_readPart 115 = .ok (.ireturn, 1)) rfl) ?_
  exact q_fa0
theorem exX6_readPart : ∃ t : Nat → qP, t = uX6_readPart := ⟨_, rfl⟩
noncomputable def tX6_readPart : Nat → qP := Classical.choose exX6_readPart
theorem teX6_readPart : tX6_readPart = uX6_readPart := Classical.choose_spec exX6_readPart
theorem sX6_readPart : q_Snd mX6_readPart tX6_readPart := by rw [teX6_readPart]; exact suX6_readPart
theorem tX6_readPart_0 : tX6_readPart 0 = oAl 0 1 := (congrFun teX6_readPart 0).trans rfl
theorem tX6_readPart_1 : tX6_readPart 1 = oCallV 6 mX6_sign 0 4 := (congrFun teX6_readPart 1).trans rfl
theorem tX6_readPart_4 : tX6_readPart 4 = oIs 2 5 := (congrFun teX6_readPart 4).trans rfl
theorem tX6_readPart_5 : tX6_readPart 5 = oIl 2 6 := (congrFun teX6_readPart 5).trans rfl
theorem tX6_readPart_6 : tX6_readPart 6 = oCallS mX6_isLetter 1 9 := (congrFun teX6_readPart 6).trans rfl
theorem tX6_readPart_9 : tX6_readPart 9 = oIf1eq 36 12 := (congrFun teX6_readPart 9).trans rfl
theorem tX6_readPart_12 : tX6_readPart 12 = oAl 0 13 := (congrFun teX6_readPart 12).trans rfl
theorem tX6_readPart_13 : tX6_readPart 13 = oDup 14 := (congrFun teX6_readPart 13).trans rfl
theorem tX6_readPart_14 : tX6_readPart 14 = oGet 6 5 17 := (congrFun teX6_readPart 14).trans rfl
theorem tX6_readPart_17 : tX6_readPart 17 = oK (.int (nI 1)) 18 := (congrFun teX6_readPart 17).trans rfl
theorem tX6_readPart_18 : tX6_readPart 18 = oAdd 19 := (congrFun teX6_readPart 18).trans rfl
theorem tX6_readPart_19 : tX6_readPart 19 = oPutI 6 5 22 := (congrFun teX6_readPart 19).trans rfl
theorem tX6_readPart_22 : tX6_readPart 22 = oAl 0 23 := (congrFun teX6_readPart 22).trans rfl
theorem tX6_readPart_23 : tX6_readPart 23 = oGet 6 2 26 := (congrFun teX6_readPart 23).trans rfl
theorem tX6_readPart_26 : tX6_readPart 26 = oK (.int (nI 0)) 27 := (congrFun teX6_readPart 26).trans rfl
theorem tX6_readPart_27 : tX6_readPart 27 = oIl 2 28 := (congrFun teX6_readPart 27).trans rfl
theorem tX6_readPart_28 : tX6_readPart 28 = oK (.int (nI 97)) 30 := (congrFun teX6_readPart 28).trans rfl
theorem tX6_readPart_30 : tX6_readPart 30 = oSub 31 := (congrFun teX6_readPart 30).trans rfl
theorem tX6_readPart_31 : tX6_readPart 31 = oK (.int (nI 0)) 32 := (congrFun teX6_readPart 31).trans rfl
theorem tX6_readPart_32 : tX6_readPart 32 = oCallV 4 mX4_add 3 35 := (congrFun teX6_readPart 32).trans rfl
theorem tX6_readPart_35 : tX6_readPart 35 = oIret := (congrFun teX6_readPart 35).trans rfl
theorem tX6_readPart_36 : tX6_readPart 36 = oIl 2 37 := (congrFun teX6_readPart 36).trans rfl
theorem tX6_readPart_37 : tX6_readPart 37 = oK (.int (nI 91)) 39 := (congrFun teX6_readPart 37).trans rfl
theorem tX6_readPart_39 : tX6_readPart 39 = oIf2ne 57 42 := (congrFun teX6_readPart 39).trans rfl
theorem tX6_readPart_42 : tX6_readPart 42 = oAl 0 43 := (congrFun teX6_readPart 42).trans rfl
theorem tX6_readPart_43 : tX6_readPart 43 = oDup 44 := (congrFun teX6_readPart 43).trans rfl
theorem tX6_readPart_44 : tX6_readPart 44 = oGet 6 5 47 := (congrFun teX6_readPart 44).trans rfl
theorem tX6_readPart_47 : tX6_readPart 47 = oK (.int (nI 1)) 48 := (congrFun teX6_readPart 47).trans rfl
theorem tX6_readPart_48 : tX6_readPart 48 = oAdd 49 := (congrFun teX6_readPart 48).trans rfl
theorem tX6_readPart_49 : tX6_readPart 49 = oPutI 6 5 52 := (congrFun teX6_readPart 49).trans rfl
theorem tX6_readPart_52 : tX6_readPart 52 = oAl 0 53 := (congrFun teX6_readPart 52).trans rfl
theorem tX6_readPart_53 : tX6_readPart 53 = oCallV 6 mX6_readClass 0 56 := (congrFun teX6_readPart 53).trans rfl
theorem tX6_readPart_56 : tX6_readPart 56 = oIret := (congrFun teX6_readPart 56).trans rfl
theorem tX6_readPart_57 : tX6_readPart 57 = oIl 2 58 := (congrFun teX6_readPart 57).trans rfl
theorem tX6_readPart_58 : tX6_readPart 58 = oK (.int (nI 40)) 60 := (congrFun teX6_readPart 58).trans rfl
theorem tX6_readPart_60 : tX6_readPart 60 = oIf2ne 69 63 := (congrFun teX6_readPart 60).trans rfl
theorem tX6_readPart_63 : tX6_readPart 63 = oIl 1 64 := (congrFun teX6_readPart 63).trans rfl
theorem tX6_readPart_64 : tX6_readPart 64 = oK (.int (nI 6)) 66 := (congrFun teX6_readPart 64).trans rfl
theorem tX6_readPart_66 : tX6_readPart 66 = oIf2lt 71 69 := (congrFun teX6_readPart 66).trans rfl
theorem tX6_readPart_69 : tX6_readPart 69 = oK (.int (-1)) 70 := (congrFun teX6_readPart 69).trans rfl
theorem tX6_readPart_70 : tX6_readPart 70 = oIret := (congrFun teX6_readPart 70).trans rfl
theorem tX6_readPart_71 : tX6_readPart 71 = oAl 0 72 := (congrFun teX6_readPart 71).trans rfl
theorem tX6_readPart_72 : tX6_readPart 72 = oDup 73 := (congrFun teX6_readPart 72).trans rfl
theorem tX6_readPart_73 : tX6_readPart 73 = oGet 6 5 76 := (congrFun teX6_readPart 73).trans rfl
theorem tX6_readPart_76 : tX6_readPart 76 = oK (.int (nI 1)) 77 := (congrFun teX6_readPart 76).trans rfl
theorem tX6_readPart_77 : tX6_readPart 77 = oAdd 78 := (congrFun teX6_readPart 77).trans rfl
theorem tX6_readPart_78 : tX6_readPart 78 = oPutI 6 5 81 := (congrFun teX6_readPart 78).trans rfl
theorem tX6_readPart_81 : tX6_readPart 81 = oAl 0 82 := (congrFun teX6_readPart 81).trans rfl
theorem tX6_readPart_82 : tX6_readPart 82 = oIl 1 83 := (congrFun teX6_readPart 82).trans rfl
theorem tX6_readPart_83 : tX6_readPart 83 = oK (.int (nI 1)) 84 := (congrFun teX6_readPart 83).trans rfl
theorem tX6_readPart_84 : tX6_readPart 84 = oAdd 85 := (congrFun teX6_readPart 84).trans rfl
theorem tX6_readPart_85 : tX6_readPart 85 = oCallV 6 mX6_readChoice 1 88 := (congrFun teX6_readPart 85).trans rfl
theorem tX6_readPart_88 : tX6_readPart 88 = oIs 3 89 := (congrFun teX6_readPart 88).trans rfl
theorem tX6_readPart_89 : tX6_readPart 89 = oIl 3 90 := (congrFun teX6_readPart 89).trans rfl
theorem tX6_readPart_90 : tX6_readPart 90 = oIf1lt 102 93 := (congrFun teX6_readPart 90).trans rfl
theorem tX6_readPart_93 : tX6_readPart 93 = oAl 0 94 := (congrFun teX6_readPart 93).trans rfl
theorem tX6_readPart_94 : tX6_readPart 94 = oCallV 6 mX6_sign 0 97 := (congrFun teX6_readPart 94).trans rfl
theorem tX6_readPart_97 : tX6_readPart 97 = oK (.int (nI 41)) 99 := (congrFun teX6_readPart 97).trans rfl
theorem tX6_readPart_99 : tX6_readPart 99 = oIf2eq 104 102 := (congrFun teX6_readPart 99).trans rfl
theorem tX6_readPart_102 : tX6_readPart 102 = oK (.int (-1)) 103 := (congrFun teX6_readPart 102).trans rfl
theorem tX6_readPart_103 : tX6_readPart 103 = oIret := (congrFun teX6_readPart 103).trans rfl
theorem tX6_readPart_104 : tX6_readPart 104 = oAl 0 105 := (congrFun teX6_readPart 104).trans rfl
theorem tX6_readPart_105 : tX6_readPart 105 = oDup 106 := (congrFun teX6_readPart 105).trans rfl
theorem tX6_readPart_106 : tX6_readPart 106 = oGet 6 5 109 := (congrFun teX6_readPart 106).trans rfl
theorem tX6_readPart_109 : tX6_readPart 109 = oK (.int (nI 1)) 110 := (congrFun teX6_readPart 109).trans rfl
theorem tX6_readPart_110 : tX6_readPart 110 = oAdd 111 := (congrFun teX6_readPart 110).trans rfl
theorem tX6_readPart_111 : tX6_readPart 111 = oPutI 6 5 114 := (congrFun teX6_readPart 111).trans rfl
theorem tX6_readPart_114 : tX6_readPart 114 = oIl 3 115 := (congrFun teX6_readPart 114).trans rfl
theorem tX6_readPart_115 : tX6_readPart 115 = oIret := (congrFun teX6_readPart 115).trans rfl
def lX6_readClass : List (Nat × qP) := [(0, oK (.int (nI 0)) 1), (1, oIs 1 2), (2, oK (.int (nI 0)) 3), (3, oIs 2 4), (4, oIl 2 5), (5, oK (.int (nI 3)) 6), (6, oIf2ge 42 9), (9, oAl 0 10), (10, oCallV 6 mX6_sign 0 13), (13, oK (.int (nI 97)) 15), (15, oIl 2 16), (16, oAdd 17), (17, oIf2ne 36 20), (20, oIl 1 21), (21, oK (.int (nI 1)) 22), (22, oIl 2 23), (23, oShl 24), (24, oOr 25), (25, oIs 1 26), (26, oAl 0 27), (27, oDup 28), (28, oGet 6 5 31), (31, oK (.int (nI 1)) 32), (32, oAdd 33), (33, oPutI 6 5 36), (36, oInc 2 (nI 1) 39), (39, oGo 4), (42, oIl 1 43), (43, oIf1eq 55 46), (46, oAl 0 47), (47, oCallV 6 mX6_sign 0 50), (50, oK (.int (nI 93)) 52), (52, oIf2eq 57 55), (55, oK (.int (-1)) 56), (56, oIret), (57, oAl 0 58), (58, oDup 59), (59, oGet 6 5 62), (62, oK (.int (nI 1)) 63), (63, oAdd 64), (64, oPutI 6 5 67), (67, oAl 0 68), (68, oGet 6 2 71), (71, oK (.int (nI 1)) 72), (72, oIl 1 73), (73, oK (.int (nI 0)) 74), (74, oCallV 4 mX4_add 3 77), (77, oIret)]
def uX6_readClass : Nat → qP := q_tb lX6_readClass
set_option maxRecDepth 20000 in
theorem suX6_readClass : q_Snd mX6_readClass uX6_readClass := by
  refine q_tb_ok ?_
  unfold lX6_readClass
  refine q_fa (ok_iconst (by decide +kernel : decode cX6_readClass 0 = .ok (.iconst 0, 1)) rfl (by decide +kernel)) ?_
  refine q_fa (ok_istore_n (by decide +kernel : decode cX6_readClass 1 = .ok (.istore_n 1, 1)) rfl rfl (by decide)) ?_
  refine q_fa (ok_iconst (by decide +kernel : decode cX6_readClass 2 = .ok (.iconst 0, 1)) rfl (by decide +kernel)) ?_
  refine q_fa (ok_istore_n (by decide +kernel : decode cX6_readClass 3 = .ok (.istore_n 2, 1)) rfl rfl (by decide)) ?_
  refine q_fa (ok_iload_n (by decide +kernel : decode cX6_readClass 4 = .ok (.iload_n 2, 1)) rfl rfl) ?_
  refine q_fa (ok_iconst (by decide +kernel : decode cX6_readClass 5 = .ok (.iconst 3, 1)) rfl (by decide +kernel)) ?_
  refine q_fa (ok_if2ge (by decide +kernel : decode cX6_readClass 6 = .ok (.if_icmp .ge 36, 3)) (by decide) rfl) ?_
  refine q_fa (ok_aload_n (by decide +kernel : decode cX6_readClass 9 = .ok (.aload_n 0, 1)) rfl rfl) ?_
  refine q_fa (ok_callV (by decide +kernel : decode cX6_readClass 10 = .ok (.invokevirtual 53, 3)) rfl kX6_sign.1 kX6_sign.2.1 kX6_sign.2.2.1 kX6_sign.2.2.2.1 kX6_sign.2.2.2.2 (rfl : vwCl[6]? = some (RX6, TX6, 7)) g258 gs6 g256) ?_
  refine q_fa (ok_bipush (by decide +kernel : decode cX6_readClass 13 = .ok (.bipush 97, 2)) rfl (by decide +kernel)) ?_
  refine q_fa (ok_iload_n (by decide +kernel : decode cX6_readClass 15 = .ok (.iload_n 2, 1)) rfl rfl) ?_
  refine q_fa (ok_iadd (by decide +kernel : decode cX6_readClass 16 = .ok (.iadd, 1)) rfl) ?_
  refine q_fa (ok_if2ne (by decide +kernel : decode cX6_readClass 17 = .ok (.if_icmp .ne 19, 3)) (by decide) rfl) ?_
  refine q_fa (ok_iload_n (by decide +kernel : decode cX6_readClass 20 = .ok (.iload_n 1, 1)) rfl rfl) ?_
  refine q_fa (ok_iconst (by decide +kernel : decode cX6_readClass 21 = .ok (.iconst 1, 1)) rfl (by decide +kernel)) ?_
  refine q_fa (ok_iload_n (by decide +kernel : decode cX6_readClass 22 = .ok (.iload_n 2, 1)) rfl rfl) ?_
  refine q_fa (ok_ishl (by decide +kernel : decode cX6_readClass 23 = .ok (.ishl, 1)) rfl) ?_
  refine q_fa (ok_ior (by decide +kernel : decode cX6_readClass 24 = .ok (.ior, 1)) rfl) ?_
  refine q_fa (ok_istore_n (by decide +kernel : decode cX6_readClass 25 = .ok (.istore_n 1, 1)) rfl rfl (by decide)) ?_
  refine q_fa (ok_aload_n (by decide +kernel : decode cX6_readClass 26 = .ok (.aload_n 0, 1)) rfl rfl) ?_
  refine q_fa (ok_dup (by decide +kernel : decode cX6_readClass 27 = .ok (.dup, 1)) rfl) ?_
  refine q_fa (ok_get (by decide +kernel : decode cX6_readClass 28 = .ok (.getfield 31, 3)) rfl (rfl : vwCl[6]? = some (RX6, TX6, 7)) inX6 (by decide) g62) ?_
  refine q_fa (ok_iconst (by decide +kernel : decode cX6_readClass 31 = .ok (.iconst 1, 1)) rfl (by decide +kernel)) ?_
  refine q_fa (ok_iadd (by decide +kernel : decode cX6_readClass 32 = .ok (.iadd, 1)) rfl) ?_
  refine q_fa (ok_putI tyX6 (by decide +kernel : decode cX6_readClass 33 = .ok (.putfield 31, 3)) rfl (rfl : vwCl[6]? = some (RX6, TX6, 7)) inX6 tyX6_ok nmX6 (by decide) g62 (Or.inl rfl) (by decide +kernel)) ?_
  refine q_fa (ok_iinc (by decide +kernel : decode cX6_readClass 36 = .ok (.iinc 2 1, 3)) rfl (by decide +kernel) (by decide)) ?_
  refine q_fa (ok_goto (by decide +kernel : decode cX6_readClass 39 = .ok (.goto (-35), 3)) (by decide)) ?_
  refine q_fa (ok_iload_n (by decide +kernel : decode cX6_readClass 42 = .ok (.iload_n 1, 1)) rfl rfl) ?_
  refine q_fa (ok_if1eq (by decide +kernel : decode cX6_readClass 43 = .ok (.ifCond .eq 12, 3)) (by decide) rfl) ?_
  refine q_fa (ok_aload_n (by decide +kernel : decode cX6_readClass 46 = .ok (.aload_n 0, 1)) rfl rfl) ?_
  refine q_fa (ok_callV (by decide +kernel : decode cX6_readClass 47 = .ok (.invokevirtual 53, 3)) rfl kX6_sign.1 kX6_sign.2.1 kX6_sign.2.2.1 kX6_sign.2.2.2.1 kX6_sign.2.2.2.2 (rfl : vwCl[6]? = some (RX6, TX6, 7)) g258 gs6 g256) ?_
  refine q_fa (ok_bipush (by decide +kernel : decode cX6_readClass 50 = .ok (.bipush 93, 2)) rfl (by decide +kernel)) ?_
  refine q_fa (ok_if2eq (by decide +kernel : decode cX6_readClass 52 = .ok (.if_icmp .eq 5, 3)) (by decide) rfl) ?_
  refine q_fa (ok_iconst (by decide +kernel : decode cX6_readClass 55 = .ok (.iconst (-1), 1)) rfl (by decide +kernel)) ?_
  refine q_fa (ok_iret (by decide +kernel : decode cX6_readClass 56 = .ok (.ireturn, 1)) rfl) ?_
  refine q_fa (ok_aload_n (by decide +kernel : decode cX6_readClass 57 = .ok (.aload_n 0, 1)) rfl rfl) ?_
  refine q_fa (ok_dup (by decide +kernel : decode cX6_readClass 58 = .ok (.dup, 1)) rfl) ?_
  refine q_fa (ok_get (by decide +kernel : decode cX6_readClass 59 = .ok (.getfield 31, 3)) rfl (rfl : vwCl[6]? = some (RX6, TX6, 7)) inX6 (by decide) g62) ?_
  refine q_fa (ok_iconst (by decide +kernel : decode cX6_readClass 62 = .ok (.iconst 1, 1)) rfl (by decide +kernel)) ?_
  refine q_fa (ok_iadd (by decide +kernel : decode cX6_readClass 63 = .ok (.iadd, 1)) rfl) ?_
  refine q_fa (ok_putI tyX6 (by decide +kernel : decode cX6_readClass 64 = .ok (.putfield 31, 3)) rfl (rfl : vwCl[6]? = some (RX6, TX6, 7)) inX6 tyX6_ok nmX6 (by decide) g62 (Or.inl rfl) (by decide +kernel)) ?_
  refine q_fa (ok_aload_n (by decide +kernel : decode cX6_readClass 67 = .ok (.aload_n 0, 1)) rfl rfl) ?_
  refine q_fa (ok_get (by decide +kernel : decode cX6_readClass 68 = .ok (.getfield 20, 3)) rfl (rfl : vwCl[6]? = some (RX6, TX6, 7)) inX6 (by decide) g59) ?_
  refine q_fa (ok_iconst (by decide +kernel : decode cX6_readClass 71 = .ok (.iconst 1, 1)) rfl (by decide +kernel)) ?_
  refine q_fa (ok_iload_n (by decide +kernel : decode cX6_readClass 72 = .ok (.iload_n 1, 1)) rfl rfl) ?_
  refine q_fa (ok_iconst (by decide +kernel : decode cX6_readClass 73 = .ok (.iconst 0, 1)) rfl (by decide +kernel)) ?_
  refine q_fa (ok_callV (by decide +kernel : decode cX6_readClass 74 = .ok (.invokevirtual 63, 3)) rfl kX4_add.1 kX4_add.2.1 kX4_add.2.2.1 kX4_add.2.2.2.1 kX4_add.2.2.2.2 (rfl : vwCl[4]? = some (RX4, TX4, 4)) g264 g265 g263) ?_
  refine q_fa (ok_iret (by decide +kernel : decode cX6_readClass 77 = .ok (.ireturn, 1)) rfl) ?_
  exact q_fa0
theorem exX6_readClass : ∃ t : Nat → qP, t = uX6_readClass := ⟨_, rfl⟩
noncomputable def tX6_readClass : Nat → qP := Classical.choose exX6_readClass
theorem teX6_readClass : tX6_readClass = uX6_readClass := Classical.choose_spec exX6_readClass
theorem sX6_readClass : q_Snd mX6_readClass tX6_readClass := by rw [teX6_readClass]; exact suX6_readClass
theorem tX6_readClass_0 : tX6_readClass 0 = oK (.int (nI 0)) 1 := (congrFun teX6_readClass 0).trans rfl
theorem tX6_readClass_1 : tX6_readClass 1 = oIs 1 2 := (congrFun teX6_readClass 1).trans rfl
theorem tX6_readClass_2 : tX6_readClass 2 = oK (.int (nI 0)) 3 := (congrFun teX6_readClass 2).trans rfl
theorem tX6_readClass_3 : tX6_readClass 3 = oIs 2 4 := (congrFun teX6_readClass 3).trans rfl
theorem tX6_readClass_4 : tX6_readClass 4 = oIl 2 5 := (congrFun teX6_readClass 4).trans rfl
theorem tX6_readClass_5 : tX6_readClass 5 = oK (.int (nI 3)) 6 := (congrFun teX6_readClass 5).trans rfl
theorem tX6_readClass_6 : tX6_readClass 6 = oIf2ge 42 9 := (congrFun teX6_readClass 6).trans rfl
theorem tX6_readClass_9 : tX6_readClass 9 = oAl 0 10 := (congrFun teX6_readClass 9).trans rfl
theorem tX6_readClass_10 : tX6_readClass 10 = oCallV 6 mX6_sign 0 13 := (congrFun teX6_readClass 10).trans rfl
theorem tX6_readClass_13 : tX6_readClass 13 = oK (.int (nI 97)) 15 := (congrFun teX6_readClass 13).trans rfl
theorem tX6_readClass_15 : tX6_readClass 15 = oIl 2 16 := (congrFun teX6_readClass 15).trans rfl
theorem tX6_readClass_16 : tX6_readClass 16 = oAdd 17 := (congrFun teX6_readClass 16).trans rfl
theorem tX6_readClass_17 : tX6_readClass 17 = oIf2ne 36 20 := (congrFun teX6_readClass 17).trans rfl
theorem tX6_readClass_20 : tX6_readClass 20 = oIl 1 21 := (congrFun teX6_readClass 20).trans rfl
theorem tX6_readClass_21 : tX6_readClass 21 = oK (.int (nI 1)) 22 := (congrFun teX6_readClass 21).trans rfl
theorem tX6_readClass_22 : tX6_readClass 22 = oIl 2 23 := (congrFun teX6_readClass 22).trans rfl
theorem tX6_readClass_23 : tX6_readClass 23 = oShl 24 := (congrFun teX6_readClass 23).trans rfl
theorem tX6_readClass_24 : tX6_readClass 24 = oOr 25 := (congrFun teX6_readClass 24).trans rfl
theorem tX6_readClass_25 : tX6_readClass 25 = oIs 1 26 := (congrFun teX6_readClass 25).trans rfl
theorem tX6_readClass_26 : tX6_readClass 26 = oAl 0 27 := (congrFun teX6_readClass 26).trans rfl
theorem tX6_readClass_27 : tX6_readClass 27 = oDup 28 := (congrFun teX6_readClass 27).trans rfl
theorem tX6_readClass_28 : tX6_readClass 28 = oGet 6 5 31 := (congrFun teX6_readClass 28).trans rfl
theorem tX6_readClass_31 : tX6_readClass 31 = oK (.int (nI 1)) 32 := (congrFun teX6_readClass 31).trans rfl
theorem tX6_readClass_32 : tX6_readClass 32 = oAdd 33 := (congrFun teX6_readClass 32).trans rfl
theorem tX6_readClass_33 : tX6_readClass 33 = oPutI 6 5 36 := (congrFun teX6_readClass 33).trans rfl
theorem tX6_readClass_36 : tX6_readClass 36 = oInc 2 (nI 1) 39 := (congrFun teX6_readClass 36).trans rfl
theorem tX6_readClass_39 : tX6_readClass 39 = oGo 4 := (congrFun teX6_readClass 39).trans rfl
theorem tX6_readClass_42 : tX6_readClass 42 = oIl 1 43 := (congrFun teX6_readClass 42).trans rfl
theorem tX6_readClass_43 : tX6_readClass 43 = oIf1eq 55 46 := (congrFun teX6_readClass 43).trans rfl
theorem tX6_readClass_46 : tX6_readClass 46 = oAl 0 47 := (congrFun teX6_readClass 46).trans rfl
theorem tX6_readClass_47 : tX6_readClass 47 = oCallV 6 mX6_sign 0 50 := (congrFun teX6_readClass 47).trans rfl
theorem tX6_readClass_50 : tX6_readClass 50 = oK (.int (nI 93)) 52 := (congrFun teX6_readClass 50).trans rfl
theorem tX6_readClass_52 : tX6_readClass 52 = oIf2eq 57 55 := (congrFun teX6_readClass 52).trans rfl
theorem tX6_readClass_55 : tX6_readClass 55 = oK (.int (-1)) 56 := (congrFun teX6_readClass 55).trans rfl
theorem tX6_readClass_56 : tX6_readClass 56 = oIret := (congrFun teX6_readClass 56).trans rfl
theorem tX6_readClass_57 : tX6_readClass 57 = oAl 0 58 := (congrFun teX6_readClass 57).trans rfl
theorem tX6_readClass_58 : tX6_readClass 58 = oDup 59 := (congrFun teX6_readClass 58).trans rfl
theorem tX6_readClass_59 : tX6_readClass 59 = oGet 6 5 62 := (congrFun teX6_readClass 59).trans rfl
theorem tX6_readClass_62 : tX6_readClass 62 = oK (.int (nI 1)) 63 := (congrFun teX6_readClass 62).trans rfl
theorem tX6_readClass_63 : tX6_readClass 63 = oAdd 64 := (congrFun teX6_readClass 63).trans rfl
theorem tX6_readClass_64 : tX6_readClass 64 = oPutI 6 5 67 := (congrFun teX6_readClass 64).trans rfl
theorem tX6_readClass_67 : tX6_readClass 67 = oAl 0 68 := (congrFun teX6_readClass 67).trans rfl
theorem tX6_readClass_68 : tX6_readClass 68 = oGet 6 2 71 := (congrFun teX6_readClass 68).trans rfl
theorem tX6_readClass_71 : tX6_readClass 71 = oK (.int (nI 1)) 72 := (congrFun teX6_readClass 71).trans rfl
theorem tX6_readClass_72 : tX6_readClass 72 = oIl 1 73 := (congrFun teX6_readClass 72).trans rfl
theorem tX6_readClass_73 : tX6_readClass 73 = oK (.int (nI 0)) 74 := (congrFun teX6_readClass 73).trans rfl
theorem tX6_readClass_74 : tX6_readClass 74 = oCallV 4 mX4_add 3 77 := (congrFun teX6_readClass 74).trans rfl
theorem tX6_readClass_77 : tX6_readClass 77 = oIret := (congrFun teX6_readClass 77).trans rfl
def lX7_init : List (Nat × qP) := [(0, oAl 0 1), (1, oObj 4), (4, oAl 0 5), (5, oK (.int (nI 20)) 7), (7, oNewa 1 9), (9, oPutR 7 0 12), (12, oAl 0 13), (13, oK (.int (nI 20)) 15), (15, oNewa 1 17), (17, oPutR 7 1 20), (20, oAl 0 21), (21, oK (.int (nI 20)) 23), (23, oNewa 1 25), (25, oPutR 7 2 28), (28, oAl 0 29), (29, oK (.int (nI 20)) 31), (31, oNewa 1 33), (33, oPutR 7 3 36), (36, oVret)]
def uX7_init : Nat → qP := q_tb lX7_init
set_option maxRecDepth 20000 in
theorem suX7_init : q_Snd mX7_init uX7_init := by
  refine q_tb_ok ?_
  unfold lX7_init
  refine q_fa (ok_aload_n (by decide +kernel : decode cX7_init 0 = .ok (.aload_n 0, 1)) rfl rfl) ?_
  refine q_fa (ok_obj (by decide +kernel : decode cX7_init 1 = .ok (.invokespecial 3, 3)) rfl g157 g24 g25) ?_
  refine q_fa (ok_aload_n (by decide +kernel : decode cX7_init 4 = .ok (.aload_n 0, 1)) rfl rfl) ?_
  refine q_fa (ok_bipush (by decide +kernel : decode cX7_init 5 = .ok (.bipush 20, 2)) rfl (by decide +kernel)) ?_
  refine q_fa (ok_newa_int (by decide +kernel : decode cX7_init 7 = .ok (.newarray .int, 2)) rfl g56) ?_
  refine q_fa (ok_putR tyX7 (by decide +kernel : decode cX7_init 9 = .ok (.putfield 9, 3)) rfl (rfl : vwCl[7]? = some (RX7, TX7, 6)) inX7 tyX7_ok nmX7 (by decide) g158 (Or.inr ⟨rfl, rfl, rfl⟩) (by decide +kernel : parseFieldDescriptor (TX7 0).2.2.1 = some (tyX7 0)) (q_rfA _)) ?_
  refine q_fa (ok_aload_n (by decide +kernel : decode cX7_init 12 = .ok (.aload_n 0, 1)) rfl rfl) ?_
  refine q_fa (ok_bipush (by decide +kernel : decode cX7_init 13 = .ok (.bipush 20, 2)) rfl (by decide +kernel)) ?_
  refine q_fa (ok_newa_int (by decide +kernel : decode cX7_init 15 = .ok (.newarray .int, 2)) rfl g56) ?_
  refine q_fa (ok_putR tyX7 (by decide +kernel : decode cX7_init 17 = .ok (.putfield 15, 3)) rfl (rfl : vwCl[7]? = some (RX7, TX7, 6)) inX7 tyX7_ok nmX7 (by decide) g159 (Or.inr ⟨rfl, rfl, rfl⟩) (by decide +kernel : parseFieldDescriptor (TX7 1).2.2.1 = some (tyX7 1)) (q_rfA _)) ?_
  refine q_fa (ok_aload_n (by decide +kernel : decode cX7_init 20 = .ok (.aload_n 0, 1)) rfl rfl) ?_
  refine q_fa (ok_bipush (by decide +kernel : decode cX7_init 21 = .ok (.bipush 20, 2)) rfl (by decide +kernel)) ?_
  refine q_fa (ok_newa_int (by decide +kernel : decode cX7_init 23 = .ok (.newarray .int, 2)) rfl g56) ?_
  refine q_fa (ok_putR tyX7 (by decide +kernel : decode cX7_init 25 = .ok (.putfield 18, 3)) rfl (rfl : vwCl[7]? = some (RX7, TX7, 6)) inX7 tyX7_ok nmX7 (by decide) g160 (Or.inr ⟨rfl, rfl, rfl⟩) (by decide +kernel : parseFieldDescriptor (TX7 2).2.2.1 = some (tyX7 2)) (q_rfA _)) ?_
  refine q_fa (ok_aload_n (by decide +kernel : decode cX7_init 28 = .ok (.aload_n 0, 1)) rfl rfl) ?_
  refine q_fa (ok_bipush (by decide +kernel : decode cX7_init 29 = .ok (.bipush 20, 2)) rfl (by decide +kernel)) ?_
  refine q_fa (ok_newa_int (by decide +kernel : decode cX7_init 31 = .ok (.newarray .int, 2)) rfl g56) ?_
  refine q_fa (ok_putR tyX7 (by decide +kernel : decode cX7_init 33 = .ok (.putfield 21, 3)) rfl (rfl : vwCl[7]? = some (RX7, TX7, 6)) inX7 tyX7_ok nmX7 (by decide) g161 (Or.inr ⟨rfl, rfl, rfl⟩) (by decide +kernel : parseFieldDescriptor (TX7 3).2.2.1 = some (tyX7 3)) (q_rfA _)) ?_
  refine q_fa (ok_vret (by decide +kernel : decode cX7_init 36 = .ok (.return_, 1)) rfl) ?_
  exact q_fa0
theorem exX7_init : ∃ t : Nat → qP, t = uX7_init := ⟨_, rfl⟩
noncomputable def tX7_init : Nat → qP := Classical.choose exX7_init
theorem teX7_init : tX7_init = uX7_init := Classical.choose_spec exX7_init
theorem sX7_init : q_Snd mX7_init tX7_init := by rw [teX7_init]; exact suX7_init
theorem tX7_init_0 : tX7_init 0 = oAl 0 1 := (congrFun teX7_init 0).trans rfl
theorem tX7_init_1 : tX7_init 1 = oObj 4 := (congrFun teX7_init 1).trans rfl
theorem tX7_init_4 : tX7_init 4 = oAl 0 5 := (congrFun teX7_init 4).trans rfl
theorem tX7_init_5 : tX7_init 5 = oK (.int (nI 20)) 7 := (congrFun teX7_init 5).trans rfl
theorem tX7_init_7 : tX7_init 7 = oNewa 1 9 := (congrFun teX7_init 7).trans rfl
theorem tX7_init_9 : tX7_init 9 = oPutR 7 0 12 := (congrFun teX7_init 9).trans rfl
theorem tX7_init_12 : tX7_init 12 = oAl 0 13 := (congrFun teX7_init 12).trans rfl
theorem tX7_init_13 : tX7_init 13 = oK (.int (nI 20)) 15 := (congrFun teX7_init 13).trans rfl
theorem tX7_init_15 : tX7_init 15 = oNewa 1 17 := (congrFun teX7_init 15).trans rfl
theorem tX7_init_17 : tX7_init 17 = oPutR 7 1 20 := (congrFun teX7_init 17).trans rfl
theorem tX7_init_20 : tX7_init 20 = oAl 0 21 := (congrFun teX7_init 20).trans rfl
theorem tX7_init_21 : tX7_init 21 = oK (.int (nI 20)) 23 := (congrFun teX7_init 21).trans rfl
theorem tX7_init_23 : tX7_init 23 = oNewa 1 25 := (congrFun teX7_init 23).trans rfl
theorem tX7_init_25 : tX7_init 25 = oPutR 7 2 28 := (congrFun teX7_init 25).trans rfl
theorem tX7_init_28 : tX7_init 28 = oAl 0 29 := (congrFun teX7_init 28).trans rfl
theorem tX7_init_29 : tX7_init 29 = oK (.int (nI 20)) 31 := (congrFun teX7_init 29).trans rfl
theorem tX7_init_31 : tX7_init 31 = oNewa 1 33 := (congrFun teX7_init 31).trans rfl
theorem tX7_init_33 : tX7_init 33 = oPutR 7 3 36 := (congrFun teX7_init 33).trans rfl
theorem tX7_init_36 : tX7_init 36 = oVret := (congrFun teX7_init 36).trans rfl
def lX7_size : List (Nat × qP) := [(0, oAl 0 1), (1, oGet 7 4 4), (4, oIret)]
def uX7_size : Nat → qP := q_tb lX7_size
set_option maxRecDepth 20000 in
theorem suX7_size : q_Snd mX7_size uX7_size := by
  refine q_tb_ok ?_
  unfold lX7_size
  refine q_fa (ok_aload_n (by decide +kernel : decode cX7_size 0 = .ok (.aload_n 0, 1)) rfl rfl) ?_
  refine q_fa (ok_get (by decide +kernel : decode cX7_size 1 = .ok (.getfield 24, 3)) rfl (rfl : vwCl[7]? = some (RX7, TX7, 6)) inX7 (by decide) g162) ?_
  refine q_fa (ok_iret (by decide +kernel : decode cX7_size 4 = .ok (.ireturn, 1)) rfl) ?_
  exact q_fa0
theorem exX7_size : ∃ t : Nat → qP, t = uX7_size := ⟨_, rfl⟩
noncomputable def tX7_size : Nat → qP := Classical.choose exX7_size
theorem teX7_size : tX7_size = uX7_size := Classical.choose_spec exX7_size
theorem sX7_size : q_Snd mX7_size tX7_size := by rw [teX7_size]; exact suX7_size
theorem tX7_size_0 : tX7_size 0 = oAl 0 1 := (congrFun teX7_size 0).trans rfl
theorem tX7_size_1 : tX7_size 1 = oGet 7 4 4 := (congrFun teX7_size 1).trans rfl
theorem tX7_size_4 : tX7_size 4 = oIret := (congrFun teX7_size 4).trans rfl
def lX7_has : List (Nat × qP) := [(0, oIl 1 1), (1, oIf1lt 22 4), (4, oIl 1 5), (5, oAl 0 6), (6, oGet 7 4 9), (9, oIf2ge 22 12), (12, oIl 1 13), (13, oK (.int (nI 20)) 15), (15, oIf2ge 22 18), (18, oK (.int (nI 1)) 19), (19, oGo 23), (22, oK (.int (nI 0)) 23), (23, oZret)]
def uX7_has : Nat → qP := q_tb lX7_has
set_option maxRecDepth 20000 in
theorem suX7_has : q_Snd mX7_has uX7_has := by
  refine q_tb_ok ?_
  unfold lX7_has
  refine q_fa (ok_iload_n (by decide +kernel : decode cX7_has 0 = .ok (.iload_n 1, 1)) rfl rfl) ?_
  refine q_fa (ok_if1lt (by decide +kernel : decode cX7_has 1 = .ok (.ifCond .lt 21, 3)) (by decide) rfl) ?_
  refine q_fa (ok_iload_n (by decide +kernel : decode cX7_has 4 = .ok (.iload_n 1, 1)) rfl rfl) ?_
  refine q_fa (ok_aload_n (by decide +kernel : decode cX7_has 5 = .ok (.aload_n 0, 1)) rfl rfl) ?_
  refine q_fa (ok_get (by decide +kernel : decode cX7_has 6 = .ok (.getfield 24, 3)) rfl (rfl : vwCl[7]? = some (RX7, TX7, 6)) inX7 (by decide) g162) ?_
  refine q_fa (ok_if2ge (by decide +kernel : decode cX7_has 9 = .ok (.if_icmp .ge 13, 3)) (by decide) rfl) ?_
  refine q_fa (ok_iload_n (by decide +kernel : decode cX7_has 12 = .ok (.iload_n 1, 1)) rfl rfl) ?_
  refine q_fa (ok_bipush (by decide +kernel : decode cX7_has 13 = .ok (.bipush 20, 2)) rfl (by decide +kernel)) ?_
  refine q_fa (ok_if2ge (by decide +kernel : decode cX7_has 15 = .ok (.if_icmp .ge 7, 3)) (by decide) rfl) ?_
  refine q_fa (ok_iconst (by decide +kernel : decode cX7_has 18 = .ok (.iconst 1, 1)) rfl (by decide +kernel)) ?_
  refine q_fa (ok_goto (by decide +kernel : decode cX7_has 19 = .ok (.goto 4, 3)) (by decide)) ?_
  refine q_fa (ok_iconst (by decide +kernel : decode cX7_has 22 = .ok (.iconst 0, 1)) rfl (by decide +kernel)) ?_
  refine q_fa (ok_zret (by decide +kernel : decode cX7_has 23 = .ok (.ireturn, 1)) rfl) ?_
  exact q_fa0
theorem exX7_has : ∃ t : Nat → qP, t = uX7_has := ⟨_, rfl⟩
noncomputable def tX7_has : Nat → qP := Classical.choose exX7_has
theorem teX7_has : tX7_has = uX7_has := Classical.choose_spec exX7_has
theorem sX7_has : q_Snd mX7_has tX7_has := by rw [teX7_has]; exact suX7_has
theorem tX7_has_0 : tX7_has 0 = oIl 1 1 := (congrFun teX7_has 0).trans rfl
theorem tX7_has_1 : tX7_has 1 = oIf1lt 22 4 := (congrFun teX7_has 1).trans rfl
theorem tX7_has_4 : tX7_has 4 = oIl 1 5 := (congrFun teX7_has 4).trans rfl
theorem tX7_has_5 : tX7_has 5 = oAl 0 6 := (congrFun teX7_has 5).trans rfl
theorem tX7_has_6 : tX7_has 6 = oGet 7 4 9 := (congrFun teX7_has 6).trans rfl
theorem tX7_has_9 : tX7_has 9 = oIf2ge 22 12 := (congrFun teX7_has 9).trans rfl
theorem tX7_has_12 : tX7_has 12 = oIl 1 13 := (congrFun teX7_has 12).trans rfl
theorem tX7_has_13 : tX7_has 13 = oK (.int (nI 20)) 15 := (congrFun teX7_has 13).trans rfl
theorem tX7_has_15 : tX7_has 15 = oIf2ge 22 18 := (congrFun teX7_has 15).trans rfl
theorem tX7_has_18 : tX7_has 18 = oK (.int (nI 1)) 19 := (congrFun teX7_has 18).trans rfl
theorem tX7_has_19 : tX7_has 19 = oGo 23 := (congrFun teX7_has 19).trans rfl
theorem tX7_has_22 : tX7_has 22 = oK (.int (nI 0)) 23 := (congrFun teX7_has 22).trans rfl
theorem tX7_has_23 : tX7_has 23 = oZret := (congrFun teX7_has 23).trans rfl
def lX7_add : List (Nat × qP) := [(0, oAl 0 1), (1, oGet 7 4 4), (4, oK (.int (nI 20)) 6), (6, oIf2lt 12 9), (9, oK (.int (-3)) 11), (11, oIret), (12, oAl 0 13), (13, oGet 7 0 16), (16, oAl 0 17), (17, oGet 7 4 20), (20, oIl 1 21), (21, oIast 22), (22, oAl 0 23), (23, oGet 7 1 26), (26, oAl 0 27), (27, oGet 7 4 30), (30, oIl 2 31), (31, oIast 32), (32, oAl 0 33), (33, oGet 7 2 36), (36, oAl 0 37), (37, oGet 7 4 40), (40, oIl 3 41), (41, oIast 42), (42, oAl 0 43), (43, oGet 7 3 46), (46, oAl 0 47), (47, oGet 7 4 50), (50, oIl 4 52), (52, oIast 53), (53, oAl 0 54), (54, oDup 55), (55, oGet 7 4 58), (58, oK (.int (nI 1)) 59), (59, oAdd 60), (60, oPutI 7 4 63), (63, oAl 0 64), (64, oGet 7 4 67), (67, oK (.int (nI 1)) 68), (68, oSub 69), (69, oIret)]
def uX7_add : Nat → qP := q_tb lX7_add
set_option maxRecDepth 20000 in
theorem suX7_add : q_Snd mX7_add uX7_add := by
  refine q_tb_ok ?_
  unfold lX7_add
  refine q_fa (ok_aload_n (by decide +kernel : decode cX7_add 0 = .ok (.aload_n 0, 1)) rfl rfl) ?_
  refine q_fa (ok_get (by decide +kernel : decode cX7_add 1 = .ok (.getfield 24, 3)) rfl (rfl : vwCl[7]? = some (RX7, TX7, 6)) inX7 (by decide) g162) ?_
  refine q_fa (ok_bipush (by decide +kernel : decode cX7_add 4 = .ok (.bipush 20, 2)) rfl (by decide +kernel)) ?_
  refine q_fa (ok_if2lt (by decide +kernel : decode cX7_add 6 = .ok (.if_icmp .lt 6, 3)) (by decide) rfl) ?_
  refine q_fa (ok_bipush (by decide +kernel : decode cX7_add 9 = .ok (.bipush (-3), 2)) rfl (by decide +kernel)) ?_
  refine q_fa (ok_iret (by decide +kernel : decode cX7_add 11 = .ok (.ireturn, 1)) rfl) ?_
  refine q_fa (ok_aload_n (by decide +kernel : decode cX7_add 12 = .ok (.aload_n 0, 1)) rfl rfl) ?_
  refine q_fa (ok_get (by decide +kernel : decode cX7_add 13 = .ok (.getfield 9, 3)) rfl (rfl : vwCl[7]? = some (RX7, TX7, 6)) inX7 (by decide) g158) ?_
  refine q_fa (ok_aload_n (by decide +kernel : decode cX7_add 16 = .ok (.aload_n 0, 1)) rfl rfl) ?_
  refine q_fa (ok_get (by decide +kernel : decode cX7_add 17 = .ok (.getfield 24, 3)) rfl (rfl : vwCl[7]? = some (RX7, TX7, 6)) inX7 (by decide) g162) ?_
  refine q_fa (ok_iload_n (by decide +kernel : decode cX7_add 20 = .ok (.iload_n 1, 1)) rfl rfl) ?_
  refine q_fa (ok_iastore (by decide +kernel : decode cX7_add 21 = .ok (.iastore, 1)) rfl) ?_
  refine q_fa (ok_aload_n (by decide +kernel : decode cX7_add 22 = .ok (.aload_n 0, 1)) rfl rfl) ?_
  refine q_fa (ok_get (by decide +kernel : decode cX7_add 23 = .ok (.getfield 15, 3)) rfl (rfl : vwCl[7]? = some (RX7, TX7, 6)) inX7 (by decide) g159) ?_
  refine q_fa (ok_aload_n (by decide +kernel : decode cX7_add 26 = .ok (.aload_n 0, 1)) rfl rfl) ?_
  refine q_fa (ok_get (by decide +kernel : decode cX7_add 27 = .ok (.getfield 24, 3)) rfl (rfl : vwCl[7]? = some (RX7, TX7, 6)) inX7 (by decide) g162) ?_
  refine q_fa (ok_iload_n (by decide +kernel : decode cX7_add 30 = .ok (.iload_n 2, 1)) rfl rfl) ?_
  refine q_fa (ok_iastore (by decide +kernel : decode cX7_add 31 = .ok (.iastore, 1)) rfl) ?_
  refine q_fa (ok_aload_n (by decide +kernel : decode cX7_add 32 = .ok (.aload_n 0, 1)) rfl rfl) ?_
  refine q_fa (ok_get (by decide +kernel : decode cX7_add 33 = .ok (.getfield 18, 3)) rfl (rfl : vwCl[7]? = some (RX7, TX7, 6)) inX7 (by decide) g160) ?_
  refine q_fa (ok_aload_n (by decide +kernel : decode cX7_add 36 = .ok (.aload_n 0, 1)) rfl rfl) ?_
  refine q_fa (ok_get (by decide +kernel : decode cX7_add 37 = .ok (.getfield 24, 3)) rfl (rfl : vwCl[7]? = some (RX7, TX7, 6)) inX7 (by decide) g162) ?_
  refine q_fa (ok_iload_n (by decide +kernel : decode cX7_add 40 = .ok (.iload_n 3, 1)) rfl rfl) ?_
  refine q_fa (ok_iastore (by decide +kernel : decode cX7_add 41 = .ok (.iastore, 1)) rfl) ?_
  refine q_fa (ok_aload_n (by decide +kernel : decode cX7_add 42 = .ok (.aload_n 0, 1)) rfl rfl) ?_
  refine q_fa (ok_get (by decide +kernel : decode cX7_add 43 = .ok (.getfield 21, 3)) rfl (rfl : vwCl[7]? = some (RX7, TX7, 6)) inX7 (by decide) g161) ?_
  refine q_fa (ok_aload_n (by decide +kernel : decode cX7_add 46 = .ok (.aload_n 0, 1)) rfl rfl) ?_
  refine q_fa (ok_get (by decide +kernel : decode cX7_add 47 = .ok (.getfield 24, 3)) rfl (rfl : vwCl[7]? = some (RX7, TX7, 6)) inX7 (by decide) g162) ?_
  refine q_fa (ok_iload (by decide +kernel : decode cX7_add 50 = .ok (.iload 4, 2)) rfl) ?_
  refine q_fa (ok_iastore (by decide +kernel : decode cX7_add 52 = .ok (.iastore, 1)) rfl) ?_
  refine q_fa (ok_aload_n (by decide +kernel : decode cX7_add 53 = .ok (.aload_n 0, 1)) rfl rfl) ?_
  refine q_fa (ok_dup (by decide +kernel : decode cX7_add 54 = .ok (.dup, 1)) rfl) ?_
  refine q_fa (ok_get (by decide +kernel : decode cX7_add 55 = .ok (.getfield 24, 3)) rfl (rfl : vwCl[7]? = some (RX7, TX7, 6)) inX7 (by decide) g162) ?_
  refine q_fa (ok_iconst (by decide +kernel : decode cX7_add 58 = .ok (.iconst 1, 1)) rfl (by decide +kernel)) ?_
  refine q_fa (ok_iadd (by decide +kernel : decode cX7_add 59 = .ok (.iadd, 1)) rfl) ?_
  refine q_fa (ok_putI tyX7 (by decide +kernel : decode cX7_add 60 = .ok (.putfield 24, 3)) rfl (rfl : vwCl[7]? = some (RX7, TX7, 6)) inX7 tyX7_ok nmX7 (by decide) g162 (Or.inl rfl) (by decide +kernel)) ?_
  refine q_fa (ok_aload_n (by decide +kernel : decode cX7_add 63 = .ok (.aload_n 0, 1)) rfl rfl) ?_
  refine q_fa (ok_get (by decide +kernel : decode cX7_add 64 = .ok (.getfield 24, 3)) rfl (rfl : vwCl[7]? = some (RX7, TX7, 6)) inX7 (by decide) g162) ?_
  refine q_fa (ok_iconst (by decide +kernel : decode cX7_add 67 = .ok (.iconst 1, 1)) rfl (by decide +kernel)) ?_
  refine q_fa (ok_isub (by decide +kernel : decode cX7_add 68 = .ok (.isub, 1)) rfl) ?_
  refine q_fa (ok_iret (by decide +kernel : decode cX7_add 69 = .ok (.ireturn, 1)) rfl) ?_
  exact q_fa0
theorem exX7_add : ∃ t : Nat → qP, t = uX7_add := ⟨_, rfl⟩
noncomputable def tX7_add : Nat → qP := Classical.choose exX7_add
theorem teX7_add : tX7_add = uX7_add := Classical.choose_spec exX7_add
theorem sX7_add : q_Snd mX7_add tX7_add := by rw [teX7_add]; exact suX7_add
theorem tX7_add_0 : tX7_add 0 = oAl 0 1 := (congrFun teX7_add 0).trans rfl
theorem tX7_add_1 : tX7_add 1 = oGet 7 4 4 := (congrFun teX7_add 1).trans rfl
theorem tX7_add_4 : tX7_add 4 = oK (.int (nI 20)) 6 := (congrFun teX7_add 4).trans rfl
theorem tX7_add_6 : tX7_add 6 = oIf2lt 12 9 := (congrFun teX7_add 6).trans rfl
theorem tX7_add_9 : tX7_add 9 = oK (.int (-3)) 11 := (congrFun teX7_add 9).trans rfl
theorem tX7_add_11 : tX7_add 11 = oIret := (congrFun teX7_add 11).trans rfl
theorem tX7_add_12 : tX7_add 12 = oAl 0 13 := (congrFun teX7_add 12).trans rfl
theorem tX7_add_13 : tX7_add 13 = oGet 7 0 16 := (congrFun teX7_add 13).trans rfl
theorem tX7_add_16 : tX7_add 16 = oAl 0 17 := (congrFun teX7_add 16).trans rfl
theorem tX7_add_17 : tX7_add 17 = oGet 7 4 20 := (congrFun teX7_add 17).trans rfl
theorem tX7_add_20 : tX7_add 20 = oIl 1 21 := (congrFun teX7_add 20).trans rfl
theorem tX7_add_21 : tX7_add 21 = oIast 22 := (congrFun teX7_add 21).trans rfl
theorem tX7_add_22 : tX7_add 22 = oAl 0 23 := (congrFun teX7_add 22).trans rfl
theorem tX7_add_23 : tX7_add 23 = oGet 7 1 26 := (congrFun teX7_add 23).trans rfl
theorem tX7_add_26 : tX7_add 26 = oAl 0 27 := (congrFun teX7_add 26).trans rfl
theorem tX7_add_27 : tX7_add 27 = oGet 7 4 30 := (congrFun teX7_add 27).trans rfl
theorem tX7_add_30 : tX7_add 30 = oIl 2 31 := (congrFun teX7_add 30).trans rfl
theorem tX7_add_31 : tX7_add 31 = oIast 32 := (congrFun teX7_add 31).trans rfl
theorem tX7_add_32 : tX7_add 32 = oAl 0 33 := (congrFun teX7_add 32).trans rfl
theorem tX7_add_33 : tX7_add 33 = oGet 7 2 36 := (congrFun teX7_add 33).trans rfl
theorem tX7_add_36 : tX7_add 36 = oAl 0 37 := (congrFun teX7_add 36).trans rfl
theorem tX7_add_37 : tX7_add 37 = oGet 7 4 40 := (congrFun teX7_add 37).trans rfl
theorem tX7_add_40 : tX7_add 40 = oIl 3 41 := (congrFun teX7_add 40).trans rfl
theorem tX7_add_41 : tX7_add 41 = oIast 42 := (congrFun teX7_add 41).trans rfl
theorem tX7_add_42 : tX7_add 42 = oAl 0 43 := (congrFun teX7_add 42).trans rfl
theorem tX7_add_43 : tX7_add 43 = oGet 7 3 46 := (congrFun teX7_add 43).trans rfl
theorem tX7_add_46 : tX7_add 46 = oAl 0 47 := (congrFun teX7_add 46).trans rfl
theorem tX7_add_47 : tX7_add 47 = oGet 7 4 50 := (congrFun teX7_add 47).trans rfl
theorem tX7_add_50 : tX7_add 50 = oIl 4 52 := (congrFun teX7_add 50).trans rfl
theorem tX7_add_52 : tX7_add 52 = oIast 53 := (congrFun teX7_add 52).trans rfl
theorem tX7_add_53 : tX7_add 53 = oAl 0 54 := (congrFun teX7_add 53).trans rfl
theorem tX7_add_54 : tX7_add 54 = oDup 55 := (congrFun teX7_add 54).trans rfl
theorem tX7_add_55 : tX7_add 55 = oGet 7 4 58 := (congrFun teX7_add 55).trans rfl
theorem tX7_add_58 : tX7_add 58 = oK (.int (nI 1)) 59 := (congrFun teX7_add 58).trans rfl
theorem tX7_add_59 : tX7_add 59 = oAdd 60 := (congrFun teX7_add 59).trans rfl
theorem tX7_add_60 : tX7_add 60 = oPutI 7 4 63 := (congrFun teX7_add 60).trans rfl
theorem tX7_add_63 : tX7_add 63 = oAl 0 64 := (congrFun teX7_add 63).trans rfl
theorem tX7_add_64 : tX7_add 64 = oGet 7 4 67 := (congrFun teX7_add 64).trans rfl
theorem tX7_add_67 : tX7_add 67 = oK (.int (nI 1)) 68 := (congrFun teX7_add 67).trans rfl
theorem tX7_add_68 : tX7_add 68 = oSub 69 := (congrFun teX7_add 68).trans rfl
theorem tX7_add_69 : tX7_add 69 = oIret := (congrFun teX7_add 69).trans rfl
def lX7_takeBack : List (Nat × qP) := [(0, oAl 0 1), (1, oGet 7 5 4), (4, oIl 1 5), (5, oShr 6), (6, oK (.int (nI 1)) 7), (7, oAnd 8), (8, oIs 3 9), (9, oAl 0 10), (10, oAl 0 11), (11, oGet 7 5 14), (14, oK (.int (nI 1)) 15), (15, oIl 1 16), (16, oShl 17), (17, oK (.int (-1)) 18), (18, oXor 19), (19, oAnd 20), (20, oIl 2 21), (21, oIl 1 22), (22, oShl 23), (23, oOr 24), (24, oPutI 7 5 27), (27, oIl 3 28), (28, oIret)]
def uX7_takeBack : Nat → qP := q_tb lX7_takeBack
set_option maxRecDepth 20000 in
theorem suX7_takeBack : q_Snd mX7_takeBack uX7_takeBack := by
  refine q_tb_ok ?_
  unfold lX7_takeBack
  refine q_fa (ok_aload_n (by decide +kernel : decode cX7_takeBack 0 = .ok (.aload_n 0, 1)) rfl rfl) ?_
  refine q_fa (ok_get (by decide +kernel : decode cX7_takeBack 1 = .ok (.getfield 28, 3)) rfl (rfl : vwCl[7]? = some (RX7, TX7, 6)) inX7 (by decide) g163) ?_
  refine q_fa (ok_iload_n (by decide +kernel : decode cX7_takeBack 4 = .ok (.iload_n 1, 1)) rfl rfl) ?_
  refine q_fa (ok_ishr (by decide +kernel : decode cX7_takeBack 5 = .ok (.ishr, 1)) rfl) ?_
  refine q_fa (ok_iconst (by decide +kernel : decode cX7_takeBack 6 = .ok (.iconst 1, 1)) rfl (by decide +kernel)) ?_
  refine q_fa (ok_iand (by decide +kernel : decode cX7_takeBack 7 = .ok (.iand, 1)) rfl) ?_
  refine q_fa (ok_istore_n (by decide +kernel : decode cX7_takeBack 8 = .ok (.istore_n 3, 1)) rfl rfl (by decide)) ?_
  refine q_fa (ok_aload_n (by decide +kernel : decode cX7_takeBack 9 = .ok (.aload_n 0, 1)) rfl rfl) ?_
  refine q_fa (ok_aload_n (by decide +kernel : decode cX7_takeBack 10 = .ok (.aload_n 0, 1)) rfl rfl) ?_
  refine q_fa (ok_get (by decide +kernel : decode cX7_takeBack 11 = .ok (.getfield 28, 3)) rfl (rfl : vwCl[7]? = some (RX7, TX7, 6)) inX7 (by decide) g163) ?_
  refine q_fa (ok_iconst (by decide +kernel : decode cX7_takeBack 14 = .ok (.iconst 1, 1)) rfl (by decide +kernel)) ?_
  refine q_fa (ok_iload_n (by decide +kernel : decode cX7_takeBack 15 = .ok (.iload_n 1, 1)) rfl rfl) ?_
  refine q_fa (ok_ishl (by decide +kernel : decode cX7_takeBack 16 = .ok (.ishl, 1)) rfl) ?_
  refine q_fa (ok_iconst (by decide +kernel : decode cX7_takeBack 17 = .ok (.iconst (-1), 1)) rfl (by decide +kernel)) ?_
  refine q_fa (ok_ixor (by decide +kernel : decode cX7_takeBack 18 = .ok (.ixor, 1)) rfl) ?_
  refine q_fa (ok_iand (by decide +kernel : decode cX7_takeBack 19 = .ok (.iand, 1)) rfl) ?_
  refine q_fa (ok_iload_n (by decide +kernel : decode cX7_takeBack 20 = .ok (.iload_n 2, 1)) rfl rfl) ?_
  refine q_fa (ok_iload_n (by decide +kernel : decode cX7_takeBack 21 = .ok (.iload_n 1, 1)) rfl rfl) ?_
  refine q_fa (ok_ishl (by decide +kernel : decode cX7_takeBack 22 = .ok (.ishl, 1)) rfl) ?_
  refine q_fa (ok_ior (by decide +kernel : decode cX7_takeBack 23 = .ok (.ior, 1)) rfl) ?_
  refine q_fa (ok_putI tyX7 (by decide +kernel : decode cX7_takeBack 24 = .ok (.putfield 28, 3)) rfl (rfl : vwCl[7]? = some (RX7, TX7, 6)) inX7 tyX7_ok nmX7 (by decide) g163 (Or.inl rfl) (by decide +kernel)) ?_
  refine q_fa (ok_iload_n (by decide +kernel : decode cX7_takeBack 27 = .ok (.iload_n 3, 1)) rfl rfl) ?_
  refine q_fa (ok_iret (by decide +kernel : decode cX7_takeBack 28 = .ok (.ireturn, 1)) rfl) ?_
  exact q_fa0
theorem exX7_takeBack : ∃ t : Nat → qP, t = uX7_takeBack := ⟨_, rfl⟩
noncomputable def tX7_takeBack : Nat → qP := Classical.choose exX7_takeBack
theorem teX7_takeBack : tX7_takeBack = uX7_takeBack := Classical.choose_spec exX7_takeBack
theorem sX7_takeBack : q_Snd mX7_takeBack tX7_takeBack := by rw [teX7_takeBack]; exact suX7_takeBack
theorem tX7_takeBack_0 : tX7_takeBack 0 = oAl 0 1 := (congrFun teX7_takeBack 0).trans rfl
theorem tX7_takeBack_1 : tX7_takeBack 1 = oGet 7 5 4 := (congrFun teX7_takeBack 1).trans rfl
theorem tX7_takeBack_4 : tX7_takeBack 4 = oIl 1 5 := (congrFun teX7_takeBack 4).trans rfl
theorem tX7_takeBack_5 : tX7_takeBack 5 = oShr 6 := (congrFun teX7_takeBack 5).trans rfl
theorem tX7_takeBack_6 : tX7_takeBack 6 = oK (.int (nI 1)) 7 := (congrFun teX7_takeBack 6).trans rfl
theorem tX7_takeBack_7 : tX7_takeBack 7 = oAnd 8 := (congrFun teX7_takeBack 7).trans rfl
theorem tX7_takeBack_8 : tX7_takeBack 8 = oIs 3 9 := (congrFun teX7_takeBack 8).trans rfl
theorem tX7_takeBack_9 : tX7_takeBack 9 = oAl 0 10 := (congrFun teX7_takeBack 9).trans rfl
theorem tX7_takeBack_10 : tX7_takeBack 10 = oAl 0 11 := (congrFun teX7_takeBack 10).trans rfl
theorem tX7_takeBack_11 : tX7_takeBack 11 = oGet 7 5 14 := (congrFun teX7_takeBack 11).trans rfl
theorem tX7_takeBack_14 : tX7_takeBack 14 = oK (.int (nI 1)) 15 := (congrFun teX7_takeBack 14).trans rfl
theorem tX7_takeBack_15 : tX7_takeBack 15 = oIl 1 16 := (congrFun teX7_takeBack 15).trans rfl
theorem tX7_takeBack_16 : tX7_takeBack 16 = oShl 17 := (congrFun teX7_takeBack 16).trans rfl
theorem tX7_takeBack_17 : tX7_takeBack 17 = oK (.int (-1)) 18 := (congrFun teX7_takeBack 17).trans rfl
theorem tX7_takeBack_18 : tX7_takeBack 18 = oXor 19 := (congrFun teX7_takeBack 18).trans rfl
theorem tX7_takeBack_19 : tX7_takeBack 19 = oAnd 20 := (congrFun teX7_takeBack 19).trans rfl
theorem tX7_takeBack_20 : tX7_takeBack 20 = oIl 2 21 := (congrFun teX7_takeBack 20).trans rfl
theorem tX7_takeBack_21 : tX7_takeBack 21 = oIl 1 22 := (congrFun teX7_takeBack 21).trans rfl
theorem tX7_takeBack_22 : tX7_takeBack 22 = oShl 23 := (congrFun teX7_takeBack 22).trans rfl
theorem tX7_takeBack_23 : tX7_takeBack 23 = oOr 24 := (congrFun teX7_takeBack 23).trans rfl
theorem tX7_takeBack_24 : tX7_takeBack 24 = oPutI 7 5 27 := (congrFun teX7_takeBack 24).trans rfl
theorem tX7_takeBack_27 : tX7_takeBack 27 = oIl 3 28 := (congrFun teX7_takeBack 27).trans rfl
theorem tX7_takeBack_28 : tX7_takeBack 28 = oIret := (congrFun teX7_takeBack 28).trans rfl
def lX7_standing : List (Nat × qP) := [(0, oK (.int (nI 1)) 1), (1, oAl 0 2), (2, oGet 7 4 5), (5, oShl 6), (6, oK (.int (nI 1)) 7), (7, oSub 8), (8, oAl 0 9), (9, oGet 7 5 12), (12, oK (.int (-1)) 13), (13, oXor 14), (14, oAnd 15), (15, oIret)]
def uX7_standing : Nat → qP := q_tb lX7_standing
set_option maxRecDepth 20000 in
theorem suX7_standing : q_Snd mX7_standing uX7_standing := by
  refine q_tb_ok ?_
  unfold lX7_standing
  refine q_fa (ok_iconst (by decide +kernel : decode cX7_standing 0 = .ok (.iconst 1, 1)) rfl (by decide +kernel)) ?_
  refine q_fa (ok_aload_n (by decide +kernel : decode cX7_standing 1 = .ok (.aload_n 0, 1)) rfl rfl) ?_
  refine q_fa (ok_get (by decide +kernel : decode cX7_standing 2 = .ok (.getfield 24, 3)) rfl (rfl : vwCl[7]? = some (RX7, TX7, 6)) inX7 (by decide) g162) ?_
  refine q_fa (ok_ishl (by decide +kernel : decode cX7_standing 5 = .ok (.ishl, 1)) rfl) ?_
  refine q_fa (ok_iconst (by decide +kernel : decode cX7_standing 6 = .ok (.iconst 1, 1)) rfl (by decide +kernel)) ?_
  refine q_fa (ok_isub (by decide +kernel : decode cX7_standing 7 = .ok (.isub, 1)) rfl) ?_
  refine q_fa (ok_aload_n (by decide +kernel : decode cX7_standing 8 = .ok (.aload_n 0, 1)) rfl rfl) ?_
  refine q_fa (ok_get (by decide +kernel : decode cX7_standing 9 = .ok (.getfield 28, 3)) rfl (rfl : vwCl[7]? = some (RX7, TX7, 6)) inX7 (by decide) g163) ?_
  refine q_fa (ok_iconst (by decide +kernel : decode cX7_standing 12 = .ok (.iconst (-1), 1)) rfl (by decide +kernel)) ?_
  refine q_fa (ok_ixor (by decide +kernel : decode cX7_standing 13 = .ok (.ixor, 1)) rfl) ?_
  refine q_fa (ok_iand (by decide +kernel : decode cX7_standing 14 = .ok (.iand, 1)) rfl) ?_
  refine q_fa (ok_iret (by decide +kernel : decode cX7_standing 15 = .ok (.ireturn, 1)) rfl) ?_
  exact q_fa0
theorem exX7_standing : ∃ t : Nat → qP, t = uX7_standing := ⟨_, rfl⟩
noncomputable def tX7_standing : Nat → qP := Classical.choose exX7_standing
theorem teX7_standing : tX7_standing = uX7_standing := Classical.choose_spec exX7_standing
theorem sX7_standing : q_Snd mX7_standing tX7_standing := by rw [teX7_standing]; exact suX7_standing
theorem tX7_standing_0 : tX7_standing 0 = oK (.int (nI 1)) 1 := (congrFun teX7_standing 0).trans rfl
theorem tX7_standing_1 : tX7_standing 1 = oAl 0 2 := (congrFun teX7_standing 1).trans rfl
theorem tX7_standing_2 : tX7_standing 2 = oGet 7 4 5 := (congrFun teX7_standing 2).trans rfl
theorem tX7_standing_5 : tX7_standing 5 = oShl 6 := (congrFun teX7_standing 5).trans rfl
theorem tX7_standing_6 : tX7_standing 6 = oK (.int (nI 1)) 7 := (congrFun teX7_standing 6).trans rfl
theorem tX7_standing_7 : tX7_standing 7 = oSub 8 := (congrFun teX7_standing 7).trans rfl
theorem tX7_standing_8 : tX7_standing 8 = oAl 0 9 := (congrFun teX7_standing 8).trans rfl
theorem tX7_standing_9 : tX7_standing 9 = oGet 7 5 12 := (congrFun teX7_standing 9).trans rfl
theorem tX7_standing_12 : tX7_standing 12 = oK (.int (-1)) 13 := (congrFun teX7_standing 12).trans rfl
theorem tX7_standing_13 : tX7_standing 13 = oXor 14 := (congrFun teX7_standing 13).trans rfl
theorem tX7_standing_14 : tX7_standing 14 = oAnd 15 := (congrFun teX7_standing 14).trans rfl
theorem tX7_standing_15 : tX7_standing 15 = oIret := (congrFun teX7_standing 15).trans rfl
def lX7_priceOf : List (Nat × qP) := [(0, oK (.int (nI 0)) 1), (1, oIs 2 2), (2, oK (.int (nI 0)) 3), (3, oIs 3 4), (4, oIl 3 5), (5, oAl 0 6), (6, oGet 7 4 9), (9, oIf2ge 42 12), (12, oIl 3 13), (13, oK (.int (nI 20)) 15), (15, oIf2ge 42 18), (18, oIl 1 19), (19, oIl 3 20), (20, oShr 21), (21, oK (.int (nI 1)) 22), (22, oAnd 23), (23, oK (.int (nI 1)) 24), (24, oIf2ne 36 27), (27, oIl 2 28), (28, oAl 0 29), (29, oGet 7 3 32), (32, oIl 3 33), (33, oIald 34), (34, oAdd 35), (35, oIs 2 36), (36, oInc 3 (nI 1) 39), (39, oGo 4), (42, oIl 2 43), (43, oIret)]
def uX7_priceOf : Nat → qP := q_tb lX7_priceOf
set_option maxRecDepth 20000 in
theorem suX7_priceOf : q_Snd mX7_priceOf uX7_priceOf := by
  refine q_tb_ok ?_
  unfold lX7_priceOf
  refine q_fa (ok_iconst (by decide +kernel : decode cX7_priceOf 0 = .ok (.iconst 0, 1)) rfl (by decide +kernel)) ?_
  refine q_fa (ok_istore_n (by decide +kernel : decode cX7_priceOf 1 = .ok (.istore_n 2, 1)) rfl rfl (by decide)) ?_
  refine q_fa (ok_iconst (by decide +kernel : decode cX7_priceOf 2 = .ok (.iconst 0, 1)) rfl (by decide +kernel)) ?_
  refine q_fa (ok_istore_n (by decide +kernel : decode cX7_priceOf 3 = .ok (.istore_n 3, 1)) rfl rfl (by decide)) ?_
  refine q_fa (ok_iload_n (by decide +kernel : decode cX7_priceOf 4 = .ok (.iload_n 3, 1)) rfl rfl) ?_
  refine q_fa (ok_aload_n (by decide +kernel : decode cX7_priceOf 5 = .ok (.aload_n 0, 1)) rfl rfl) ?_
  refine q_fa (ok_get (by decide +kernel : decode cX7_priceOf 6 = .ok (.getfield 24, 3)) rfl (rfl : vwCl[7]? = some (RX7, TX7, 6)) inX7 (by decide) g162) ?_
  refine q_fa (ok_if2ge (by decide +kernel : decode cX7_priceOf 9 = .ok (.if_icmp .ge 33, 3)) (by decide) rfl) ?_
  refine q_fa (ok_iload_n (by decide +kernel : decode cX7_priceOf 12 = .ok (.iload_n 3, 1)) rfl rfl) ?_
  refine q_fa (ok_bipush (by decide +kernel : decode cX7_priceOf 13 = .ok (.bipush 20, 2)) rfl (by decide +kernel)) ?_
  refine q_fa (ok_if2ge (by decide +kernel : decode cX7_priceOf 15 = .ok (.if_icmp .ge 27, 3)) (by decide) rfl) ?_
  refine q_fa (ok_iload_n (by decide +kernel : decode cX7_priceOf 18 = .ok (.iload_n 1, 1)) rfl rfl) ?_
  refine q_fa (ok_iload_n (by decide +kernel : decode cX7_priceOf 19 = .ok (.iload_n 3, 1)) rfl rfl) ?_
  refine q_fa (ok_ishr (by decide +kernel : decode cX7_priceOf 20 = .ok (.ishr, 1)) rfl) ?_
  refine q_fa (ok_iconst (by decide +kernel : decode cX7_priceOf 21 = .ok (.iconst 1, 1)) rfl (by decide +kernel)) ?_
  refine q_fa (ok_iand (by decide +kernel : decode cX7_priceOf 22 = .ok (.iand, 1)) rfl) ?_
  refine q_fa (ok_iconst (by decide +kernel : decode cX7_priceOf 23 = .ok (.iconst 1, 1)) rfl (by decide +kernel)) ?_
  refine q_fa (ok_if2ne (by decide +kernel : decode cX7_priceOf 24 = .ok (.if_icmp .ne 12, 3)) (by decide) rfl) ?_
  refine q_fa (ok_iload_n (by decide +kernel : decode cX7_priceOf 27 = .ok (.iload_n 2, 1)) rfl rfl) ?_
  refine q_fa (ok_aload_n (by decide +kernel : decode cX7_priceOf 28 = .ok (.aload_n 0, 1)) rfl rfl) ?_
  refine q_fa (ok_get (by decide +kernel : decode cX7_priceOf 29 = .ok (.getfield 21, 3)) rfl (rfl : vwCl[7]? = some (RX7, TX7, 6)) inX7 (by decide) g161) ?_
  refine q_fa (ok_iload_n (by decide +kernel : decode cX7_priceOf 32 = .ok (.iload_n 3, 1)) rfl rfl) ?_
  refine q_fa (ok_iaload (by decide +kernel : decode cX7_priceOf 33 = .ok (.iaload, 1)) rfl) ?_
  refine q_fa (ok_iadd (by decide +kernel : decode cX7_priceOf 34 = .ok (.iadd, 1)) rfl) ?_
  refine q_fa (ok_istore_n (by decide +kernel : decode cX7_priceOf 35 = .ok (.istore_n 2, 1)) rfl rfl (by decide)) ?_
  refine q_fa (ok_iinc (by decide +kernel : decode cX7_priceOf 36 = .ok (.iinc 3 1, 3)) rfl (by decide +kernel) (by decide)) ?_
  refine q_fa (ok_goto (by decide +kernel : decode cX7_priceOf 39 = .ok (.goto (-35), 3)) (by decide)) ?_
  refine q_fa (ok_iload_n (by decide +kernel : decode cX7_priceOf 42 = .ok (.iload_n 2, 1)) rfl rfl) ?_
  refine q_fa (ok_iret (by decide +kernel : decode cX7_priceOf 43 = .ok (.ireturn, 1)) rfl) ?_
  exact q_fa0
theorem exX7_priceOf : ∃ t : Nat → qP, t = uX7_priceOf := ⟨_, rfl⟩
noncomputable def tX7_priceOf : Nat → qP := Classical.choose exX7_priceOf
theorem teX7_priceOf : tX7_priceOf = uX7_priceOf := Classical.choose_spec exX7_priceOf
theorem sX7_priceOf : q_Snd mX7_priceOf tX7_priceOf := by rw [teX7_priceOf]; exact suX7_priceOf
theorem tX7_priceOf_0 : tX7_priceOf 0 = oK (.int (nI 0)) 1 := (congrFun teX7_priceOf 0).trans rfl
theorem tX7_priceOf_1 : tX7_priceOf 1 = oIs 2 2 := (congrFun teX7_priceOf 1).trans rfl
theorem tX7_priceOf_2 : tX7_priceOf 2 = oK (.int (nI 0)) 3 := (congrFun teX7_priceOf 2).trans rfl
theorem tX7_priceOf_3 : tX7_priceOf 3 = oIs 3 4 := (congrFun teX7_priceOf 3).trans rfl
theorem tX7_priceOf_4 : tX7_priceOf 4 = oIl 3 5 := (congrFun teX7_priceOf 4).trans rfl
theorem tX7_priceOf_5 : tX7_priceOf 5 = oAl 0 6 := (congrFun teX7_priceOf 5).trans rfl
theorem tX7_priceOf_6 : tX7_priceOf 6 = oGet 7 4 9 := (congrFun teX7_priceOf 6).trans rfl
theorem tX7_priceOf_9 : tX7_priceOf 9 = oIf2ge 42 12 := (congrFun teX7_priceOf 9).trans rfl
theorem tX7_priceOf_12 : tX7_priceOf 12 = oIl 3 13 := (congrFun teX7_priceOf 12).trans rfl
theorem tX7_priceOf_13 : tX7_priceOf 13 = oK (.int (nI 20)) 15 := (congrFun teX7_priceOf 13).trans rfl
theorem tX7_priceOf_15 : tX7_priceOf 15 = oIf2ge 42 18 := (congrFun teX7_priceOf 15).trans rfl
theorem tX7_priceOf_18 : tX7_priceOf 18 = oIl 1 19 := (congrFun teX7_priceOf 18).trans rfl
theorem tX7_priceOf_19 : tX7_priceOf 19 = oIl 3 20 := (congrFun teX7_priceOf 19).trans rfl
theorem tX7_priceOf_20 : tX7_priceOf 20 = oShr 21 := (congrFun teX7_priceOf 20).trans rfl
theorem tX7_priceOf_21 : tX7_priceOf 21 = oK (.int (nI 1)) 22 := (congrFun teX7_priceOf 21).trans rfl
theorem tX7_priceOf_22 : tX7_priceOf 22 = oAnd 23 := (congrFun teX7_priceOf 22).trans rfl
theorem tX7_priceOf_23 : tX7_priceOf 23 = oK (.int (nI 1)) 24 := (congrFun teX7_priceOf 23).trans rfl
theorem tX7_priceOf_24 : tX7_priceOf 24 = oIf2ne 36 27 := (congrFun teX7_priceOf 24).trans rfl
theorem tX7_priceOf_27 : tX7_priceOf 27 = oIl 2 28 := (congrFun teX7_priceOf 27).trans rfl
theorem tX7_priceOf_28 : tX7_priceOf 28 = oAl 0 29 := (congrFun teX7_priceOf 28).trans rfl
theorem tX7_priceOf_29 : tX7_priceOf 29 = oGet 7 3 32 := (congrFun teX7_priceOf 29).trans rfl
theorem tX7_priceOf_32 : tX7_priceOf 32 = oIl 3 33 := (congrFun teX7_priceOf 32).trans rfl
theorem tX7_priceOf_33 : tX7_priceOf 33 = oIald 34 := (congrFun teX7_priceOf 33).trans rfl
theorem tX7_priceOf_34 : tX7_priceOf 34 = oAdd 35 := (congrFun teX7_priceOf 34).trans rfl
theorem tX7_priceOf_35 : tX7_priceOf 35 = oIs 2 36 := (congrFun teX7_priceOf 35).trans rfl
theorem tX7_priceOf_36 : tX7_priceOf 36 = oInc 3 (nI 1) 39 := (congrFun teX7_priceOf 36).trans rfl
theorem tX7_priceOf_39 : tX7_priceOf 39 = oGo 4 := (congrFun teX7_priceOf 39).trans rfl
theorem tX7_priceOf_42 : tX7_priceOf 42 = oIl 2 43 := (congrFun teX7_priceOf 42).trans rfl
theorem tX7_priceOf_43 : tX7_priceOf 43 = oIret := (congrFun teX7_priceOf 43).trans rfl
def lX7_rowOf : List (Nat × qP) := [(0, oAl 0 1), (1, oIl 1 2), (2, oCallV 7 mX7_has 1 5), (5, oIf1eq 17 8), (8, oAl 0 9), (9, oGet 7 0 12), (12, oIl 1 13), (13, oIald 14), (14, oGo 18), (17, oK (.int (nI 1)) 18), (18, oIret)]
def uX7_rowOf : Nat → qP := q_tb lX7_rowOf
set_option maxRecDepth 20000 in
theorem suX7_rowOf : q_Snd mX7_rowOf uX7_rowOf := by
  refine q_tb_ok ?_
  unfold lX7_rowOf
  refine q_fa (ok_aload_n (by decide +kernel : decode cX7_rowOf 0 = .ok (.aload_n 0, 1)) rfl rfl) ?_
  refine q_fa (ok_iload_n (by decide +kernel : decode cX7_rowOf 1 = .ok (.iload_n 1, 1)) rfl rfl) ?_
  refine q_fa (ok_callV (by decide +kernel : decode cX7_rowOf 2 = .ok (.invokevirtual 31, 3)) rfl kX7_has.1 kX7_has.2.1 kX7_has.2.2.1 kX7_has.2.2.2.1 kX7_has.2.2.2.2 (rfl : vwCl[7]? = some (RX7, TX7, 6)) g632 g633 g651) ?_
  refine q_fa (ok_if1eq (by decide +kernel : decode cX7_rowOf 5 = .ok (.ifCond .eq 12, 3)) (by decide) rfl) ?_
  refine q_fa (ok_aload_n (by decide +kernel : decode cX7_rowOf 8 = .ok (.aload_n 0, 1)) rfl rfl) ?_
  refine q_fa (ok_get (by decide +kernel : decode cX7_rowOf 9 = .ok (.getfield 9, 3)) rfl (rfl : vwCl[7]? = some (RX7, TX7, 6)) inX7 (by decide) g158) ?_
  refine q_fa (ok_iload_n (by decide +kernel : decode cX7_rowOf 12 = .ok (.iload_n 1, 1)) rfl rfl) ?_
  refine q_fa (ok_iaload (by decide +kernel : decode cX7_rowOf 13 = .ok (.iaload, 1)) rfl) ?_
  refine q_fa (ok_goto (by decide +kernel : decode cX7_rowOf 14 = .ok (.goto 4, 3)) (by decide)) ?_
  refine q_fa (ok_iconst (by decide +kernel : decode cX7_rowOf 17 = .ok (.iconst 1, 1)) rfl (by decide +kernel)) ?_
  refine q_fa (ok_iret (by decide +kernel : decode cX7_rowOf 18 = .ok (.ireturn, 1)) rfl) ?_
  exact q_fa0
theorem exX7_rowOf : ∃ t : Nat → qP, t = uX7_rowOf := ⟨_, rfl⟩
noncomputable def tX7_rowOf : Nat → qP := Classical.choose exX7_rowOf
theorem teX7_rowOf : tX7_rowOf = uX7_rowOf := Classical.choose_spec exX7_rowOf
theorem sX7_rowOf : q_Snd mX7_rowOf tX7_rowOf := by rw [teX7_rowOf]; exact suX7_rowOf
theorem tX7_rowOf_0 : tX7_rowOf 0 = oAl 0 1 := (congrFun teX7_rowOf 0).trans rfl
theorem tX7_rowOf_1 : tX7_rowOf 1 = oIl 1 2 := (congrFun teX7_rowOf 1).trans rfl
theorem tX7_rowOf_2 : tX7_rowOf 2 = oCallV 7 mX7_has 1 5 := (congrFun teX7_rowOf 2).trans rfl
theorem tX7_rowOf_5 : tX7_rowOf 5 = oIf1eq 17 8 := (congrFun teX7_rowOf 5).trans rfl
theorem tX7_rowOf_8 : tX7_rowOf 8 = oAl 0 9 := (congrFun teX7_rowOf 8).trans rfl
theorem tX7_rowOf_9 : tX7_rowOf 9 = oGet 7 0 12 := (congrFun teX7_rowOf 9).trans rfl
theorem tX7_rowOf_12 : tX7_rowOf 12 = oIl 1 13 := (congrFun teX7_rowOf 12).trans rfl
theorem tX7_rowOf_13 : tX7_rowOf 13 = oIald 14 := (congrFun teX7_rowOf 13).trans rfl
theorem tX7_rowOf_14 : tX7_rowOf 14 = oGo 18 := (congrFun teX7_rowOf 14).trans rfl
theorem tX7_rowOf_17 : tX7_rowOf 17 = oK (.int (nI 1)) 18 := (congrFun teX7_rowOf 17).trans rfl
theorem tX7_rowOf_18 : tX7_rowOf 18 = oIret := (congrFun teX7_rowOf 18).trans rfl
def lX7_isSo : List (Nat × qP) := [(0, oAl 0 1), (1, oIl 1 2), (2, oCallV 7 mX7_has 1 5), (5, oIf1ne 10 8), (8, oK (.int (nI 0)) 9), (9, oZret), (10, oAl 0 11), (11, oGet 7 0 14), (14, oIl 1 15), (15, oIald 16), (16, oCallS mX11_lengthOf 1 19), (19, oIs 4 21), (21, oAl 0 22), (22, oGet 7 1 25), (25, oIl 1 26), (26, oIald 27), (27, oLook [(0, 52), (1, 68)] 76), (52, oLl 2 53), (53, oK (.int (nI 0)) 54), (54, oIl 4 56), (56, oCallS mX8_has 3 59), (59, oIf1ne 66 62), (62, oK (.int (nI 1)) 63), (63, oGo 67), (66, oK (.int (nI 0)) 67), (67, oZret), (68, oLl 2 69), (69, oK (.int (nI 0)) 70), (70, oIl 4 72), (72, oCallS mX8_has 3 75), (75, oZret), (76, oLl 2 77), (77, oIl 4 79), (79, oCallS mX8_partOut 2 82), (82, oAl 0 83), (83, oGet 7 2 86), (86, oIl 1 87), (87, oIald 88), (88, oIf2ne 95 91), (91, oK (.int (nI 1)) 92), (92, oGo 96), (95, oK (.int (nI 0)) 96), (96, oZret)]
def uX7_isSo : Nat → qP := q_tb lX7_isSo
set_option maxRecDepth 20000 in
theorem suX7_isSo : q_Snd mX7_isSo uX7_isSo := by
  refine q_tb_ok ?_
  unfold lX7_isSo
  refine q_fa (ok_aload_n (by decide +kernel : decode cX7_isSo 0 = .ok (.aload_n 0, 1)) rfl rfl) ?_
  refine q_fa (ok_iload_n (by decide +kernel : decode cX7_isSo 1 = .ok (.iload_n 1, 1)) rfl rfl) ?_
  refine q_fa (ok_callV (by decide +kernel : decode cX7_isSo 2 = .ok (.invokevirtual 31, 3)) rfl kX7_has.1 kX7_has.2.1 kX7_has.2.2.1 kX7_has.2.2.2.1 kX7_has.2.2.2.2 (rfl : vwCl[7]? = some (RX7, TX7, 6)) g632 g633 g651) ?_
  refine q_fa (ok_if1ne (by decide +kernel : decode cX7_isSo 5 = .ok (.ifCond .ne 5, 3)) (by decide) rfl) ?_
  refine q_fa (ok_iconst (by decide +kernel : decode cX7_isSo 8 = .ok (.iconst 0, 1)) rfl (by decide +kernel)) ?_
  refine q_fa (ok_zret (by decide +kernel : decode cX7_isSo 9 = .ok (.ireturn, 1)) rfl) ?_
  refine q_fa (ok_aload_n (by decide +kernel : decode cX7_isSo 10 = .ok (.aload_n 0, 1)) rfl rfl) ?_
  refine q_fa (ok_get (by decide +kernel : decode cX7_isSo 11 = .ok (.getfield 9, 3)) rfl (rfl : vwCl[7]? = some (RX7, TX7, 6)) inX7 (by decide) g158) ?_
  refine q_fa (ok_iload_n (by decide +kernel : decode cX7_isSo 14 = .ok (.iload_n 1, 1)) rfl rfl) ?_
  refine q_fa (ok_iaload (by decide +kernel : decode cX7_isSo 15 = .ok (.iaload, 1)) rfl) ?_
  refine q_fa (ok_callSN (by decide +kernel : decode cX7_isSo 16 = .ok (.invokestatic 35, 3)) rfl kX11_lengthOf.1 kX11_lengthOf.2.1 kX11_lengthOf.2.2.1 kX11_lengthOf.2.2.2.1 kX11_lengthOf.2.2.2.2 g487 gn695) ?_
  refine q_fa (ok_istore (by decide +kernel : decode cX7_isSo 19 = .ok (.istore 4, 2)) rfl (by decide)) ?_
  refine q_fa (ok_aload_n (by decide +kernel : decode cX7_isSo 21 = .ok (.aload_n 0, 1)) rfl rfl) ?_
  refine q_fa (ok_get (by decide +kernel : decode cX7_isSo 22 = .ok (.getfield 15, 3)) rfl (rfl : vwCl[7]? = some (RX7, TX7, 6)) inX7 (by decide) g159) ?_
  refine q_fa (ok_iload_n (by decide +kernel : decode cX7_isSo 25 = .ok (.iload_n 1, 1)) rfl rfl) ?_
  refine q_fa (ok_iaload (by decide +kernel : decode cX7_isSo 26 = .ok (.iaload, 1)) rfl) ?_
  refine q_fa (ok_lookup (by decide +kernel : decode cX7_isSo 27 = .ok (.lookupswitch 49 #[(0, 25), (1, 41)], 25)) (by decide) (by decide) (by decide) (by decide)) ?_
  refine q_fa (ok_lload_n (by decide +kernel : decode cX7_isSo 52 = .ok (.lload_n 2, 1)) rfl rfl) ?_
  refine q_fa (ok_iconst (by decide +kernel : decode cX7_isSo 53 = .ok (.iconst 0, 1)) rfl (by decide +kernel)) ?_
  refine q_fa (ok_iload (by decide +kernel : decode cX7_isSo 54 = .ok (.iload 4, 2)) rfl) ?_
  refine q_fa (ok_callS (by decide +kernel : decode cX7_isSo 56 = .ok (.invokestatic 39, 3)) rfl kX8_has.1 kX8_has.2.1 kX8_has.2.2.1 kX8_has.2.2.2.1 kX8_has.2.2.2.2 g697 g696) ?_
  refine q_fa (ok_if1ne (by decide +kernel : decode cX7_isSo 59 = .ok (.ifCond .ne 7, 3)) (by decide) rfl) ?_
  refine q_fa (ok_iconst (by decide +kernel : decode cX7_isSo 62 = .ok (.iconst 1, 1)) rfl (by decide +kernel)) ?_
  refine q_fa (ok_goto (by decide +kernel : decode cX7_isSo 63 = .ok (.goto 4, 3)) (by decide)) ?_
  refine q_fa (ok_iconst (by decide +kernel : decode cX7_isSo 66 = .ok (.iconst 0, 1)) rfl (by decide +kernel)) ?_
  refine q_fa (ok_zret (by decide +kernel : decode cX7_isSo 67 = .ok (.ireturn, 1)) rfl) ?_
  refine q_fa (ok_lload_n (by decide +kernel : decode cX7_isSo 68 = .ok (.lload_n 2, 1)) rfl rfl) ?_
  refine q_fa (ok_iconst (by decide +kernel : decode cX7_isSo 69 = .ok (.iconst 0, 1)) rfl (by decide +kernel)) ?_
  refine q_fa (ok_iload (by decide +kernel : decode cX7_isSo 70 = .ok (.iload 4, 2)) rfl) ?_
  refine q_fa (ok_callS (by decide +kernel : decode cX7_isSo 72 = .ok (.invokestatic 39, 3)) rfl kX8_has.1 kX8_has.2.1 kX8_has.2.2.1 kX8_has.2.2.2.1 kX8_has.2.2.2.2 g697 g696) ?_
  refine q_fa (ok_zret (by decide +kernel : decode cX7_isSo 75 = .ok (.ireturn, 1)) rfl) ?_
  refine q_fa (ok_lload_n (by decide +kernel : decode cX7_isSo 76 = .ok (.lload_n 2, 1)) rfl rfl) ?_
  refine q_fa (ok_iload (by decide +kernel : decode cX7_isSo 77 = .ok (.iload 4, 2)) rfl) ?_
  refine q_fa (ok_callS (by decide +kernel : decode cX7_isSo 79 = .ok (.invokestatic 44, 3)) rfl kX8_partOut.1 kX8_partOut.2.1 kX8_partOut.2.2.1 kX8_partOut.2.2.2.1 kX8_partOut.2.2.2.2 g700 g699) ?_
  refine q_fa (ok_aload_n (by decide +kernel : decode cX7_isSo 82 = .ok (.aload_n 0, 1)) rfl rfl) ?_
  refine q_fa (ok_get (by decide +kernel : decode cX7_isSo 83 = .ok (.getfield 18, 3)) rfl (rfl : vwCl[7]? = some (RX7, TX7, 6)) inX7 (by decide) g160) ?_
  refine q_fa (ok_iload_n (by decide +kernel : decode cX7_isSo 86 = .ok (.iload_n 1, 1)) rfl rfl) ?_
  refine q_fa (ok_iaload (by decide +kernel : decode cX7_isSo 87 = .ok (.iaload, 1)) rfl) ?_
  refine q_fa (ok_if2ne (by decide +kernel : decode cX7_isSo 88 = .ok (.if_icmp .ne 7, 3)) (by decide) rfl) ?_
  refine q_fa (ok_iconst (by decide +kernel : decode cX7_isSo 91 = .ok (.iconst 1, 1)) rfl (by decide +kernel)) ?_
  refine q_fa (ok_goto (by decide +kernel : decode cX7_isSo 92 = .ok (.goto 4, 3)) (by decide)) ?_
  refine q_fa (ok_iconst (by decide +kernel : decode cX7_isSo 95 = .ok (.iconst 0, 1)) rfl (by decide +kernel)) ?_
  refine q_fa (ok_zret (by decide +kernel : decode cX7_isSo 96 = .ok (.ireturn, 1)) rfl) ?_
  exact q_fa0
theorem exX7_isSo : ∃ t : Nat → qP, t = uX7_isSo := ⟨_, rfl⟩
noncomputable def tX7_isSo : Nat → qP := Classical.choose exX7_isSo
theorem teX7_isSo : tX7_isSo = uX7_isSo := Classical.choose_spec exX7_isSo
theorem sX7_isSo : q_Snd mX7_isSo tX7_isSo := by rw [teX7_isSo]; exact suX7_isSo
theorem tX7_isSo_0 : tX7_isSo 0 = oAl 0 1 := (congrFun teX7_isSo 0).trans rfl
theorem tX7_isSo_1 : tX7_isSo 1 = oIl 1 2 := (congrFun teX7_isSo 1).trans rfl
theorem tX7_isSo_2 : tX7_isSo 2 = oCallV 7 mX7_has 1 5 := (congrFun teX7_isSo 2).trans rfl
theorem tX7_isSo_5 : tX7_isSo 5 = oIf1ne 10 8 := (congrFun teX7_isSo 5).trans rfl
theorem tX7_isSo_8 : tX7_isSo 8 = oK (.int (nI 0)) 9 := (congrFun teX7_isSo 8).trans rfl
theorem tX7_isSo_9 : tX7_isSo 9 = oZret := (congrFun teX7_isSo 9).trans rfl
theorem tX7_isSo_10 : tX7_isSo 10 = oAl 0 11 := (congrFun teX7_isSo 10).trans rfl
theorem tX7_isSo_11 : tX7_isSo 11 = oGet 7 0 14 := (congrFun teX7_isSo 11).trans rfl
theorem tX7_isSo_14 : tX7_isSo 14 = oIl 1 15 := (congrFun teX7_isSo 14).trans rfl
theorem tX7_isSo_15 : tX7_isSo 15 = oIald 16 := (congrFun teX7_isSo 15).trans rfl
theorem tX7_isSo_16 : tX7_isSo 16 = oCallS mX11_lengthOf 1 19 := (congrFun teX7_isSo 16).trans rfl
theorem tX7_isSo_19 : tX7_isSo 19 = oIs 4 21 := (congrFun teX7_isSo 19).trans rfl
theorem tX7_isSo_21 : tX7_isSo 21 = oAl 0 22 := (congrFun teX7_isSo 21).trans rfl
theorem tX7_isSo_22 : tX7_isSo 22 = oGet 7 1 25 := (congrFun teX7_isSo 22).trans rfl
theorem tX7_isSo_25 : tX7_isSo 25 = oIl 1 26 := (congrFun teX7_isSo 25).trans rfl
theorem tX7_isSo_26 : tX7_isSo 26 = oIald 27 := (congrFun teX7_isSo 26).trans rfl
theorem tX7_isSo_27 : tX7_isSo 27 = oLook [(0, 52), (1, 68)] 76 := (congrFun teX7_isSo 27).trans rfl
theorem tX7_isSo_52 : tX7_isSo 52 = oLl 2 53 := (congrFun teX7_isSo 52).trans rfl
theorem tX7_isSo_53 : tX7_isSo 53 = oK (.int (nI 0)) 54 := (congrFun teX7_isSo 53).trans rfl
theorem tX7_isSo_54 : tX7_isSo 54 = oIl 4 56 := (congrFun teX7_isSo 54).trans rfl
theorem tX7_isSo_56 : tX7_isSo 56 = oCallS mX8_has 3 59 := (congrFun teX7_isSo 56).trans rfl
theorem tX7_isSo_59 : tX7_isSo 59 = oIf1ne 66 62 := (congrFun teX7_isSo 59).trans rfl
theorem tX7_isSo_62 : tX7_isSo 62 = oK (.int (nI 1)) 63 := (congrFun teX7_isSo 62).trans rfl
theorem tX7_isSo_63 : tX7_isSo 63 = oGo 67 := (congrFun teX7_isSo 63).trans rfl
theorem tX7_isSo_66 : tX7_isSo 66 = oK (.int (nI 0)) 67 := (congrFun teX7_isSo 66).trans rfl
theorem tX7_isSo_67 : tX7_isSo 67 = oZret := (congrFun teX7_isSo 67).trans rfl
theorem tX7_isSo_68 : tX7_isSo 68 = oLl 2 69 := (congrFun teX7_isSo 68).trans rfl
theorem tX7_isSo_69 : tX7_isSo 69 = oK (.int (nI 0)) 70 := (congrFun teX7_isSo 69).trans rfl
theorem tX7_isSo_70 : tX7_isSo 70 = oIl 4 72 := (congrFun teX7_isSo 70).trans rfl
theorem tX7_isSo_72 : tX7_isSo 72 = oCallS mX8_has 3 75 := (congrFun teX7_isSo 72).trans rfl
theorem tX7_isSo_75 : tX7_isSo 75 = oZret := (congrFun teX7_isSo 75).trans rfl
theorem tX7_isSo_76 : tX7_isSo 76 = oLl 2 77 := (congrFun teX7_isSo 76).trans rfl
theorem tX7_isSo_77 : tX7_isSo 77 = oIl 4 79 := (congrFun teX7_isSo 77).trans rfl
theorem tX7_isSo_79 : tX7_isSo 79 = oCallS mX8_partOut 2 82 := (congrFun teX7_isSo 79).trans rfl
theorem tX7_isSo_82 : tX7_isSo 82 = oAl 0 83 := (congrFun teX7_isSo 82).trans rfl
theorem tX7_isSo_83 : tX7_isSo 83 = oGet 7 2 86 := (congrFun teX7_isSo 83).trans rfl
theorem tX7_isSo_86 : tX7_isSo 86 = oIl 1 87 := (congrFun teX7_isSo 86).trans rfl
theorem tX7_isSo_87 : tX7_isSo 87 = oIald 88 := (congrFun teX7_isSo 87).trans rfl
theorem tX7_isSo_88 : tX7_isSo 88 = oIf2ne 95 91 := (congrFun teX7_isSo 88).trans rfl
theorem tX7_isSo_91 : tX7_isSo 91 = oK (.int (nI 1)) 92 := (congrFun teX7_isSo 91).trans rfl
theorem tX7_isSo_92 : tX7_isSo 92 = oGo 96 := (congrFun teX7_isSo 92).trans rfl
theorem tX7_isSo_95 : tX7_isSo 95 = oK (.int (nI 0)) 96 := (congrFun teX7_isSo 95).trans rfl
theorem tX7_isSo_96 : tX7_isSo 96 = oZret := (congrFun teX7_isSo 96).trans rfl
def lX8_init : List (Nat × qP) := [(0, oAl 0 1), (1, oObj 4), (4, oAl 0 5), (5, oK (.int (nI 3)) 6), (6, oNewa 2 8), (8, oPutR 8 1 11), (11, oAl 0 12), (12, oIl 1 13), (13, oK (.int (nI 0)) 14), (14, oMax 17), (17, oNewa 2 19), (19, oPutR 8 0 22), (22, oVret)]
def uX8_init : Nat → qP := q_tb lX8_init
set_option maxRecDepth 20000 in
theorem suX8_init : q_Snd mX8_init uX8_init := by
  refine q_tb_ok ?_
  unfold lX8_init
  refine q_fa (ok_aload_n (by decide +kernel : decode cX8_init 0 = .ok (.aload_n 0, 1)) rfl rfl) ?_
  refine q_fa (ok_obj (by decide +kernel : decode cX8_init 1 = .ok (.invokespecial 3, 3)) rfl g142 g24 g25) ?_
  refine q_fa (ok_aload_n (by decide +kernel : decode cX8_init 4 = .ok (.aload_n 0, 1)) rfl rfl) ?_
  refine q_fa (ok_iconst (by decide +kernel : decode cX8_init 5 = .ok (.iconst 3, 1)) rfl (by decide +kernel)) ?_
  refine q_fa (ok_newa_long (by decide +kernel : decode cX8_init 6 = .ok (.newarray .long, 2)) rfl g151) ?_
  refine q_fa (ok_putR tyX8 (by decide +kernel : decode cX8_init 8 = .ok (.putfield 9, 3)) rfl (rfl : vwCl[8]? = some (RX8, TX8, 2)) inX8 tyX8_ok nmX8 (by decide) g145 (Or.inr ⟨rfl, rfl, rfl⟩) (by decide +kernel : parseFieldDescriptor (TX8 1).2.2.1 = some (tyX8 1)) (q_rfA _)) ?_
  refine q_fa (ok_aload_n (by decide +kernel : decode cX8_init 11 = .ok (.aload_n 0, 1)) rfl rfl) ?_
  refine q_fa (ok_iload_n (by decide +kernel : decode cX8_init 12 = .ok (.iload_n 1, 1)) rfl rfl) ?_
  refine q_fa (ok_iconst (by decide +kernel : decode cX8_init 13 = .ok (.iconst 0, 1)) rfl (by decide +kernel)) ?_
  refine q_fa (ok_max (by decide +kernel : decode cX8_init 14 = .ok (.invokestatic 15, 3)) rfl g143 g41 g4 g42) ?_
  refine q_fa (ok_newa_long (by decide +kernel : decode cX8_init 17 = .ok (.newarray .long, 2)) rfl g151) ?_
  refine q_fa (ok_putR tyX8 (by decide +kernel : decode cX8_init 19 = .ok (.putfield 21, 3)) rfl (rfl : vwCl[8]? = some (RX8, TX8, 2)) inX8 tyX8_ok nmX8 (by decide) g144 (Or.inr ⟨rfl, rfl, rfl⟩) (by decide +kernel : parseFieldDescriptor (TX8 0).2.2.1 = some (tyX8 0)) (q_rfA _)) ?_
  refine q_fa (ok_vret (by decide +kernel : decode cX8_init 22 = .ok (.return_, 1)) rfl) ?_
  exact q_fa0
theorem exX8_init : ∃ t : Nat → qP, t = uX8_init := ⟨_, rfl⟩
noncomputable def tX8_init : Nat → qP := Classical.choose exX8_init
theorem teX8_init : tX8_init = uX8_init := Classical.choose_spec exX8_init
theorem sX8_init : q_Snd mX8_init tX8_init := by rw [teX8_init]; exact suX8_init
theorem tX8_init_0 : tX8_init 0 = oAl 0 1 := (congrFun teX8_init 0).trans rfl
theorem tX8_init_1 : tX8_init 1 = oObj 4 := (congrFun teX8_init 1).trans rfl
theorem tX8_init_4 : tX8_init 4 = oAl 0 5 := (congrFun teX8_init 4).trans rfl
theorem tX8_init_5 : tX8_init 5 = oK (.int (nI 3)) 6 := (congrFun teX8_init 5).trans rfl
theorem tX8_init_6 : tX8_init 6 = oNewa 2 8 := (congrFun teX8_init 6).trans rfl
theorem tX8_init_8 : tX8_init 8 = oPutR 8 1 11 := (congrFun teX8_init 8).trans rfl
theorem tX8_init_11 : tX8_init 11 = oAl 0 12 := (congrFun teX8_init 11).trans rfl
theorem tX8_init_12 : tX8_init 12 = oIl 1 13 := (congrFun teX8_init 12).trans rfl
theorem tX8_init_13 : tX8_init 13 = oK (.int (nI 0)) 14 := (congrFun teX8_init 13).trans rfl
theorem tX8_init_14 : tX8_init 14 = oMax 17 := (congrFun teX8_init 14).trans rfl
theorem tX8_init_17 : tX8_init 17 = oNewa 2 19 := (congrFun teX8_init 17).trans rfl
theorem tX8_init_19 : tX8_init 19 = oPutR 8 0 22 := (congrFun teX8_init 19).trans rfl
theorem tX8_init_22 : tX8_init 22 = oVret := (congrFun teX8_init 22).trans rfl
def lX8_lay : List (Nat × qP) := [(0, oAl 0 1), (1, oGet 8 1 4), (4, oK (.long 0) 5), (5, oCallS mJ7_fill_d0a16 2 8), (8, oK (.int (nI 0)) 9), (9, oIs 3 10), (10, oIl 3 11), (11, oIl 2 12), (12, oIf2ge 66 15), (15, oIl 3 16), (16, oK (.int (nI 6)) 18), (18, oIf2ge 66 21), (21, oIl 1 22), (22, oIl 2 23), (23, oIl 3 24), (24, oCallS mX11_letterAt 3 27), (27, oIs 4 29), (29, oIl 4 31), (31, oIf1lt 60 34), (34, oIl 4 36), (36, oK (.int (nI 3)) 37), (37, oIf2ge 60 40), (40, oAl 0 41), (41, oGet 8 1 44), (44, oIl 4 46), (46, oDup2 47), (47, oLald 48), (48, oK (.long 1) 49), (49, oK (.int (nI 8)) 51), (51, oIl 3 52), (52, oMul 53), (53, oIl 3 54), (54, oAdd 55), (55, oK (.int (nI 1)) 56), (56, oAdd 57), (57, oLshl 58), (58, oLor 59), (59, oLast 60), (60, oInc 3 (nI 1) 63), (63, oGo 10), (66, oVret)]
def uX8_lay : Nat → qP := q_tb lX8_lay
set_option maxRecDepth 20000 in
theorem suX8_lay : q_Snd mX8_lay uX8_lay := by
  refine q_tb_ok ?_
  unfold lX8_lay
  refine q_fa (ok_aload_n (by decide +kernel : decode cX8_lay 0 = .ok (.aload_n 0, 1)) rfl rfl) ?_
  refine q_fa (ok_get (by decide +kernel : decode cX8_lay 1 = .ok (.getfield 9, 3)) rfl (rfl : vwCl[8]? = some (RX8, TX8, 2)) inX8 (by decide) g145) ?_
  refine q_fa (ok_lconst (by decide +kernel : decode cX8_lay 4 = .ok (.lconst 0, 1)) rfl (by decide +kernel)) ?_
  refine q_fa (ok_callS (by decide +kernel : decode cX8_lay 5 = .ok (.invokestatic 24, 3)) rfl kJ7_fill_d0a16.1 kJ7_fill_d0a16.2.1 kJ7_fill_d0a16.2.2.1 kJ7_fill_d0a16.2.2.2.1 kJ7_fill_d0a16.2.2.2.2 g657 g656) ?_
  refine q_fa (ok_iconst (by decide +kernel : decode cX8_lay 8 = .ok (.iconst 0, 1)) rfl (by decide +kernel)) ?_
  refine q_fa (ok_istore_n (by decide +kernel : decode cX8_lay 9 = .ok (.istore_n 3, 1)) rfl rfl (by decide)) ?_
  refine q_fa (ok_iload_n (by decide +kernel : decode cX8_lay 10 = .ok (.iload_n 3, 1)) rfl rfl) ?_
  refine q_fa (ok_iload_n (by decide +kernel : decode cX8_lay 11 = .ok (.iload_n 2, 1)) rfl rfl) ?_
  refine q_fa (ok_if2ge (by decide +kernel : decode cX8_lay 12 = .ok (.if_icmp .ge 54, 3)) (by decide) rfl) ?_
  refine q_fa (ok_iload_n (by decide +kernel : decode cX8_lay 15 = .ok (.iload_n 3, 1)) rfl rfl) ?_
  refine q_fa (ok_bipush (by decide +kernel : decode cX8_lay 16 = .ok (.bipush 6, 2)) rfl (by decide +kernel)) ?_
  refine q_fa (ok_if2ge (by decide +kernel : decode cX8_lay 18 = .ok (.if_icmp .ge 48, 3)) (by decide) rfl) ?_
  refine q_fa (ok_iload_n (by decide +kernel : decode cX8_lay 21 = .ok (.iload_n 1, 1)) rfl rfl) ?_
  refine q_fa (ok_iload_n (by decide +kernel : decode cX8_lay 22 = .ok (.iload_n 2, 1)) rfl rfl) ?_
  refine q_fa (ok_iload_n (by decide +kernel : decode cX8_lay 23 = .ok (.iload_n 3, 1)) rfl rfl) ?_
  refine q_fa (ok_callSN (by decide +kernel : decode cX8_lay 24 = .ok (.invokestatic 30, 3)) rfl kX11_letterAt.1 kX11_letterAt.2.1 kX11_letterAt.2.2.1 kX11_letterAt.2.2.2.1 kX11_letterAt.2.2.2.2 g526 gn659) ?_
  refine q_fa (ok_istore (by decide +kernel : decode cX8_lay 27 = .ok (.istore 4, 2)) rfl (by decide)) ?_
  refine q_fa (ok_iload (by decide +kernel : decode cX8_lay 29 = .ok (.iload 4, 2)) rfl) ?_
  refine q_fa (ok_if1lt (by decide +kernel : decode cX8_lay 31 = .ok (.ifCond .lt 29, 3)) (by decide) rfl) ?_
  refine q_fa (ok_iload (by decide +kernel : decode cX8_lay 34 = .ok (.iload 4, 2)) rfl) ?_
  refine q_fa (ok_iconst (by decide +kernel : decode cX8_lay 36 = .ok (.iconst 3, 1)) rfl (by decide +kernel)) ?_
  refine q_fa (ok_if2ge (by decide +kernel : decode cX8_lay 37 = .ok (.if_icmp .ge 23, 3)) (by decide) rfl) ?_
  refine q_fa (ok_aload_n (by decide +kernel : decode cX8_lay 40 = .ok (.aload_n 0, 1)) rfl rfl) ?_
  refine q_fa (ok_get (by decide +kernel : decode cX8_lay 41 = .ok (.getfield 9, 3)) rfl (rfl : vwCl[8]? = some (RX8, TX8, 2)) inX8 (by decide) g145) ?_
  refine q_fa (ok_iload (by decide +kernel : decode cX8_lay 44 = .ok (.iload 4, 2)) rfl) ?_
  refine q_fa (ok_dup2 (by decide +kernel : decode cX8_lay 46 = .ok (.dup2, 1)) rfl) ?_
  refine q_fa (ok_laload (by decide +kernel : decode cX8_lay 47 = .ok (.laload, 1)) rfl) ?_
  refine q_fa (ok_lconst (by decide +kernel : decode cX8_lay 48 = .ok (.lconst 1, 1)) rfl (by decide +kernel)) ?_
  refine q_fa (ok_bipush (by decide +kernel : decode cX8_lay 49 = .ok (.bipush 8, 2)) rfl (by decide +kernel)) ?_
  refine q_fa (ok_iload_n (by decide +kernel : decode cX8_lay 51 = .ok (.iload_n 3, 1)) rfl rfl) ?_
  refine q_fa (ok_imul (by decide +kernel : decode cX8_lay 52 = .ok (.imul, 1)) rfl) ?_
  refine q_fa (ok_iload_n (by decide +kernel : decode cX8_lay 53 = .ok (.iload_n 3, 1)) rfl rfl) ?_
  refine q_fa (ok_iadd (by decide +kernel : decode cX8_lay 54 = .ok (.iadd, 1)) rfl) ?_
  refine q_fa (ok_iconst (by decide +kernel : decode cX8_lay 55 = .ok (.iconst 1, 1)) rfl (by decide +kernel)) ?_
  refine q_fa (ok_iadd (by decide +kernel : decode cX8_lay 56 = .ok (.iadd, 1)) rfl) ?_
  refine q_fa (ok_lshl (by decide +kernel : decode cX8_lay 57 = .ok (.lshl, 1)) rfl) ?_
  refine q_fa (ok_lor (by decide +kernel : decode cX8_lay 58 = .ok (.lor, 1)) rfl) ?_
  refine q_fa (ok_lastore (by decide +kernel : decode cX8_lay 59 = .ok (.lastore, 1)) rfl) ?_
  refine q_fa (ok_iinc (by decide +kernel : decode cX8_lay 60 = .ok (.iinc 3 1, 3)) rfl (by decide +kernel) (by decide)) ?_
  refine q_fa (ok_goto (by decide +kernel : decode cX8_lay 63 = .ok (.goto (-53), 3)) (by decide)) ?_
  refine q_fa (ok_vret (by decide +kernel : decode cX8_lay 66 = .ok (.return_, 1)) rfl) ?_
  exact q_fa0
theorem exX8_lay : ∃ t : Nat → qP, t = uX8_lay := ⟨_, rfl⟩
noncomputable def tX8_lay : Nat → qP := Classical.choose exX8_lay
theorem teX8_lay : tX8_lay = uX8_lay := Classical.choose_spec exX8_lay
theorem sX8_lay : q_Snd mX8_lay tX8_lay := by rw [teX8_lay]; exact suX8_lay
theorem tX8_lay_0 : tX8_lay 0 = oAl 0 1 := (congrFun teX8_lay 0).trans rfl
theorem tX8_lay_1 : tX8_lay 1 = oGet 8 1 4 := (congrFun teX8_lay 1).trans rfl
theorem tX8_lay_4 : tX8_lay 4 = oK (.long 0) 5 := (congrFun teX8_lay 4).trans rfl
theorem tX8_lay_5 : tX8_lay 5 = oCallS mJ7_fill_d0a16 2 8 := (congrFun teX8_lay 5).trans rfl
theorem tX8_lay_8 : tX8_lay 8 = oK (.int (nI 0)) 9 := (congrFun teX8_lay 8).trans rfl
theorem tX8_lay_9 : tX8_lay 9 = oIs 3 10 := (congrFun teX8_lay 9).trans rfl
theorem tX8_lay_10 : tX8_lay 10 = oIl 3 11 := (congrFun teX8_lay 10).trans rfl
theorem tX8_lay_11 : tX8_lay 11 = oIl 2 12 := (congrFun teX8_lay 11).trans rfl
theorem tX8_lay_12 : tX8_lay 12 = oIf2ge 66 15 := (congrFun teX8_lay 12).trans rfl
theorem tX8_lay_15 : tX8_lay 15 = oIl 3 16 := (congrFun teX8_lay 15).trans rfl
theorem tX8_lay_16 : tX8_lay 16 = oK (.int (nI 6)) 18 := (congrFun teX8_lay 16).trans rfl
theorem tX8_lay_18 : tX8_lay 18 = oIf2ge 66 21 := (congrFun teX8_lay 18).trans rfl
theorem tX8_lay_21 : tX8_lay 21 = oIl 1 22 := (congrFun teX8_lay 21).trans rfl
theorem tX8_lay_22 : tX8_lay 22 = oIl 2 23 := (congrFun teX8_lay 22).trans rfl
theorem tX8_lay_23 : tX8_lay 23 = oIl 3 24 := (congrFun teX8_lay 23).trans rfl
theorem tX8_lay_24 : tX8_lay 24 = oCallS mX11_letterAt 3 27 := (congrFun teX8_lay 24).trans rfl
theorem tX8_lay_27 : tX8_lay 27 = oIs 4 29 := (congrFun teX8_lay 27).trans rfl
theorem tX8_lay_29 : tX8_lay 29 = oIl 4 31 := (congrFun teX8_lay 29).trans rfl
theorem tX8_lay_31 : tX8_lay 31 = oIf1lt 60 34 := (congrFun teX8_lay 31).trans rfl
theorem tX8_lay_34 : tX8_lay 34 = oIl 4 36 := (congrFun teX8_lay 34).trans rfl
theorem tX8_lay_36 : tX8_lay 36 = oK (.int (nI 3)) 37 := (congrFun teX8_lay 36).trans rfl
theorem tX8_lay_37 : tX8_lay 37 = oIf2ge 60 40 := (congrFun teX8_lay 37).trans rfl
theorem tX8_lay_40 : tX8_lay 40 = oAl 0 41 := (congrFun teX8_lay 40).trans rfl
theorem tX8_lay_41 : tX8_lay 41 = oGet 8 1 44 := (congrFun teX8_lay 41).trans rfl
theorem tX8_lay_44 : tX8_lay 44 = oIl 4 46 := (congrFun teX8_lay 44).trans rfl
theorem tX8_lay_46 : tX8_lay 46 = oDup2 47 := (congrFun teX8_lay 46).trans rfl
theorem tX8_lay_47 : tX8_lay 47 = oLald 48 := (congrFun teX8_lay 47).trans rfl
theorem tX8_lay_48 : tX8_lay 48 = oK (.long 1) 49 := (congrFun teX8_lay 48).trans rfl
theorem tX8_lay_49 : tX8_lay 49 = oK (.int (nI 8)) 51 := (congrFun teX8_lay 49).trans rfl
theorem tX8_lay_51 : tX8_lay 51 = oIl 3 52 := (congrFun teX8_lay 51).trans rfl
theorem tX8_lay_52 : tX8_lay 52 = oMul 53 := (congrFun teX8_lay 52).trans rfl
theorem tX8_lay_53 : tX8_lay 53 = oIl 3 54 := (congrFun teX8_lay 53).trans rfl
theorem tX8_lay_54 : tX8_lay 54 = oAdd 55 := (congrFun teX8_lay 54).trans rfl
theorem tX8_lay_55 : tX8_lay 55 = oK (.int (nI 1)) 56 := (congrFun teX8_lay 55).trans rfl
theorem tX8_lay_56 : tX8_lay 56 = oAdd 57 := (congrFun teX8_lay 56).trans rfl
theorem tX8_lay_57 : tX8_lay 57 = oLshl 58 := (congrFun teX8_lay 57).trans rfl
theorem tX8_lay_58 : tX8_lay 58 = oLor 59 := (congrFun teX8_lay 58).trans rfl
theorem tX8_lay_59 : tX8_lay 59 = oLast 60 := (congrFun teX8_lay 59).trans rfl
theorem tX8_lay_60 : tX8_lay 60 = oInc 3 (nI 1) 63 := (congrFun teX8_lay 60).trans rfl
theorem tX8_lay_63 : tX8_lay 63 = oGo 10 := (congrFun teX8_lay 63).trans rfl
theorem tX8_lay_66 : tX8_lay 66 = oVret := (congrFun teX8_lay 66).trans rfl
def lX8_fill : List (Nat × qP) := [(0, oAl 1 1), (1, oCallV 4 mX4_size 0 4), (4, oAl 0 5), (5, oGet 8 0 8), (8, oAlen 9), (9, oMin 12), (12, oIs 2 13), (13, oK (.int (nI 0)) 14), (14, oIs 3 15), (15, oIl 3 16), (16, oIl 2 17), (17, oIf2ge 51 20), (20, oAl 0 21), (21, oGet 8 0 24), (24, oIl 3 25), (25, oAl 0 26), (26, oAl 1 27), (27, oIl 3 28), (28, oCallV 4 mX4_kindOf 1 31), (31, oAl 1 32), (32, oIl 3 33), (33, oCallV 4 mX4_leftOf 1 36), (36, oAl 1 37), (37, oIl 3 38), (38, oCallV 4 mX4_rightOf 1 41), (41, oCallV 8 mX8_spanOf 3 44), (44, oLast 45), (45, oInc 3 (nI 1) 48), (48, oGo 15), (51, oVret)]
def uX8_fill : Nat → qP := q_tb lX8_fill
set_option maxRecDepth 20000 in
theorem suX8_fill : q_Snd mX8_fill uX8_fill := by
  refine q_tb_ok ?_
  unfold lX8_fill
  refine q_fa (ok_aload_n (by decide +kernel : decode cX8_fill 0 = .ok (.aload_n 1, 1)) rfl rfl) ?_
  refine q_fa (ok_callV (by decide +kernel : decode cX8_fill 1 = .ok (.invokevirtual 34, 3)) rfl kX4_size.1 kX4_size.2.1 kX4_size.2.2.1 kX4_size.2.2.2.1 kX4_size.2.2.2.2 (rfl : vwCl[4]? = some (RX4, TX4, 4)) g307 g308 g664) ?_
  refine q_fa (ok_aload_n (by decide +kernel : decode cX8_fill 4 = .ok (.aload_n 0, 1)) rfl rfl) ?_
  refine q_fa (ok_get (by decide +kernel : decode cX8_fill 5 = .ok (.getfield 21, 3)) rfl (rfl : vwCl[8]? = some (RX8, TX8, 2)) inX8 (by decide) g144) ?_
  refine q_fa (ok_alen (by decide +kernel : decode cX8_fill 8 = .ok (.arraylength, 1)) rfl) ?_
  refine q_fa (ok_min (by decide +kernel : decode cX8_fill 9 = .ok (.invokestatic 40, 3)) rfl g665 g456 g4 g457) ?_
  refine q_fa (ok_istore_n (by decide +kernel : decode cX8_fill 12 = .ok (.istore_n 2, 1)) rfl rfl (by decide)) ?_
  refine q_fa (ok_iconst (by decide +kernel : decode cX8_fill 13 = .ok (.iconst 0, 1)) rfl (by decide +kernel)) ?_
  refine q_fa (ok_istore_n (by decide +kernel : decode cX8_fill 14 = .ok (.istore_n 3, 1)) rfl rfl (by decide)) ?_
  refine q_fa (ok_iload_n (by decide +kernel : decode cX8_fill 15 = .ok (.iload_n 3, 1)) rfl rfl) ?_
  refine q_fa (ok_iload_n (by decide +kernel : decode cX8_fill 16 = .ok (.iload_n 2, 1)) rfl rfl) ?_
  refine q_fa (ok_if2ge (by decide +kernel : decode cX8_fill 17 = .ok (.if_icmp .ge 34, 3)) (by decide) rfl) ?_
  refine q_fa (ok_aload_n (by decide +kernel : decode cX8_fill 20 = .ok (.aload_n 0, 1)) rfl rfl) ?_
  refine q_fa (ok_get (by decide +kernel : decode cX8_fill 21 = .ok (.getfield 21, 3)) rfl (rfl : vwCl[8]? = some (RX8, TX8, 2)) inX8 (by decide) g144) ?_
  refine q_fa (ok_iload_n (by decide +kernel : decode cX8_fill 24 = .ok (.iload_n 3, 1)) rfl rfl) ?_
  refine q_fa (ok_aload_n (by decide +kernel : decode cX8_fill 25 = .ok (.aload_n 0, 1)) rfl rfl) ?_
  refine q_fa (ok_aload_n (by decide +kernel : decode cX8_fill 26 = .ok (.aload_n 1, 1)) rfl rfl) ?_
  refine q_fa (ok_iload_n (by decide +kernel : decode cX8_fill 27 = .ok (.iload_n 3, 1)) rfl rfl) ?_
  refine q_fa (ok_callV (by decide +kernel : decode cX8_fill 28 = .ok (.invokevirtual 43, 3)) rfl kX4_kindOf.1 kX4_kindOf.2.1 kX4_kindOf.2.2.1 kX4_kindOf.2.2.2.1 kX4_kindOf.2.2.2.2 (rfl : vwCl[4]? = some (RX4, TX4, 4)) g287 g288 g666) ?_
  refine q_fa (ok_aload_n (by decide +kernel : decode cX8_fill 31 = .ok (.aload_n 1, 1)) rfl rfl) ?_
  refine q_fa (ok_iload_n (by decide +kernel : decode cX8_fill 32 = .ok (.iload_n 3, 1)) rfl rfl) ?_
  refine q_fa (ok_callV (by decide +kernel : decode cX8_fill 33 = .ok (.invokevirtual 47, 3)) rfl kX4_leftOf.1 kX4_leftOf.2.1 kX4_leftOf.2.2.1 kX4_leftOf.2.2.2.1 kX4_leftOf.2.2.2.2 (rfl : vwCl[4]? = some (RX4, TX4, 4)) g322 g323 g667) ?_
  refine q_fa (ok_aload_n (by decide +kernel : decode cX8_fill 36 = .ok (.aload_n 1, 1)) rfl rfl) ?_
  refine q_fa (ok_iload_n (by decide +kernel : decode cX8_fill 37 = .ok (.iload_n 3, 1)) rfl rfl) ?_
  refine q_fa (ok_callV (by decide +kernel : decode cX8_fill 38 = .ok (.invokevirtual 50, 3)) rfl kX4_rightOf.1 kX4_rightOf.2.1 kX4_rightOf.2.2.1 kX4_rightOf.2.2.2.1 kX4_rightOf.2.2.2.2 (rfl : vwCl[4]? = some (RX4, TX4, 4)) g291 g292 g668) ?_
  refine q_fa (ok_callV (by decide +kernel : decode cX8_fill 41 = .ok (.invokevirtual 53, 3)) rfl kX8_spanOf.1 kX8_spanOf.2.1 kX8_spanOf.2.2.1 kX8_spanOf.2.2.2.1 kX8_spanOf.2.2.2.2 (rfl : vwCl[8]? = some (RX8, TX8, 2)) g671 gs29 g669) ?_
  refine q_fa (ok_lastore (by decide +kernel : decode cX8_fill 44 = .ok (.lastore, 1)) rfl) ?_
  refine q_fa (ok_iinc (by decide +kernel : decode cX8_fill 45 = .ok (.iinc 3 1, 3)) rfl (by decide +kernel) (by decide)) ?_
  refine q_fa (ok_goto (by decide +kernel : decode cX8_fill 48 = .ok (.goto (-33), 3)) (by decide)) ?_
  refine q_fa (ok_vret (by decide +kernel : decode cX8_fill 51 = .ok (.return_, 1)) rfl) ?_
  exact q_fa0
theorem exX8_fill : ∃ t : Nat → qP, t = uX8_fill := ⟨_, rfl⟩
noncomputable def tX8_fill : Nat → qP := Classical.choose exX8_fill
theorem teX8_fill : tX8_fill = uX8_fill := Classical.choose_spec exX8_fill
theorem sX8_fill : q_Snd mX8_fill tX8_fill := by rw [teX8_fill]; exact suX8_fill
theorem tX8_fill_0 : tX8_fill 0 = oAl 1 1 := (congrFun teX8_fill 0).trans rfl
theorem tX8_fill_1 : tX8_fill 1 = oCallV 4 mX4_size 0 4 := (congrFun teX8_fill 1).trans rfl
theorem tX8_fill_4 : tX8_fill 4 = oAl 0 5 := (congrFun teX8_fill 4).trans rfl
theorem tX8_fill_5 : tX8_fill 5 = oGet 8 0 8 := (congrFun teX8_fill 5).trans rfl
theorem tX8_fill_8 : tX8_fill 8 = oAlen 9 := (congrFun teX8_fill 8).trans rfl
theorem tX8_fill_9 : tX8_fill 9 = oMin 12 := (congrFun teX8_fill 9).trans rfl
theorem tX8_fill_12 : tX8_fill 12 = oIs 2 13 := (congrFun teX8_fill 12).trans rfl
theorem tX8_fill_13 : tX8_fill 13 = oK (.int (nI 0)) 14 := (congrFun teX8_fill 13).trans rfl
theorem tX8_fill_14 : tX8_fill 14 = oIs 3 15 := (congrFun teX8_fill 14).trans rfl
theorem tX8_fill_15 : tX8_fill 15 = oIl 3 16 := (congrFun teX8_fill 15).trans rfl
theorem tX8_fill_16 : tX8_fill 16 = oIl 2 17 := (congrFun teX8_fill 16).trans rfl
theorem tX8_fill_17 : tX8_fill 17 = oIf2ge 51 20 := (congrFun teX8_fill 17).trans rfl
theorem tX8_fill_20 : tX8_fill 20 = oAl 0 21 := (congrFun teX8_fill 20).trans rfl
theorem tX8_fill_21 : tX8_fill 21 = oGet 8 0 24 := (congrFun teX8_fill 21).trans rfl
theorem tX8_fill_24 : tX8_fill 24 = oIl 3 25 := (congrFun teX8_fill 24).trans rfl
theorem tX8_fill_25 : tX8_fill 25 = oAl 0 26 := (congrFun teX8_fill 25).trans rfl
theorem tX8_fill_26 : tX8_fill 26 = oAl 1 27 := (congrFun teX8_fill 26).trans rfl
theorem tX8_fill_27 : tX8_fill 27 = oIl 3 28 := (congrFun teX8_fill 27).trans rfl
theorem tX8_fill_28 : tX8_fill 28 = oCallV 4 mX4_kindOf 1 31 := (congrFun teX8_fill 28).trans rfl
theorem tX8_fill_31 : tX8_fill 31 = oAl 1 32 := (congrFun teX8_fill 31).trans rfl
theorem tX8_fill_32 : tX8_fill 32 = oIl 3 33 := (congrFun teX8_fill 32).trans rfl
theorem tX8_fill_33 : tX8_fill 33 = oCallV 4 mX4_leftOf 1 36 := (congrFun teX8_fill 33).trans rfl
theorem tX8_fill_36 : tX8_fill 36 = oAl 1 37 := (congrFun teX8_fill 36).trans rfl
theorem tX8_fill_37 : tX8_fill 37 = oIl 3 38 := (congrFun teX8_fill 37).trans rfl
theorem tX8_fill_38 : tX8_fill 38 = oCallV 4 mX4_rightOf 1 41 := (congrFun teX8_fill 38).trans rfl
theorem tX8_fill_41 : tX8_fill 41 = oCallV 8 mX8_spanOf 3 44 := (congrFun teX8_fill 41).trans rfl
theorem tX8_fill_44 : tX8_fill 44 = oLast 45 := (congrFun teX8_fill 44).trans rfl
theorem tX8_fill_45 : tX8_fill 45 = oInc 3 (nI 1) 48 := (congrFun teX8_fill 45).trans rfl
theorem tX8_fill_48 : tX8_fill 48 = oGo 15 := (congrFun teX8_fill 48).trans rfl
theorem tX8_fill_51 : tX8_fill 51 = oVret := (congrFun teX8_fill 51).trans rfl
def lX8_of : List (Nat × qP) := [(0, oIl 1 1), (1, oIf1lt 22 4), (4, oIl 1 5), (5, oAl 0 6), (6, oGet 8 0 9), (9, oAlen 10), (10, oIf2ge 22 13), (13, oAl 0 14), (14, oGet 8 0 17), (17, oIl 1 18), (18, oLald 19), (19, oGo 23), (22, oK (.long 0) 23), (23, oLret)]
def uX8_of : Nat → qP := q_tb lX8_of
set_option maxRecDepth 20000 in
theorem suX8_of : q_Snd mX8_of uX8_of := by
  refine q_tb_ok ?_
  unfold lX8_of
  refine q_fa (ok_iload_n (by decide +kernel : decode cX8_of 0 = .ok (.iload_n 1, 1)) rfl rfl) ?_
  refine q_fa (ok_if1lt (by decide +kernel : decode cX8_of 1 = .ok (.ifCond .lt 21, 3)) (by decide) rfl) ?_
  refine q_fa (ok_iload_n (by decide +kernel : decode cX8_of 4 = .ok (.iload_n 1, 1)) rfl rfl) ?_
  refine q_fa (ok_aload_n (by decide +kernel : decode cX8_of 5 = .ok (.aload_n 0, 1)) rfl rfl) ?_
  refine q_fa (ok_get (by decide +kernel : decode cX8_of 6 = .ok (.getfield 21, 3)) rfl (rfl : vwCl[8]? = some (RX8, TX8, 2)) inX8 (by decide) g144) ?_
  refine q_fa (ok_alen (by decide +kernel : decode cX8_of 9 = .ok (.arraylength, 1)) rfl) ?_
  refine q_fa (ok_if2ge (by decide +kernel : decode cX8_of 10 = .ok (.if_icmp .ge 12, 3)) (by decide) rfl) ?_
  refine q_fa (ok_aload_n (by decide +kernel : decode cX8_of 13 = .ok (.aload_n 0, 1)) rfl rfl) ?_
  refine q_fa (ok_get (by decide +kernel : decode cX8_of 14 = .ok (.getfield 21, 3)) rfl (rfl : vwCl[8]? = some (RX8, TX8, 2)) inX8 (by decide) g144) ?_
  refine q_fa (ok_iload_n (by decide +kernel : decode cX8_of 17 = .ok (.iload_n 1, 1)) rfl rfl) ?_
  refine q_fa (ok_laload (by decide +kernel : decode cX8_of 18 = .ok (.laload, 1)) rfl) ?_
  refine q_fa (ok_goto (by decide +kernel : decode cX8_of 19 = .ok (.goto 4, 3)) (by decide)) ?_
  refine q_fa (ok_lconst (by decide +kernel : decode cX8_of 22 = .ok (.lconst 0, 1)) rfl (by decide +kernel)) ?_
  refine q_fa (ok_lret (by decide +kernel : decode cX8_of 23 = .ok (.lreturn, 1)) rfl) ?_
  exact q_fa0
theorem exX8_of : ∃ t : Nat → qP, t = uX8_of := ⟨_, rfl⟩
noncomputable def tX8_of : Nat → qP := Classical.choose exX8_of
theorem teX8_of : tX8_of = uX8_of := Classical.choose_spec exX8_of
theorem sX8_of : q_Snd mX8_of tX8_of := by rw [teX8_of]; exact suX8_of
theorem tX8_of_0 : tX8_of 0 = oIl 1 1 := (congrFun teX8_of 0).trans rfl
theorem tX8_of_1 : tX8_of 1 = oIf1lt 22 4 := (congrFun teX8_of 1).trans rfl
theorem tX8_of_4 : tX8_of 4 = oIl 1 5 := (congrFun teX8_of 4).trans rfl
theorem tX8_of_5 : tX8_of 5 = oAl 0 6 := (congrFun teX8_of 5).trans rfl
theorem tX8_of_6 : tX8_of 6 = oGet 8 0 9 := (congrFun teX8_of 6).trans rfl
theorem tX8_of_9 : tX8_of 9 = oAlen 10 := (congrFun teX8_of 9).trans rfl
theorem tX8_of_10 : tX8_of 10 = oIf2ge 22 13 := (congrFun teX8_of 10).trans rfl
theorem tX8_of_13 : tX8_of 13 = oAl 0 14 := (congrFun teX8_of 13).trans rfl
theorem tX8_of_14 : tX8_of 14 = oGet 8 0 17 := (congrFun teX8_of 14).trans rfl
theorem tX8_of_17 : tX8_of 17 = oIl 1 18 := (congrFun teX8_of 17).trans rfl
theorem tX8_of_18 : tX8_of 18 = oLald 19 := (congrFun teX8_of 18).trans rfl
theorem tX8_of_19 : tX8_of 19 = oGo 23 := (congrFun teX8_of 19).trans rfl
theorem tX8_of_22 : tX8_of 22 = oK (.long 0) 23 := (congrFun teX8_of 22).trans rfl
theorem tX8_of_23 : tX8_of 23 = oLret := (congrFun teX8_of 23).trans rfl
def lX8_spanOf : List (Nat × qP) := [(0, oIl 1 1), (1, oTab 0 [36, 44, 50, 64, 76] 85), (36, oAl 0 37), (37, oK (.int (nI 1)) 38), (38, oIl 2 39), (39, oShl 40), (40, oCallV 8 mX8_ofClass 1 43), (43, oLret), (44, oAl 0 45), (45, oIl 2 46), (46, oCallV 8 mX8_ofClass 1 49), (49, oLret), (50, oAl 0 51), (51, oIl 2 52), (52, oCallV 8 mX8_of 1 55), (55, oAl 0 56), (56, oIl 3 57), (57, oCallV 8 mX8_of 1 60), (60, oCallS mX8_behind 2 63), (63, oLret), (64, oAl 0 65), (65, oIl 2 66), (66, oCallV 8 mX8_of 1 69), (69, oAl 0 70), (70, oIl 3 71), (71, oCallV 8 mX8_of 1 74), (74, oLor 75), (75, oLret), (76, oAl 0 77), (77, oIl 2 78), (78, oCallV 8 mX8_of 1 81), (81, oCallS mX8_again 1 84), (84, oLret), (85, oAl 0 86), (86, oIl 2 87), (87, oCallV 8 mX8_of 1 90), (90, oK (.long (-9205322385119247871)) 93), (93, oLor 94), (94, oLret)]
def uX8_spanOf : Nat → qP := q_tb lX8_spanOf
set_option maxRecDepth 20000 in
theorem suX8_spanOf : q_Snd mX8_spanOf uX8_spanOf := by
  refine q_tb_ok ?_
  unfold lX8_spanOf
  refine q_fa (ok_iload_n (by decide +kernel : decode cX8_spanOf 0 = .ok (.iload_n 1, 1)) rfl rfl) ?_
  refine q_fa (ok_table (by decide +kernel : decode cX8_spanOf 1 = .ok (.tableswitch 84 0 4 #[35, 43, 49, 63, 75], 35)) (by decide) (by decide) (by decide) (by decide) (by decide)) ?_
  refine q_fa (ok_aload_n (by decide +kernel : decode cX8_spanOf 36 = .ok (.aload_n 0, 1)) rfl rfl) ?_
  refine q_fa (ok_iconst (by decide +kernel : decode cX8_spanOf 37 = .ok (.iconst 1, 1)) rfl (by decide +kernel)) ?_
  refine q_fa (ok_iload_n (by decide +kernel : decode cX8_spanOf 38 = .ok (.iload_n 2, 1)) rfl rfl) ?_
  refine q_fa (ok_ishl (by decide +kernel : decode cX8_spanOf 39 = .ok (.ishl, 1)) rfl) ?_
  refine q_fa (ok_callV (by decide +kernel : decode cX8_spanOf 40 = .ok (.invokevirtual 57, 3)) rfl kX8_ofClass.1 kX8_ofClass.2.1 kX8_ofClass.2.2.1 kX8_ofClass.2.2.2.1 kX8_ofClass.2.2.2.2 (rfl : vwCl[8]? = some (RX8, TX8, 2)) g675 gs30 g673) ?_
  refine q_fa (ok_lret (by decide +kernel : decode cX8_spanOf 43 = .ok (.lreturn, 1)) rfl) ?_
  refine q_fa (ok_aload_n (by decide +kernel : decode cX8_spanOf 44 = .ok (.aload_n 0, 1)) rfl rfl) ?_
  refine q_fa (ok_iload_n (by decide +kernel : decode cX8_spanOf 45 = .ok (.iload_n 2, 1)) rfl rfl) ?_
  refine q_fa (ok_callV (by decide +kernel : decode cX8_spanOf 46 = .ok (.invokevirtual 57, 3)) rfl kX8_ofClass.1 kX8_ofClass.2.1 kX8_ofClass.2.2.1 kX8_ofClass.2.2.2.1 kX8_ofClass.2.2.2.2 (rfl : vwCl[8]? = some (RX8, TX8, 2)) g675 gs30 g673) ?_
  refine q_fa (ok_lret (by decide +kernel : decode cX8_spanOf 49 = .ok (.lreturn, 1)) rfl) ?_
  refine q_fa (ok_aload_n (by decide +kernel : decode cX8_spanOf 50 = .ok (.aload_n 0, 1)) rfl rfl) ?_
  refine q_fa (ok_iload_n (by decide +kernel : decode cX8_spanOf 51 = .ok (.iload_n 2, 1)) rfl rfl) ?_
  refine q_fa (ok_callV (by decide +kernel : decode cX8_spanOf 52 = .ok (.invokevirtual 61, 3)) rfl kX8_of.1 kX8_of.2.1 kX8_of.2.2.1 kX8_of.2.2.2.1 kX8_of.2.2.2.2 (rfl : vwCl[8]? = some (RX8, TX8, 2)) g678 g679 g677) ?_
  refine q_fa (ok_aload_n (by decide +kernel : decode cX8_spanOf 55 = .ok (.aload_n 0, 1)) rfl rfl) ?_
  refine q_fa (ok_iload_n (by decide +kernel : decode cX8_spanOf 56 = .ok (.iload_n 3, 1)) rfl rfl) ?_
  refine q_fa (ok_callV (by decide +kernel : decode cX8_spanOf 57 = .ok (.invokevirtual 61, 3)) rfl kX8_of.1 kX8_of.2.1 kX8_of.2.2.1 kX8_of.2.2.2.1 kX8_of.2.2.2.2 (rfl : vwCl[8]? = some (RX8, TX8, 2)) g678 g679 g677) ?_
  refine q_fa (ok_callS (by decide +kernel : decode cX8_spanOf 60 = .ok (.invokestatic 64, 3)) rfl kX8_behind.1 kX8_behind.2.1 kX8_behind.2.2.1 kX8_behind.2.2.2.1 kX8_behind.2.2.2.2 g682 g681) ?_
  refine q_fa (ok_lret (by decide +kernel : decode cX8_spanOf 63 = .ok (.lreturn, 1)) rfl) ?_
  refine q_fa (ok_aload_n (by decide +kernel : decode cX8_spanOf 64 = .ok (.aload_n 0, 1)) rfl rfl) ?_
  refine q_fa (ok_iload_n (by decide +kernel : decode cX8_spanOf 65 = .ok (.iload_n 2, 1)) rfl rfl) ?_
  refine q_fa (ok_callV (by decide +kernel : decode cX8_spanOf 66 = .ok (.invokevirtual 61, 3)) rfl kX8_of.1 kX8_of.2.1 kX8_of.2.2.1 kX8_of.2.2.2.1 kX8_of.2.2.2.2 (rfl : vwCl[8]? = some (RX8, TX8, 2)) g678 g679 g677) ?_
  refine q_fa (ok_aload_n (by decide +kernel : decode cX8_spanOf 69 = .ok (.aload_n 0, 1)) rfl rfl) ?_
  refine q_fa (ok_iload_n (by decide +kernel : decode cX8_spanOf 70 = .ok (.iload_n 3, 1)) rfl rfl) ?_
  refine q_fa (ok_callV (by decide +kernel : decode cX8_spanOf 71 = .ok (.invokevirtual 61, 3)) rfl kX8_of.1 kX8_of.2.1 kX8_of.2.2.1 kX8_of.2.2.2.1 kX8_of.2.2.2.2 (rfl : vwCl[8]? = some (RX8, TX8, 2)) g678 g679 g677) ?_
  refine q_fa (ok_lor (by decide +kernel : decode cX8_spanOf 74 = .ok (.lor, 1)) rfl) ?_
  refine q_fa (ok_lret (by decide +kernel : decode cX8_spanOf 75 = .ok (.lreturn, 1)) rfl) ?_
  refine q_fa (ok_aload_n (by decide +kernel : decode cX8_spanOf 76 = .ok (.aload_n 0, 1)) rfl rfl) ?_
  refine q_fa (ok_iload_n (by decide +kernel : decode cX8_spanOf 77 = .ok (.iload_n 2, 1)) rfl rfl) ?_
  refine q_fa (ok_callV (by decide +kernel : decode cX8_spanOf 78 = .ok (.invokevirtual 61, 3)) rfl kX8_of.1 kX8_of.2.1 kX8_of.2.2.1 kX8_of.2.2.2.1 kX8_of.2.2.2.2 (rfl : vwCl[8]? = some (RX8, TX8, 2)) g678 g679 g677) ?_
  refine q_fa (ok_callS (by decide +kernel : decode cX8_spanOf 81 = .ok (.invokestatic 68, 3)) rfl kX8_again.1 kX8_again.2.1 kX8_again.2.2.1 kX8_again.2.2.2.1 kX8_again.2.2.2.2 g687 g686) ?_
  refine q_fa (ok_lret (by decide +kernel : decode cX8_spanOf 84 = .ok (.lreturn, 1)) rfl) ?_
  refine q_fa (ok_aload_n (by decide +kernel : decode cX8_spanOf 85 = .ok (.aload_n 0, 1)) rfl rfl) ?_
  refine q_fa (ok_iload_n (by decide +kernel : decode cX8_spanOf 86 = .ok (.iload_n 2, 1)) rfl rfl) ?_
  refine q_fa (ok_callV (by decide +kernel : decode cX8_spanOf 87 = .ok (.invokevirtual 61, 3)) rfl kX8_of.1 kX8_of.2.1 kX8_of.2.2.1 kX8_of.2.2.2.1 kX8_of.2.2.2.2 (rfl : vwCl[8]? = some (RX8, TX8, 2)) g678 g679 g677) ?_
  refine q_fa (ok_ldc2 (by decide +kernel : decode cX8_spanOf 90 = .ok (.ldc2_w 72, 3)) rfl g689) ?_
  refine q_fa (ok_lor (by decide +kernel : decode cX8_spanOf 93 = .ok (.lor, 1)) rfl) ?_
  refine q_fa (ok_lret (by decide +kernel : decode cX8_spanOf 94 = .ok (.lreturn, 1)) rfl) ?_
  exact q_fa0
theorem exX8_spanOf : ∃ t : Nat → qP, t = uX8_spanOf := ⟨_, rfl⟩
noncomputable def tX8_spanOf : Nat → qP := Classical.choose exX8_spanOf
theorem teX8_spanOf : tX8_spanOf = uX8_spanOf := Classical.choose_spec exX8_spanOf
theorem sX8_spanOf : q_Snd mX8_spanOf tX8_spanOf := by rw [teX8_spanOf]; exact suX8_spanOf
theorem tX8_spanOf_0 : tX8_spanOf 0 = oIl 1 1 := (congrFun teX8_spanOf 0).trans rfl
theorem tX8_spanOf_1 : tX8_spanOf 1 = oTab 0 [36, 44, 50, 64, 76] 85 := (congrFun teX8_spanOf 1).trans rfl
theorem tX8_spanOf_36 : tX8_spanOf 36 = oAl 0 37 := (congrFun teX8_spanOf 36).trans rfl
theorem tX8_spanOf_37 : tX8_spanOf 37 = oK (.int (nI 1)) 38 := (congrFun teX8_spanOf 37).trans rfl
theorem tX8_spanOf_38 : tX8_spanOf 38 = oIl 2 39 := (congrFun teX8_spanOf 38).trans rfl
theorem tX8_spanOf_39 : tX8_spanOf 39 = oShl 40 := (congrFun teX8_spanOf 39).trans rfl
theorem tX8_spanOf_40 : tX8_spanOf 40 = oCallV 8 mX8_ofClass 1 43 := (congrFun teX8_spanOf 40).trans rfl
theorem tX8_spanOf_43 : tX8_spanOf 43 = oLret := (congrFun teX8_spanOf 43).trans rfl
theorem tX8_spanOf_44 : tX8_spanOf 44 = oAl 0 45 := (congrFun teX8_spanOf 44).trans rfl
theorem tX8_spanOf_45 : tX8_spanOf 45 = oIl 2 46 := (congrFun teX8_spanOf 45).trans rfl
theorem tX8_spanOf_46 : tX8_spanOf 46 = oCallV 8 mX8_ofClass 1 49 := (congrFun teX8_spanOf 46).trans rfl
theorem tX8_spanOf_49 : tX8_spanOf 49 = oLret := (congrFun teX8_spanOf 49).trans rfl
theorem tX8_spanOf_50 : tX8_spanOf 50 = oAl 0 51 := (congrFun teX8_spanOf 50).trans rfl
theorem tX8_spanOf_51 : tX8_spanOf 51 = oIl 2 52 := (congrFun teX8_spanOf 51).trans rfl
theorem tX8_spanOf_52 : tX8_spanOf 52 = oCallV 8 mX8_of 1 55 := (congrFun teX8_spanOf 52).trans rfl
theorem tX8_spanOf_55 : tX8_spanOf 55 = oAl 0 56 := (congrFun teX8_spanOf 55).trans rfl
theorem tX8_spanOf_56 : tX8_spanOf 56 = oIl 3 57 := (congrFun teX8_spanOf 56).trans rfl
theorem tX8_spanOf_57 : tX8_spanOf 57 = oCallV 8 mX8_of 1 60 := (congrFun teX8_spanOf 57).trans rfl
theorem tX8_spanOf_60 : tX8_spanOf 60 = oCallS mX8_behind 2 63 := (congrFun teX8_spanOf 60).trans rfl
theorem tX8_spanOf_63 : tX8_spanOf 63 = oLret := (congrFun teX8_spanOf 63).trans rfl
theorem tX8_spanOf_64 : tX8_spanOf 64 = oAl 0 65 := (congrFun teX8_spanOf 64).trans rfl
theorem tX8_spanOf_65 : tX8_spanOf 65 = oIl 2 66 := (congrFun teX8_spanOf 65).trans rfl
theorem tX8_spanOf_66 : tX8_spanOf 66 = oCallV 8 mX8_of 1 69 := (congrFun teX8_spanOf 66).trans rfl
theorem tX8_spanOf_69 : tX8_spanOf 69 = oAl 0 70 := (congrFun teX8_spanOf 69).trans rfl
theorem tX8_spanOf_70 : tX8_spanOf 70 = oIl 3 71 := (congrFun teX8_spanOf 70).trans rfl
theorem tX8_spanOf_71 : tX8_spanOf 71 = oCallV 8 mX8_of 1 74 := (congrFun teX8_spanOf 71).trans rfl
theorem tX8_spanOf_74 : tX8_spanOf 74 = oLor 75 := (congrFun teX8_spanOf 74).trans rfl
theorem tX8_spanOf_75 : tX8_spanOf 75 = oLret := (congrFun teX8_spanOf 75).trans rfl
theorem tX8_spanOf_76 : tX8_spanOf 76 = oAl 0 77 := (congrFun teX8_spanOf 76).trans rfl
theorem tX8_spanOf_77 : tX8_spanOf 77 = oIl 2 78 := (congrFun teX8_spanOf 77).trans rfl
theorem tX8_spanOf_78 : tX8_spanOf 78 = oCallV 8 mX8_of 1 81 := (congrFun teX8_spanOf 78).trans rfl
theorem tX8_spanOf_81 : tX8_spanOf 81 = oCallS mX8_again 1 84 := (congrFun teX8_spanOf 81).trans rfl
theorem tX8_spanOf_84 : tX8_spanOf 84 = oLret := (congrFun teX8_spanOf 84).trans rfl
theorem tX8_spanOf_85 : tX8_spanOf 85 = oAl 0 86 := (congrFun teX8_spanOf 85).trans rfl
theorem tX8_spanOf_86 : tX8_spanOf 86 = oIl 2 87 := (congrFun teX8_spanOf 86).trans rfl
theorem tX8_spanOf_87 : tX8_spanOf 87 = oCallV 8 mX8_of 1 90 := (congrFun teX8_spanOf 87).trans rfl
theorem tX8_spanOf_90 : tX8_spanOf 90 = oK (.long (-9205322385119247871)) 93 := (congrFun teX8_spanOf 90).trans rfl
theorem tX8_spanOf_93 : tX8_spanOf 93 = oLor 94 := (congrFun teX8_spanOf 93).trans rfl
theorem tX8_spanOf_94 : tX8_spanOf 94 = oLret := (congrFun teX8_spanOf 94).trans rfl
def lX8_ofClass : List (Nat × qP) := [(0, oK (.long 0) 1), (1, oLs 2 2), (2, oK (.int (nI 0)) 3), (3, oIs 4 5), (5, oIl 4 7), (7, oK (.int (nI 3)) 8), (8, oIf2ge 37 11), (11, oIl 1 12), (12, oIl 4 14), (14, oShr 15), (15, oK (.int (nI 1)) 16), (16, oAnd 17), (17, oK (.int (nI 1)) 18), (18, oIf2ne 31 21), (21, oLl 2 22), (22, oAl 0 23), (23, oGet 8 1 26), (26, oIl 4 28), (28, oLald 29), (29, oLor 30), (30, oLs 2 31), (31, oInc 4 (nI 1) 34), (34, oGo 5), (37, oLl 2 38), (38, oLret)]
def uX8_ofClass : Nat → qP := q_tb lX8_ofClass
set_option maxRecDepth 20000 in
theorem suX8_ofClass : q_Snd mX8_ofClass uX8_ofClass := by
  refine q_tb_ok ?_
  unfold lX8_ofClass
  refine q_fa (ok_lconst (by decide +kernel : decode cX8_ofClass 0 = .ok (.lconst 0, 1)) rfl (by decide +kernel)) ?_
  refine q_fa (ok_lstore_n (by decide +kernel : decode cX8_ofClass 1 = .ok (.lstore_n 2, 1)) rfl rfl (by decide)) ?_
  refine q_fa (ok_iconst (by decide +kernel : decode cX8_ofClass 2 = .ok (.iconst 0, 1)) rfl (by decide +kernel)) ?_
  refine q_fa (ok_istore (by decide +kernel : decode cX8_ofClass 3 = .ok (.istore 4, 2)) rfl (by decide)) ?_
  refine q_fa (ok_iload (by decide +kernel : decode cX8_ofClass 5 = .ok (.iload 4, 2)) rfl) ?_
  refine q_fa (ok_iconst (by decide +kernel : decode cX8_ofClass 7 = .ok (.iconst 3, 1)) rfl (by decide +kernel)) ?_
  refine q_fa (ok_if2ge (by decide +kernel : decode cX8_ofClass 8 = .ok (.if_icmp .ge 29, 3)) (by decide) rfl) ?_
  refine q_fa (ok_iload_n (by decide +kernel : decode cX8_ofClass 11 = .ok (.iload_n 1, 1)) rfl rfl) ?_
  refine q_fa (ok_iload (by decide +kernel : decode cX8_ofClass 12 = .ok (.iload 4, 2)) rfl) ?_
  refine q_fa (ok_ishr (by decide +kernel : decode cX8_ofClass 14 = .ok (.ishr, 1)) rfl) ?_
  refine q_fa (ok_iconst (by decide +kernel : decode cX8_ofClass 15 = .ok (.iconst 1, 1)) rfl (by decide +kernel)) ?_
  refine q_fa (ok_iand (by decide +kernel : decode cX8_ofClass 16 = .ok (.iand, 1)) rfl) ?_
  refine q_fa (ok_iconst (by decide +kernel : decode cX8_ofClass 17 = .ok (.iconst 1, 1)) rfl (by decide +kernel)) ?_
  refine q_fa (ok_if2ne (by decide +kernel : decode cX8_ofClass 18 = .ok (.if_icmp .ne 13, 3)) (by decide) rfl) ?_
  refine q_fa (ok_lload_n (by decide +kernel : decode cX8_ofClass 21 = .ok (.lload_n 2, 1)) rfl rfl) ?_
  refine q_fa (ok_aload_n (by decide +kernel : decode cX8_ofClass 22 = .ok (.aload_n 0, 1)) rfl rfl) ?_
  refine q_fa (ok_get (by decide +kernel : decode cX8_ofClass 23 = .ok (.getfield 9, 3)) rfl (rfl : vwCl[8]? = some (RX8, TX8, 2)) inX8 (by decide) g145) ?_
  refine q_fa (ok_iload (by decide +kernel : decode cX8_ofClass 26 = .ok (.iload 4, 2)) rfl) ?_
  refine q_fa (ok_laload (by decide +kernel : decode cX8_ofClass 28 = .ok (.laload, 1)) rfl) ?_
  refine q_fa (ok_lor (by decide +kernel : decode cX8_ofClass 29 = .ok (.lor, 1)) rfl) ?_
  refine q_fa (ok_lstore_n (by decide +kernel : decode cX8_ofClass 30 = .ok (.lstore_n 2, 1)) rfl rfl (by decide)) ?_
  refine q_fa (ok_iinc (by decide +kernel : decode cX8_ofClass 31 = .ok (.iinc 4 1, 3)) rfl (by decide +kernel) (by decide)) ?_
  refine q_fa (ok_goto (by decide +kernel : decode cX8_ofClass 34 = .ok (.goto (-29), 3)) (by decide)) ?_
  refine q_fa (ok_lload_n (by decide +kernel : decode cX8_ofClass 37 = .ok (.lload_n 2, 1)) rfl rfl) ?_
  refine q_fa (ok_lret (by decide +kernel : decode cX8_ofClass 38 = .ok (.lreturn, 1)) rfl) ?_
  exact q_fa0
theorem exX8_ofClass : ∃ t : Nat → qP, t = uX8_ofClass := ⟨_, rfl⟩
noncomputable def tX8_ofClass : Nat → qP := Classical.choose exX8_ofClass
theorem teX8_ofClass : tX8_ofClass = uX8_ofClass := Classical.choose_spec exX8_ofClass
theorem sX8_ofClass : q_Snd mX8_ofClass tX8_ofClass := by rw [teX8_ofClass]; exact suX8_ofClass
theorem tX8_ofClass_0 : tX8_ofClass 0 = oK (.long 0) 1 := (congrFun teX8_ofClass 0).trans rfl
theorem tX8_ofClass_1 : tX8_ofClass 1 = oLs 2 2 := (congrFun teX8_ofClass 1).trans rfl
theorem tX8_ofClass_2 : tX8_ofClass 2 = oK (.int (nI 0)) 3 := (congrFun teX8_ofClass 2).trans rfl
theorem tX8_ofClass_3 : tX8_ofClass 3 = oIs 4 5 := (congrFun teX8_ofClass 3).trans rfl
theorem tX8_ofClass_5 : tX8_ofClass 5 = oIl 4 7 := (congrFun teX8_ofClass 5).trans rfl
theorem tX8_ofClass_7 : tX8_ofClass 7 = oK (.int (nI 3)) 8 := (congrFun teX8_ofClass 7).trans rfl
theorem tX8_ofClass_8 : tX8_ofClass 8 = oIf2ge 37 11 := (congrFun teX8_ofClass 8).trans rfl
theorem tX8_ofClass_11 : tX8_ofClass 11 = oIl 1 12 := (congrFun teX8_ofClass 11).trans rfl
theorem tX8_ofClass_12 : tX8_ofClass 12 = oIl 4 14 := (congrFun teX8_ofClass 12).trans rfl
theorem tX8_ofClass_14 : tX8_ofClass 14 = oShr 15 := (congrFun teX8_ofClass 14).trans rfl
theorem tX8_ofClass_15 : tX8_ofClass 15 = oK (.int (nI 1)) 16 := (congrFun teX8_ofClass 15).trans rfl
theorem tX8_ofClass_16 : tX8_ofClass 16 = oAnd 17 := (congrFun teX8_ofClass 16).trans rfl
theorem tX8_ofClass_17 : tX8_ofClass 17 = oK (.int (nI 1)) 18 := (congrFun teX8_ofClass 17).trans rfl
theorem tX8_ofClass_18 : tX8_ofClass 18 = oIf2ne 31 21 := (congrFun teX8_ofClass 18).trans rfl
theorem tX8_ofClass_21 : tX8_ofClass 21 = oLl 2 22 := (congrFun teX8_ofClass 21).trans rfl
theorem tX8_ofClass_22 : tX8_ofClass 22 = oAl 0 23 := (congrFun teX8_ofClass 22).trans rfl
theorem tX8_ofClass_23 : tX8_ofClass 23 = oGet 8 1 26 := (congrFun teX8_ofClass 23).trans rfl
theorem tX8_ofClass_26 : tX8_ofClass 26 = oIl 4 28 := (congrFun teX8_ofClass 26).trans rfl
theorem tX8_ofClass_28 : tX8_ofClass 28 = oLald 29 := (congrFun teX8_ofClass 28).trans rfl
theorem tX8_ofClass_29 : tX8_ofClass 29 = oLor 30 := (congrFun teX8_ofClass 29).trans rfl
theorem tX8_ofClass_30 : tX8_ofClass 30 = oLs 2 31 := (congrFun teX8_ofClass 30).trans rfl
theorem tX8_ofClass_31 : tX8_ofClass 31 = oInc 4 (nI 1) 34 := (congrFun teX8_ofClass 31).trans rfl
theorem tX8_ofClass_34 : tX8_ofClass 34 = oGo 5 := (congrFun teX8_ofClass 34).trans rfl
theorem tX8_ofClass_37 : tX8_ofClass 37 = oLl 2 38 := (congrFun teX8_ofClass 37).trans rfl
theorem tX8_ofClass_38 : tX8_ofClass 38 = oLret := (congrFun teX8_ofClass 38).trans rfl
def lX8_behind : List (Nat × qP) := [(0, oK (.long 0) 1), (1, oLs 4 3), (3, oK (.int (nI 0)) 4), (4, oIs 6 6), (6, oIl 6 8), (8, oK (.int (nI 6)) 10), (10, oIf2gt 44 13), (13, oLl 4 15), (15, oLl 0 16), (16, oIl 6 18), (18, oLushr 19), (19, oK (.long 72340172838076673) 22), (22, oLand 23), (23, oLl 2 24), (24, oK (.int (nI 8)) 26), (26, oIl 6 28), (28, oMul 29), (29, oLushr 30), (30, oK (.long 255) 33), (33, oLand 34), (34, oLmul 35), (35, oLor 36), (36, oLs 4 38), (38, oInc 6 (nI 1) 41), (41, oGo 6), (44, oLl 4 46), (46, oLret)]
def uX8_behind : Nat → qP := q_tb lX8_behind
set_option maxRecDepth 20000 in
theorem suX8_behind : q_Snd mX8_behind uX8_behind := by
  refine q_tb_ok ?_
  unfold lX8_behind
  refine q_fa (ok_lconst (by decide +kernel : decode cX8_behind 0 = .ok (.lconst 0, 1)) rfl (by decide +kernel)) ?_
  refine q_fa (ok_lstore (by decide +kernel : decode cX8_behind 1 = .ok (.lstore 4, 2)) rfl (by decide)) ?_
  refine q_fa (ok_iconst (by decide +kernel : decode cX8_behind 3 = .ok (.iconst 0, 1)) rfl (by decide +kernel)) ?_
  refine q_fa (ok_istore (by decide +kernel : decode cX8_behind 4 = .ok (.istore 6, 2)) rfl (by decide)) ?_
  refine q_fa (ok_iload (by decide +kernel : decode cX8_behind 6 = .ok (.iload 6, 2)) rfl) ?_
  refine q_fa (ok_bipush (by decide +kernel : decode cX8_behind 8 = .ok (.bipush 6, 2)) rfl (by decide +kernel)) ?_
  refine q_fa (ok_if2gt (by decide +kernel : decode cX8_behind 10 = .ok (.if_icmp .gt 34, 3)) (by decide) rfl) ?_
  refine q_fa (ok_lload (by decide +kernel : decode cX8_behind 13 = .ok (.lload 4, 2)) rfl) ?_
  refine q_fa (ok_lload_n (by decide +kernel : decode cX8_behind 15 = .ok (.lload_n 0, 1)) rfl rfl) ?_
  refine q_fa (ok_iload (by decide +kernel : decode cX8_behind 16 = .ok (.iload 6, 2)) rfl) ?_
  refine q_fa (ok_lushr (by decide +kernel : decode cX8_behind 18 = .ok (.lushr, 1)) rfl) ?_
  refine q_fa (ok_ldc2 (by decide +kernel : decode cX8_behind 19 = .ok (.ldc2_w 74, 3)) rfl g684) ?_
  refine q_fa (ok_land (by decide +kernel : decode cX8_behind 22 = .ok (.land, 1)) rfl) ?_
  refine q_fa (ok_lload_n (by decide +kernel : decode cX8_behind 23 = .ok (.lload_n 2, 1)) rfl rfl) ?_
  refine q_fa (ok_bipush (by decide +kernel : decode cX8_behind 24 = .ok (.bipush 8, 2)) rfl (by decide +kernel)) ?_
  refine q_fa (ok_iload (by decide +kernel : decode cX8_behind 26 = .ok (.iload 6, 2)) rfl) ?_
  refine q_fa (ok_imul (by decide +kernel : decode cX8_behind 28 = .ok (.imul, 1)) rfl) ?_
  refine q_fa (ok_lushr (by decide +kernel : decode cX8_behind 29 = .ok (.lushr, 1)) rfl) ?_
  refine q_fa (ok_ldc2 (by decide +kernel : decode cX8_behind 30 = .ok (.ldc2_w 76, 3)) rfl g685) ?_
  refine q_fa (ok_land (by decide +kernel : decode cX8_behind 33 = .ok (.land, 1)) rfl) ?_
  refine q_fa (ok_lmul (by decide +kernel : decode cX8_behind 34 = .ok (.lmul, 1)) rfl) ?_
  refine q_fa (ok_lor (by decide +kernel : decode cX8_behind 35 = .ok (.lor, 1)) rfl) ?_
  refine q_fa (ok_lstore (by decide +kernel : decode cX8_behind 36 = .ok (.lstore 4, 2)) rfl (by decide)) ?_
  refine q_fa (ok_iinc (by decide +kernel : decode cX8_behind 38 = .ok (.iinc 6 1, 3)) rfl (by decide +kernel) (by decide)) ?_
  refine q_fa (ok_goto (by decide +kernel : decode cX8_behind 41 = .ok (.goto (-35), 3)) (by decide)) ?_
  refine q_fa (ok_lload (by decide +kernel : decode cX8_behind 44 = .ok (.lload 4, 2)) rfl) ?_
  refine q_fa (ok_lret (by decide +kernel : decode cX8_behind 46 = .ok (.lreturn, 1)) rfl) ?_
  exact q_fa0
theorem exX8_behind : ∃ t : Nat → qP, t = uX8_behind := ⟨_, rfl⟩
noncomputable def tX8_behind : Nat → qP := Classical.choose exX8_behind
theorem teX8_behind : tX8_behind = uX8_behind := Classical.choose_spec exX8_behind
theorem sX8_behind : q_Snd mX8_behind tX8_behind := by rw [teX8_behind]; exact suX8_behind
theorem tX8_behind_0 : tX8_behind 0 = oK (.long 0) 1 := (congrFun teX8_behind 0).trans rfl
theorem tX8_behind_1 : tX8_behind 1 = oLs 4 3 := (congrFun teX8_behind 1).trans rfl
theorem tX8_behind_3 : tX8_behind 3 = oK (.int (nI 0)) 4 := (congrFun teX8_behind 3).trans rfl
theorem tX8_behind_4 : tX8_behind 4 = oIs 6 6 := (congrFun teX8_behind 4).trans rfl
theorem tX8_behind_6 : tX8_behind 6 = oIl 6 8 := (congrFun teX8_behind 6).trans rfl
theorem tX8_behind_8 : tX8_behind 8 = oK (.int (nI 6)) 10 := (congrFun teX8_behind 8).trans rfl
theorem tX8_behind_10 : tX8_behind 10 = oIf2gt 44 13 := (congrFun teX8_behind 10).trans rfl
theorem tX8_behind_13 : tX8_behind 13 = oLl 4 15 := (congrFun teX8_behind 13).trans rfl
theorem tX8_behind_15 : tX8_behind 15 = oLl 0 16 := (congrFun teX8_behind 15).trans rfl
theorem tX8_behind_16 : tX8_behind 16 = oIl 6 18 := (congrFun teX8_behind 16).trans rfl
theorem tX8_behind_18 : tX8_behind 18 = oLushr 19 := (congrFun teX8_behind 18).trans rfl
theorem tX8_behind_19 : tX8_behind 19 = oK (.long 72340172838076673) 22 := (congrFun teX8_behind 19).trans rfl
theorem tX8_behind_22 : tX8_behind 22 = oLand 23 := (congrFun teX8_behind 22).trans rfl
theorem tX8_behind_23 : tX8_behind 23 = oLl 2 24 := (congrFun teX8_behind 23).trans rfl
theorem tX8_behind_24 : tX8_behind 24 = oK (.int (nI 8)) 26 := (congrFun teX8_behind 24).trans rfl
theorem tX8_behind_26 : tX8_behind 26 = oIl 6 28 := (congrFun teX8_behind 26).trans rfl
theorem tX8_behind_28 : tX8_behind 28 = oMul 29 := (congrFun teX8_behind 28).trans rfl
theorem tX8_behind_29 : tX8_behind 29 = oLushr 30 := (congrFun teX8_behind 29).trans rfl
theorem tX8_behind_30 : tX8_behind 30 = oK (.long 255) 33 := (congrFun teX8_behind 30).trans rfl
theorem tX8_behind_33 : tX8_behind 33 = oLand 34 := (congrFun teX8_behind 33).trans rfl
theorem tX8_behind_34 : tX8_behind 34 = oLmul 35 := (congrFun teX8_behind 34).trans rfl
theorem tX8_behind_35 : tX8_behind 35 = oLor 36 := (congrFun teX8_behind 35).trans rfl
theorem tX8_behind_36 : tX8_behind 36 = oLs 4 38 := (congrFun teX8_behind 36).trans rfl
theorem tX8_behind_38 : tX8_behind 38 = oInc 6 (nI 1) 41 := (congrFun teX8_behind 38).trans rfl
theorem tX8_behind_41 : tX8_behind 41 = oGo 6 := (congrFun teX8_behind 41).trans rfl
theorem tX8_behind_44 : tX8_behind 44 = oLl 4 46 := (congrFun teX8_behind 44).trans rfl
theorem tX8_behind_46 : tX8_behind 46 = oLret := (congrFun teX8_behind 46).trans rfl
def lX8_again : List (Nat × qP) := [(0, oLl 0 1), (1, oLs 2 2), (2, oK (.int (nI 0)) 3), (3, oIs 4 5), (5, oIl 4 7), (7, oK (.int (nI 3)) 8), (8, oIf2ge 25 11), (11, oLl 2 12), (12, oLl 2 13), (13, oLl 2 14), (14, oCallS mX8_behind 2 17), (17, oLor 18), (18, oLs 2 19), (19, oInc 4 (nI 1) 22), (22, oGo 5), (25, oLl 2 26), (26, oLret)]
def uX8_again : Nat → qP := q_tb lX8_again
set_option maxRecDepth 20000 in
theorem suX8_again : q_Snd mX8_again uX8_again := by
  refine q_tb_ok ?_
  unfold lX8_again
  refine q_fa (ok_lload_n (by decide +kernel : decode cX8_again 0 = .ok (.lload_n 0, 1)) rfl rfl) ?_
  refine q_fa (ok_lstore_n (by decide +kernel : decode cX8_again 1 = .ok (.lstore_n 2, 1)) rfl rfl (by decide)) ?_
  refine q_fa (ok_iconst (by decide +kernel : decode cX8_again 2 = .ok (.iconst 0, 1)) rfl (by decide +kernel)) ?_
  refine q_fa (ok_istore (by decide +kernel : decode cX8_again 3 = .ok (.istore 4, 2)) rfl (by decide)) ?_
  refine q_fa (ok_iload (by decide +kernel : decode cX8_again 5 = .ok (.iload 4, 2)) rfl) ?_
  refine q_fa (ok_iconst (by decide +kernel : decode cX8_again 7 = .ok (.iconst 3, 1)) rfl (by decide +kernel)) ?_
  refine q_fa (ok_if2ge (by decide +kernel : decode cX8_again 8 = .ok (.if_icmp .ge 17, 3)) (by decide) rfl) ?_
  refine q_fa (ok_lload_n (by decide +kernel : decode cX8_again 11 = .ok (.lload_n 2, 1)) rfl rfl) ?_
  refine q_fa (ok_lload_n (by decide +kernel : decode cX8_again 12 = .ok (.lload_n 2, 1)) rfl rfl) ?_
  refine q_fa (ok_lload_n (by decide +kernel : decode cX8_again 13 = .ok (.lload_n 2, 1)) rfl rfl) ?_
  refine q_fa (ok_callS (by decide +kernel : decode cX8_again 14 = .ok (.invokestatic 64, 3)) rfl kX8_behind.1 kX8_behind.2.1 kX8_behind.2.2.1 kX8_behind.2.2.2.1 kX8_behind.2.2.2.2 g682 g681) ?_
  refine q_fa (ok_lor (by decide +kernel : decode cX8_again 17 = .ok (.lor, 1)) rfl) ?_
  refine q_fa (ok_lstore_n (by decide +kernel : decode cX8_again 18 = .ok (.lstore_n 2, 1)) rfl rfl (by decide)) ?_
  refine q_fa (ok_iinc (by decide +kernel : decode cX8_again 19 = .ok (.iinc 4 1, 3)) rfl (by decide +kernel) (by decide)) ?_
  refine q_fa (ok_goto (by decide +kernel : decode cX8_again 22 = .ok (.goto (-17), 3)) (by decide)) ?_
  refine q_fa (ok_lload_n (by decide +kernel : decode cX8_again 25 = .ok (.lload_n 2, 1)) rfl rfl) ?_
  refine q_fa (ok_lret (by decide +kernel : decode cX8_again 26 = .ok (.lreturn, 1)) rfl) ?_
  exact q_fa0
theorem exX8_again : ∃ t : Nat → qP, t = uX8_again := ⟨_, rfl⟩
noncomputable def tX8_again : Nat → qP := Classical.choose exX8_again
theorem teX8_again : tX8_again = uX8_again := Classical.choose_spec exX8_again
theorem sX8_again : q_Snd mX8_again tX8_again := by rw [teX8_again]; exact suX8_again
theorem tX8_again_0 : tX8_again 0 = oLl 0 1 := (congrFun teX8_again 0).trans rfl
theorem tX8_again_1 : tX8_again 1 = oLs 2 2 := (congrFun teX8_again 1).trans rfl
theorem tX8_again_2 : tX8_again 2 = oK (.int (nI 0)) 3 := (congrFun teX8_again 2).trans rfl
theorem tX8_again_3 : tX8_again 3 = oIs 4 5 := (congrFun teX8_again 3).trans rfl
theorem tX8_again_5 : tX8_again 5 = oIl 4 7 := (congrFun teX8_again 5).trans rfl
theorem tX8_again_7 : tX8_again 7 = oK (.int (nI 3)) 8 := (congrFun teX8_again 7).trans rfl
theorem tX8_again_8 : tX8_again 8 = oIf2ge 25 11 := (congrFun teX8_again 8).trans rfl
theorem tX8_again_11 : tX8_again 11 = oLl 2 12 := (congrFun teX8_again 11).trans rfl
theorem tX8_again_12 : tX8_again 12 = oLl 2 13 := (congrFun teX8_again 12).trans rfl
theorem tX8_again_13 : tX8_again 13 = oLl 2 14 := (congrFun teX8_again 13).trans rfl
theorem tX8_again_14 : tX8_again 14 = oCallS mX8_behind 2 17 := (congrFun teX8_again 14).trans rfl
theorem tX8_again_17 : tX8_again 17 = oLor 18 := (congrFun teX8_again 17).trans rfl
theorem tX8_again_18 : tX8_again 18 = oLs 2 19 := (congrFun teX8_again 18).trans rfl
theorem tX8_again_19 : tX8_again 19 = oInc 4 (nI 1) 22 := (congrFun teX8_again 19).trans rfl
theorem tX8_again_22 : tX8_again 22 = oGo 5 := (congrFun teX8_again 22).trans rfl
theorem tX8_again_25 : tX8_again 25 = oLl 2 26 := (congrFun teX8_again 25).trans rfl
theorem tX8_again_26 : tX8_again 26 = oLret := (congrFun teX8_again 26).trans rfl
def lX8_has : List (Nat × qP) := [(0, oLl 0 1), (1, oK (.int (nI 8)) 3), (3, oIl 2 4), (4, oMul 5), (5, oIl 3 6), (6, oAdd 7), (7, oLushr 8), (8, oK (.long 1) 9), (9, oLand 10), (10, oK (.long 1) 11), (11, oLcmp 12), (12, oIf1ne 19 15), (15, oK (.int (nI 1)) 16), (16, oGo 20), (19, oK (.int (nI 0)) 20), (20, oZret)]
def uX8_has : Nat → qP := q_tb lX8_has
set_option maxRecDepth 20000 in
theorem suX8_has : q_Snd mX8_has uX8_has := by
  refine q_tb_ok ?_
  unfold lX8_has
  refine q_fa (ok_lload_n (by decide +kernel : decode cX8_has 0 = .ok (.lload_n 0, 1)) rfl rfl) ?_
  refine q_fa (ok_bipush (by decide +kernel : decode cX8_has 1 = .ok (.bipush 8, 2)) rfl (by decide +kernel)) ?_
  refine q_fa (ok_iload_n (by decide +kernel : decode cX8_has 3 = .ok (.iload_n 2, 1)) rfl rfl) ?_
  refine q_fa (ok_imul (by decide +kernel : decode cX8_has 4 = .ok (.imul, 1)) rfl) ?_
  refine q_fa (ok_iload_n (by decide +kernel : decode cX8_has 5 = .ok (.iload_n 3, 1)) rfl rfl) ?_
  refine q_fa (ok_iadd (by decide +kernel : decode cX8_has 6 = .ok (.iadd, 1)) rfl) ?_
  refine q_fa (ok_lushr (by decide +kernel : decode cX8_has 7 = .ok (.lushr, 1)) rfl) ?_
  refine q_fa (ok_lconst (by decide +kernel : decode cX8_has 8 = .ok (.lconst 1, 1)) rfl (by decide +kernel)) ?_
  refine q_fa (ok_land (by decide +kernel : decode cX8_has 9 = .ok (.land, 1)) rfl) ?_
  refine q_fa (ok_lconst (by decide +kernel : decode cX8_has 10 = .ok (.lconst 1, 1)) rfl (by decide +kernel)) ?_
  refine q_fa (ok_lcmp (by decide +kernel : decode cX8_has 11 = .ok (.lcmp, 1)) rfl) ?_
  refine q_fa (ok_if1ne (by decide +kernel : decode cX8_has 12 = .ok (.ifCond .ne 7, 3)) (by decide) rfl) ?_
  refine q_fa (ok_iconst (by decide +kernel : decode cX8_has 15 = .ok (.iconst 1, 1)) rfl (by decide +kernel)) ?_
  refine q_fa (ok_goto (by decide +kernel : decode cX8_has 16 = .ok (.goto 4, 3)) (by decide)) ?_
  refine q_fa (ok_iconst (by decide +kernel : decode cX8_has 19 = .ok (.iconst 0, 1)) rfl (by decide +kernel)) ?_
  refine q_fa (ok_zret (by decide +kernel : decode cX8_has 20 = .ok (.ireturn, 1)) rfl) ?_
  exact q_fa0
theorem exX8_has : ∃ t : Nat → qP, t = uX8_has := ⟨_, rfl⟩
noncomputable def tX8_has : Nat → qP := Classical.choose exX8_has
theorem teX8_has : tX8_has = uX8_has := Classical.choose_spec exX8_has
theorem sX8_has : q_Snd mX8_has tX8_has := by rw [teX8_has]; exact suX8_has
theorem tX8_has_0 : tX8_has 0 = oLl 0 1 := (congrFun teX8_has 0).trans rfl
theorem tX8_has_1 : tX8_has 1 = oK (.int (nI 8)) 3 := (congrFun teX8_has 1).trans rfl
theorem tX8_has_3 : tX8_has 3 = oIl 2 4 := (congrFun teX8_has 3).trans rfl
theorem tX8_has_4 : tX8_has 4 = oMul 5 := (congrFun teX8_has 4).trans rfl
theorem tX8_has_5 : tX8_has 5 = oIl 3 6 := (congrFun teX8_has 5).trans rfl
theorem tX8_has_6 : tX8_has 6 = oAdd 7 := (congrFun teX8_has 6).trans rfl
theorem tX8_has_7 : tX8_has 7 = oLushr 8 := (congrFun teX8_has 7).trans rfl
theorem tX8_has_8 : tX8_has 8 = oK (.long 1) 9 := (congrFun teX8_has 8).trans rfl
theorem tX8_has_9 : tX8_has 9 = oLand 10 := (congrFun teX8_has 9).trans rfl
theorem tX8_has_10 : tX8_has 10 = oK (.long 1) 11 := (congrFun teX8_has 10).trans rfl
theorem tX8_has_11 : tX8_has 11 = oLcmp 12 := (congrFun teX8_has 11).trans rfl
theorem tX8_has_12 : tX8_has 12 = oIf1ne 19 15 := (congrFun teX8_has 12).trans rfl
theorem tX8_has_15 : tX8_has 15 = oK (.int (nI 1)) 16 := (congrFun teX8_has 15).trans rfl
theorem tX8_has_16 : tX8_has 16 = oGo 20 := (congrFun teX8_has 16).trans rfl
theorem tX8_has_19 : tX8_has 19 = oK (.int (nI 0)) 20 := (congrFun teX8_has 19).trans rfl
theorem tX8_has_20 : tX8_has 20 = oZret := (congrFun teX8_has 20).trans rfl
def lX8_partOut : List (Nat × qP) := [(0, oK (.int (nI 0)) 1), (1, oIs 3 2), (2, oIl 3 3), (3, oIl 2 4), (4, oIf2ge 48 7), (7, oIl 2 8), (8, oIs 4 10), (10, oIl 4 12), (12, oIl 3 13), (13, oIf2le 42 16), (16, oLl 0 17), (17, oIl 3 18), (18, oIl 4 20), (20, oCallS mX8_has 3 23), (23, oIf1eq 36 26), (26, oK (.int (nI 10)) 28), (28, oIl 3 29), (29, oMul 30), (30, oIl 4 32), (32, oAdd 33), (33, oIl 3 34), (34, oSub 35), (35, oIret), (36, oInc 4 (-1) 39), (39, oGo 10), (42, oInc 3 (nI 1) 45), (45, oGo 2), (48, oK (.int (nI 0)) 49), (49, oIret)]
def uX8_partOut : Nat → qP := q_tb lX8_partOut
set_option maxRecDepth 20000 in
theorem suX8_partOut : q_Snd mX8_partOut uX8_partOut := by
  refine q_tb_ok ?_
  unfold lX8_partOut
  refine q_fa (ok_iconst (by decide +kernel : decode cX8_partOut 0 = .ok (.iconst 0, 1)) rfl (by decide +kernel)) ?_
  refine q_fa (ok_istore_n (by decide +kernel : decode cX8_partOut 1 = .ok (.istore_n 3, 1)) rfl rfl (by decide)) ?_
  refine q_fa (ok_iload_n (by decide +kernel : decode cX8_partOut 2 = .ok (.iload_n 3, 1)) rfl rfl) ?_
  refine q_fa (ok_iload_n (by decide +kernel : decode cX8_partOut 3 = .ok (.iload_n 2, 1)) rfl rfl) ?_
  refine q_fa (ok_if2ge (by decide +kernel : decode cX8_partOut 4 = .ok (.if_icmp .ge 44, 3)) (by decide) rfl) ?_
  refine q_fa (ok_iload_n (by decide +kernel : decode cX8_partOut 7 = .ok (.iload_n 2, 1)) rfl rfl) ?_
  refine q_fa (ok_istore (by decide +kernel : decode cX8_partOut 8 = .ok (.istore 4, 2)) rfl (by decide)) ?_
  refine q_fa (ok_iload (by decide +kernel : decode cX8_partOut 10 = .ok (.iload 4, 2)) rfl) ?_
  refine q_fa (ok_iload_n (by decide +kernel : decode cX8_partOut 12 = .ok (.iload_n 3, 1)) rfl rfl) ?_
  refine q_fa (ok_if2le (by decide +kernel : decode cX8_partOut 13 = .ok (.if_icmp .le 29, 3)) (by decide) rfl) ?_
  refine q_fa (ok_lload_n (by decide +kernel : decode cX8_partOut 16 = .ok (.lload_n 0, 1)) rfl rfl) ?_
  refine q_fa (ok_iload_n (by decide +kernel : decode cX8_partOut 17 = .ok (.iload_n 3, 1)) rfl rfl) ?_
  refine q_fa (ok_iload (by decide +kernel : decode cX8_partOut 18 = .ok (.iload 4, 2)) rfl) ?_
  refine q_fa (ok_callS (by decide +kernel : decode cX8_partOut 20 = .ok (.invokestatic 78, 3)) rfl kX8_has.1 kX8_has.2.1 kX8_has.2.2.1 kX8_has.2.2.2.1 kX8_has.2.2.2.2 g697 g702) ?_
  refine q_fa (ok_if1eq (by decide +kernel : decode cX8_partOut 23 = .ok (.ifCond .eq 13, 3)) (by decide) rfl) ?_
  refine q_fa (ok_bipush (by decide +kernel : decode cX8_partOut 26 = .ok (.bipush 10, 2)) rfl (by decide +kernel)) ?_
  refine q_fa (ok_iload_n (by decide +kernel : decode cX8_partOut 28 = .ok (.iload_n 3, 1)) rfl rfl) ?_
  refine q_fa (ok_imul (by decide +kernel : decode cX8_partOut 29 = .ok (.imul, 1)) rfl) ?_
  refine q_fa (ok_iload (by decide +kernel : decode cX8_partOut 30 = .ok (.iload 4, 2)) rfl) ?_
  refine q_fa (ok_iadd (by decide +kernel : decode cX8_partOut 32 = .ok (.iadd, 1)) rfl) ?_
  refine q_fa (ok_iload_n (by decide +kernel : decode cX8_partOut 33 = .ok (.iload_n 3, 1)) rfl rfl) ?_
  refine q_fa (ok_isub (by decide +kernel : decode cX8_partOut 34 = .ok (.isub, 1)) rfl) ?_
  refine q_fa (ok_iret (by decide +kernel : decode cX8_partOut 35 = .ok (.ireturn, 1)) rfl) ?_
  refine q_fa (ok_iinc (by decide +kernel : decode cX8_partOut 36 = .ok (.iinc 4 (-1), 3)) rfl (by decide +kernel) (by decide)) ?_
  refine q_fa (ok_goto (by decide +kernel : decode cX8_partOut 39 = .ok (.goto (-29), 3)) (by decide)) ?_
  refine q_fa (ok_iinc (by decide +kernel : decode cX8_partOut 42 = .ok (.iinc 3 1, 3)) rfl (by decide +kernel) (by decide)) ?_
  refine q_fa (ok_goto (by decide +kernel : decode cX8_partOut 45 = .ok (.goto (-43), 3)) (by decide)) ?_
  refine q_fa (ok_iconst (by decide +kernel : decode cX8_partOut 48 = .ok (.iconst 0, 1)) rfl (by decide +kernel)) ?_
  refine q_fa (ok_iret (by decide +kernel : decode cX8_partOut 49 = .ok (.ireturn, 1)) rfl) ?_
  exact q_fa0
theorem exX8_partOut : ∃ t : Nat → qP, t = uX8_partOut := ⟨_, rfl⟩
noncomputable def tX8_partOut : Nat → qP := Classical.choose exX8_partOut
theorem teX8_partOut : tX8_partOut = uX8_partOut := Classical.choose_spec exX8_partOut
theorem sX8_partOut : q_Snd mX8_partOut tX8_partOut := by rw [teX8_partOut]; exact suX8_partOut
theorem tX8_partOut_0 : tX8_partOut 0 = oK (.int (nI 0)) 1 := (congrFun teX8_partOut 0).trans rfl
theorem tX8_partOut_1 : tX8_partOut 1 = oIs 3 2 := (congrFun teX8_partOut 1).trans rfl
theorem tX8_partOut_2 : tX8_partOut 2 = oIl 3 3 := (congrFun teX8_partOut 2).trans rfl
theorem tX8_partOut_3 : tX8_partOut 3 = oIl 2 4 := (congrFun teX8_partOut 3).trans rfl
theorem tX8_partOut_4 : tX8_partOut 4 = oIf2ge 48 7 := (congrFun teX8_partOut 4).trans rfl
theorem tX8_partOut_7 : tX8_partOut 7 = oIl 2 8 := (congrFun teX8_partOut 7).trans rfl
theorem tX8_partOut_8 : tX8_partOut 8 = oIs 4 10 := (congrFun teX8_partOut 8).trans rfl
theorem tX8_partOut_10 : tX8_partOut 10 = oIl 4 12 := (congrFun teX8_partOut 10).trans rfl
theorem tX8_partOut_12 : tX8_partOut 12 = oIl 3 13 := (congrFun teX8_partOut 12).trans rfl
theorem tX8_partOut_13 : tX8_partOut 13 = oIf2le 42 16 := (congrFun teX8_partOut 13).trans rfl
theorem tX8_partOut_16 : tX8_partOut 16 = oLl 0 17 := (congrFun teX8_partOut 16).trans rfl
theorem tX8_partOut_17 : tX8_partOut 17 = oIl 3 18 := (congrFun teX8_partOut 17).trans rfl
theorem tX8_partOut_18 : tX8_partOut 18 = oIl 4 20 := (congrFun teX8_partOut 18).trans rfl
theorem tX8_partOut_20 : tX8_partOut 20 = oCallS mX8_has 3 23 := (congrFun teX8_partOut 20).trans rfl
theorem tX8_partOut_23 : tX8_partOut 23 = oIf1eq 36 26 := (congrFun teX8_partOut 23).trans rfl
theorem tX8_partOut_26 : tX8_partOut 26 = oK (.int (nI 10)) 28 := (congrFun teX8_partOut 26).trans rfl
theorem tX8_partOut_28 : tX8_partOut 28 = oIl 3 29 := (congrFun teX8_partOut 28).trans rfl
theorem tX8_partOut_29 : tX8_partOut 29 = oMul 30 := (congrFun teX8_partOut 29).trans rfl
theorem tX8_partOut_30 : tX8_partOut 30 = oIl 4 32 := (congrFun teX8_partOut 30).trans rfl
theorem tX8_partOut_32 : tX8_partOut 32 = oAdd 33 := (congrFun teX8_partOut 32).trans rfl
theorem tX8_partOut_33 : tX8_partOut 33 = oIl 3 34 := (congrFun teX8_partOut 33).trans rfl
theorem tX8_partOut_34 : tX8_partOut 34 = oSub 35 := (congrFun teX8_partOut 34).trans rfl
theorem tX8_partOut_35 : tX8_partOut 35 = oIret := (congrFun teX8_partOut 35).trans rfl
theorem tX8_partOut_36 : tX8_partOut 36 = oInc 4 (-1) 39 := (congrFun teX8_partOut 36).trans rfl
theorem tX8_partOut_39 : tX8_partOut 39 = oGo 10 := (congrFun teX8_partOut 39).trans rfl
theorem tX8_partOut_42 : tX8_partOut 42 = oInc 3 (nI 1) 45 := (congrFun teX8_partOut 42).trans rfl
theorem tX8_partOut_45 : tX8_partOut 45 = oGo 2 := (congrFun teX8_partOut 45).trans rfl
theorem tX8_partOut_48 : tX8_partOut 48 = oK (.int (nI 0)) 49 := (congrFun teX8_partOut 48).trans rfl
theorem tX8_partOut_49 : tX8_partOut 49 = oIret := (congrFun teX8_partOut 49).trans rfl
def lX9_init : List (Nat × qP) := [(0, oAl 0 1), (1, oObj 4), (4, oAl 0 5), (5, oK (.int (nI 845)) 8), (8, oNewa 1 10), (10, oPutR 9 0 13), (13, oVret)]
def uX9_init : Nat → qP := q_tb lX9_init
set_option maxRecDepth 20000 in
theorem suX9_init : q_Snd mX9_init uX9_init := by
  refine q_tb_ok ?_
  unfold lX9_init
  refine q_fa (ok_aload_n (by decide +kernel : decode cX9_init 0 = .ok (.aload_n 0, 1)) rfl rfl) ?_
  refine q_fa (ok_obj (by decide +kernel : decode cX9_init 1 = .ok (.invokespecial 3, 3)) rfl g132 g24 g25) ?_
  refine q_fa (ok_aload_n (by decide +kernel : decode cX9_init 4 = .ok (.aload_n 0, 1)) rfl rfl) ?_
  refine q_fa (ok_sipush (by decide +kernel : decode cX9_init 5 = .ok (.sipush 845, 3)) rfl (by decide +kernel)) ?_
  refine q_fa (ok_newa_int (by decide +kernel : decode cX9_init 8 = .ok (.newarray .int, 2)) rfl g56) ?_
  refine q_fa (ok_putR tyX9 (by decide +kernel : decode cX9_init 10 = .ok (.putfield 9, 3)) rfl (rfl : vwCl[9]? = some (RX9, TX9, 1)) inX9 tyX9_ok nmX9 (by decide) g133 (Or.inr ⟨rfl, rfl, rfl⟩) (by decide +kernel : parseFieldDescriptor (TX9 0).2.2.1 = some (tyX9 0)) (q_rfA _)) ?_
  refine q_fa (ok_vret (by decide +kernel : decode cX9_init 13 = .ok (.return_, 1)) rfl) ?_
  exact q_fa0
theorem exX9_init : ∃ t : Nat → qP, t = uX9_init := ⟨_, rfl⟩
noncomputable def tX9_init : Nat → qP := Classical.choose exX9_init
theorem teX9_init : tX9_init = uX9_init := Classical.choose_spec exX9_init
theorem sX9_init : q_Snd mX9_init tX9_init := by rw [teX9_init]; exact suX9_init
theorem tX9_init_0 : tX9_init 0 = oAl 0 1 := (congrFun teX9_init 0).trans rfl
theorem tX9_init_1 : tX9_init 1 = oObj 4 := (congrFun teX9_init 1).trans rfl
theorem tX9_init_4 : tX9_init 4 = oAl 0 5 := (congrFun teX9_init 4).trans rfl
theorem tX9_init_5 : tX9_init 5 = oK (.int (nI 845)) 8 := (congrFun teX9_init 5).trans rfl
theorem tX9_init_8 : tX9_init 8 = oNewa 1 10 := (congrFun teX9_init 8).trans rfl
theorem tX9_init_10 : tX9_init 10 = oPutR 9 0 13 := (congrFun teX9_init 10).trans rfl
theorem tX9_init_13 : tX9_init 13 = oVret := (congrFun teX9_init 13).trans rfl
def lX9_fill : List (Nat × qP) := [(0, oIl 2 1), (1, oK (.int (nI 12)) 3), (3, oMin 6), (6, oIs 3 7), (7, oK (.int (nI 0)) 8), (8, oIs 4 10), (10, oIl 4 12), (12, oK (.int (nI 65)) 14), (14, oIf2ge 44 17), (17, oAl 0 18), (18, oGet 9 0 21), (21, oIl 4 23), (23, oAl 1 24), (24, oIl 4 26), (26, oCallV 0 mX0_endsAt 1 29), (29, oIf1eq 36 32), (32, oK (.int (nI 1)) 33), (33, oGo 37), (36, oK (.int (nI 0)) 37), (37, oIast 38), (38, oInc 4 (nI 1) 41), (41, oGo 10), (44, oK (.int (nI 1)) 45), (45, oIs 4 47), (47, oIl 4 49), (49, oIl 3 50), (50, oIf2gt 129 53), (53, oK (.int (nI 0)) 54), (54, oIs 5 56), (56, oIl 5 58), (58, oK (.int (nI 65)) 60), (60, oIf2ge 123 63), (63, oK (.int (nI 0)) 64), (64, oIs 6 66), (66, oK (.int (nI 0)) 67), (67, oIs 7 69), (69, oIl 7 71), (71, oK (.int (nI 3)) 72), (72, oIf2ge 102 75), (75, oIl 6 77), (77, oAl 0 78), (78, oAl 1 79), (79, oIl 5 81), (81, oIl 7 83), (83, oCallV 0 mX0_after 2 86), (86, oIl 4 88), (88, oK (.int (nI 1)) 89), (89, oSub 90), (90, oCallV 9 mX9_from 2 93), (93, oAdd 94), (94, oIs 6 96), (96, oInc 7 (nI 1) 99), (99, oGo 69), (102, oAl 0 103), (103, oGet 9 0 106), (106, oIl 4 108), (108, oK (.int (nI 65)) 110), (110, oMul 111), (111, oIl 5 113), (113, oAdd 114), (114, oIl 6 116), (116, oIast 117), (117, oInc 5 (nI 1) 120), (120, oGo 56), (123, oInc 4 (nI 1) 126), (126, oGo 47), (129, oVret)]
def uX9_fill : Nat → qP := q_tb lX9_fill
set_option maxRecDepth 20000 in
theorem suX9_fill : q_Snd mX9_fill uX9_fill := by
  refine q_tb_ok ?_
  unfold lX9_fill
  refine q_fa (ok_iload_n (by decide +kernel : decode cX9_fill 0 = .ok (.iload_n 2, 1)) rfl rfl) ?_
  refine q_fa (ok_bipush (by decide +kernel : decode cX9_fill 1 = .ok (.bipush 12, 2)) rfl (by decide +kernel)) ?_
  refine q_fa (ok_min (by decide +kernel : decode cX9_fill 3 = .ok (.invokestatic 15, 3)) rfl g548 g456 g4 g457) ?_
  refine q_fa (ok_istore_n (by decide +kernel : decode cX9_fill 6 = .ok (.istore_n 3, 1)) rfl rfl (by decide)) ?_
  refine q_fa (ok_iconst (by decide +kernel : decode cX9_fill 7 = .ok (.iconst 0, 1)) rfl (by decide +kernel)) ?_
  refine q_fa (ok_istore (by decide +kernel : decode cX9_fill 8 = .ok (.istore 4, 2)) rfl (by decide)) ?_
  refine q_fa (ok_iload (by decide +kernel : decode cX9_fill 10 = .ok (.iload 4, 2)) rfl) ?_
  refine q_fa (ok_bipush (by decide +kernel : decode cX9_fill 12 = .ok (.bipush 65, 2)) rfl (by decide +kernel)) ?_
  refine q_fa (ok_if2ge (by decide +kernel : decode cX9_fill 14 = .ok (.if_icmp .ge 30, 3)) (by decide) rfl) ?_
  refine q_fa (ok_aload_n (by decide +kernel : decode cX9_fill 17 = .ok (.aload_n 0, 1)) rfl rfl) ?_
  refine q_fa (ok_get (by decide +kernel : decode cX9_fill 18 = .ok (.getfield 9, 3)) rfl (rfl : vwCl[9]? = some (RX9, TX9, 1)) inX9 (by decide) g133) ?_
  refine q_fa (ok_iload (by decide +kernel : decode cX9_fill 21 = .ok (.iload 4, 2)) rfl) ?_
  refine q_fa (ok_aload_n (by decide +kernel : decode cX9_fill 23 = .ok (.aload_n 1, 1)) rfl rfl) ?_
  refine q_fa (ok_iload (by decide +kernel : decode cX9_fill 24 = .ok (.iload 4, 2)) rfl) ?_
  refine q_fa (ok_callV (by decide +kernel : decode cX9_fill 26 = .ok (.invokevirtual 21, 3)) rfl kX0_endsAt.1 kX0_endsAt.2.1 kX0_endsAt.2.2.1 kX0_endsAt.2.2.2.1 kX0_endsAt.2.2.2.2 (rfl : vwCl[0]? = some (RX0, TX0, 9)) g533 g534 g549) ?_
  refine q_fa (ok_if1eq (by decide +kernel : decode cX9_fill 29 = .ok (.ifCond .eq 7, 3)) (by decide) rfl) ?_
  refine q_fa (ok_iconst (by decide +kernel : decode cX9_fill 32 = .ok (.iconst 1, 1)) rfl (by decide +kernel)) ?_
  refine q_fa (ok_goto (by decide +kernel : decode cX9_fill 33 = .ok (.goto 4, 3)) (by decide)) ?_
  refine q_fa (ok_iconst (by decide +kernel : decode cX9_fill 36 = .ok (.iconst 0, 1)) rfl (by decide +kernel)) ?_
  refine q_fa (ok_iastore (by decide +kernel : decode cX9_fill 37 = .ok (.iastore, 1)) rfl) ?_
  refine q_fa (ok_iinc (by decide +kernel : decode cX9_fill 38 = .ok (.iinc 4 1, 3)) rfl (by decide +kernel) (by decide)) ?_
  refine q_fa (ok_goto (by decide +kernel : decode cX9_fill 41 = .ok (.goto (-31), 3)) (by decide)) ?_
  refine q_fa (ok_iconst (by decide +kernel : decode cX9_fill 44 = .ok (.iconst 1, 1)) rfl (by decide +kernel)) ?_
  refine q_fa (ok_istore (by decide +kernel : decode cX9_fill 45 = .ok (.istore 4, 2)) rfl (by decide)) ?_
  refine q_fa (ok_iload (by decide +kernel : decode cX9_fill 47 = .ok (.iload 4, 2)) rfl) ?_
  refine q_fa (ok_iload_n (by decide +kernel : decode cX9_fill 49 = .ok (.iload_n 3, 1)) rfl rfl) ?_
  refine q_fa (ok_if2gt (by decide +kernel : decode cX9_fill 50 = .ok (.if_icmp .gt 79, 3)) (by decide) rfl) ?_
  refine q_fa (ok_iconst (by decide +kernel : decode cX9_fill 53 = .ok (.iconst 0, 1)) rfl (by decide +kernel)) ?_
  refine q_fa (ok_istore (by decide +kernel : decode cX9_fill 54 = .ok (.istore 5, 2)) rfl (by decide)) ?_
  refine q_fa (ok_iload (by decide +kernel : decode cX9_fill 56 = .ok (.iload 5, 2)) rfl) ?_
  refine q_fa (ok_bipush (by decide +kernel : decode cX9_fill 58 = .ok (.bipush 65, 2)) rfl (by decide +kernel)) ?_
  refine q_fa (ok_if2ge (by decide +kernel : decode cX9_fill 60 = .ok (.if_icmp .ge 63, 3)) (by decide) rfl) ?_
  refine q_fa (ok_iconst (by decide +kernel : decode cX9_fill 63 = .ok (.iconst 0, 1)) rfl (by decide +kernel)) ?_
  refine q_fa (ok_istore (by decide +kernel : decode cX9_fill 64 = .ok (.istore 6, 2)) rfl (by decide)) ?_
  refine q_fa (ok_iconst (by decide +kernel : decode cX9_fill 66 = .ok (.iconst 0, 1)) rfl (by decide +kernel)) ?_
  refine q_fa (ok_istore (by decide +kernel : decode cX9_fill 67 = .ok (.istore 7, 2)) rfl (by decide)) ?_
  refine q_fa (ok_iload (by decide +kernel : decode cX9_fill 69 = .ok (.iload 7, 2)) rfl) ?_
  refine q_fa (ok_iconst (by decide +kernel : decode cX9_fill 71 = .ok (.iconst 3, 1)) rfl (by decide +kernel)) ?_
  refine q_fa (ok_if2ge (by decide +kernel : decode cX9_fill 72 = .ok (.if_icmp .ge 30, 3)) (by decide) rfl) ?_
  refine q_fa (ok_iload (by decide +kernel : decode cX9_fill 75 = .ok (.iload 6, 2)) rfl) ?_
  refine q_fa (ok_aload_n (by decide +kernel : decode cX9_fill 77 = .ok (.aload_n 0, 1)) rfl rfl) ?_
  refine q_fa (ok_aload_n (by decide +kernel : decode cX9_fill 78 = .ok (.aload_n 1, 1)) rfl rfl) ?_
  refine q_fa (ok_iload (by decide +kernel : decode cX9_fill 79 = .ok (.iload 5, 2)) rfl) ?_
  refine q_fa (ok_iload (by decide +kernel : decode cX9_fill 81 = .ok (.iload 7, 2)) rfl) ?_
  refine q_fa (ok_callV (by decide +kernel : decode cX9_fill 83 = .ok (.invokevirtual 27, 3)) rfl kX0_after.1 kX0_after.2.1 kX0_after.2.2.1 kX0_after.2.2.2.1 kX0_after.2.2.2.2 (rfl : vwCl[0]? = some (RX0, TX0, 9)) g529 g530 g550) ?_
  refine q_fa (ok_iload (by decide +kernel : decode cX9_fill 86 = .ok (.iload 4, 2)) rfl) ?_
  refine q_fa (ok_iconst (by decide +kernel : decode cX9_fill 88 = .ok (.iconst 1, 1)) rfl (by decide +kernel)) ?_
  refine q_fa (ok_isub (by decide +kernel : decode cX9_fill 89 = .ok (.isub, 1)) rfl) ?_
  refine q_fa (ok_callV (by decide +kernel : decode cX9_fill 90 = .ok (.invokevirtual 30, 3)) rfl kX9_from.1 kX9_from.2.1 kX9_from.2.2.1 kX9_from.2.2.2.1 kX9_from.2.2.2.2 (rfl : vwCl[9]? = some (RX9, TX9, 1)) g552 g553 g551) ?_
  refine q_fa (ok_iadd (by decide +kernel : decode cX9_fill 93 = .ok (.iadd, 1)) rfl) ?_
  refine q_fa (ok_istore (by decide +kernel : decode cX9_fill 94 = .ok (.istore 6, 2)) rfl (by decide)) ?_
  refine q_fa (ok_iinc (by decide +kernel : decode cX9_fill 96 = .ok (.iinc 7 1, 3)) rfl (by decide +kernel) (by decide)) ?_
  refine q_fa (ok_goto (by decide +kernel : decode cX9_fill 99 = .ok (.goto (-30), 3)) (by decide)) ?_
  refine q_fa (ok_aload_n (by decide +kernel : decode cX9_fill 102 = .ok (.aload_n 0, 1)) rfl rfl) ?_
  refine q_fa (ok_get (by decide +kernel : decode cX9_fill 103 = .ok (.getfield 9, 3)) rfl (rfl : vwCl[9]? = some (RX9, TX9, 1)) inX9 (by decide) g133) ?_
  refine q_fa (ok_iload (by decide +kernel : decode cX9_fill 106 = .ok (.iload 4, 2)) rfl) ?_
  refine q_fa (ok_bipush (by decide +kernel : decode cX9_fill 108 = .ok (.bipush 65, 2)) rfl (by decide +kernel)) ?_
  refine q_fa (ok_imul (by decide +kernel : decode cX9_fill 110 = .ok (.imul, 1)) rfl) ?_
  refine q_fa (ok_iload (by decide +kernel : decode cX9_fill 111 = .ok (.iload 5, 2)) rfl) ?_
  refine q_fa (ok_iadd (by decide +kernel : decode cX9_fill 113 = .ok (.iadd, 1)) rfl) ?_
  refine q_fa (ok_iload (by decide +kernel : decode cX9_fill 114 = .ok (.iload 6, 2)) rfl) ?_
  refine q_fa (ok_iastore (by decide +kernel : decode cX9_fill 116 = .ok (.iastore, 1)) rfl) ?_
  refine q_fa (ok_iinc (by decide +kernel : decode cX9_fill 117 = .ok (.iinc 5 1, 3)) rfl (by decide +kernel) (by decide)) ?_
  refine q_fa (ok_goto (by decide +kernel : decode cX9_fill 120 = .ok (.goto (-64), 3)) (by decide)) ?_
  refine q_fa (ok_iinc (by decide +kernel : decode cX9_fill 123 = .ok (.iinc 4 1, 3)) rfl (by decide +kernel) (by decide)) ?_
  refine q_fa (ok_goto (by decide +kernel : decode cX9_fill 126 = .ok (.goto (-79), 3)) (by decide)) ?_
  refine q_fa (ok_vret (by decide +kernel : decode cX9_fill 129 = .ok (.return_, 1)) rfl) ?_
  exact q_fa0
theorem exX9_fill : ∃ t : Nat → qP, t = uX9_fill := ⟨_, rfl⟩
noncomputable def tX9_fill : Nat → qP := Classical.choose exX9_fill
theorem teX9_fill : tX9_fill = uX9_fill := Classical.choose_spec exX9_fill
theorem sX9_fill : q_Snd mX9_fill tX9_fill := by rw [teX9_fill]; exact suX9_fill
theorem tX9_fill_0 : tX9_fill 0 = oIl 2 1 := (congrFun teX9_fill 0).trans rfl
theorem tX9_fill_1 : tX9_fill 1 = oK (.int (nI 12)) 3 := (congrFun teX9_fill 1).trans rfl
theorem tX9_fill_3 : tX9_fill 3 = oMin 6 := (congrFun teX9_fill 3).trans rfl
theorem tX9_fill_6 : tX9_fill 6 = oIs 3 7 := (congrFun teX9_fill 6).trans rfl
theorem tX9_fill_7 : tX9_fill 7 = oK (.int (nI 0)) 8 := (congrFun teX9_fill 7).trans rfl
theorem tX9_fill_8 : tX9_fill 8 = oIs 4 10 := (congrFun teX9_fill 8).trans rfl
theorem tX9_fill_10 : tX9_fill 10 = oIl 4 12 := (congrFun teX9_fill 10).trans rfl
theorem tX9_fill_12 : tX9_fill 12 = oK (.int (nI 65)) 14 := (congrFun teX9_fill 12).trans rfl
theorem tX9_fill_14 : tX9_fill 14 = oIf2ge 44 17 := (congrFun teX9_fill 14).trans rfl
theorem tX9_fill_17 : tX9_fill 17 = oAl 0 18 := (congrFun teX9_fill 17).trans rfl
theorem tX9_fill_18 : tX9_fill 18 = oGet 9 0 21 := (congrFun teX9_fill 18).trans rfl
theorem tX9_fill_21 : tX9_fill 21 = oIl 4 23 := (congrFun teX9_fill 21).trans rfl
theorem tX9_fill_23 : tX9_fill 23 = oAl 1 24 := (congrFun teX9_fill 23).trans rfl
theorem tX9_fill_24 : tX9_fill 24 = oIl 4 26 := (congrFun teX9_fill 24).trans rfl
theorem tX9_fill_26 : tX9_fill 26 = oCallV 0 mX0_endsAt 1 29 := (congrFun teX9_fill 26).trans rfl
theorem tX9_fill_29 : tX9_fill 29 = oIf1eq 36 32 := (congrFun teX9_fill 29).trans rfl
theorem tX9_fill_32 : tX9_fill 32 = oK (.int (nI 1)) 33 := (congrFun teX9_fill 32).trans rfl
theorem tX9_fill_33 : tX9_fill 33 = oGo 37 := (congrFun teX9_fill 33).trans rfl
theorem tX9_fill_36 : tX9_fill 36 = oK (.int (nI 0)) 37 := (congrFun teX9_fill 36).trans rfl
theorem tX9_fill_37 : tX9_fill 37 = oIast 38 := (congrFun teX9_fill 37).trans rfl
theorem tX9_fill_38 : tX9_fill 38 = oInc 4 (nI 1) 41 := (congrFun teX9_fill 38).trans rfl
theorem tX9_fill_41 : tX9_fill 41 = oGo 10 := (congrFun teX9_fill 41).trans rfl
theorem tX9_fill_44 : tX9_fill 44 = oK (.int (nI 1)) 45 := (congrFun teX9_fill 44).trans rfl
theorem tX9_fill_45 : tX9_fill 45 = oIs 4 47 := (congrFun teX9_fill 45).trans rfl
theorem tX9_fill_47 : tX9_fill 47 = oIl 4 49 := (congrFun teX9_fill 47).trans rfl
theorem tX9_fill_49 : tX9_fill 49 = oIl 3 50 := (congrFun teX9_fill 49).trans rfl
theorem tX9_fill_50 : tX9_fill 50 = oIf2gt 129 53 := (congrFun teX9_fill 50).trans rfl
theorem tX9_fill_53 : tX9_fill 53 = oK (.int (nI 0)) 54 := (congrFun teX9_fill 53).trans rfl
theorem tX9_fill_54 : tX9_fill 54 = oIs 5 56 := (congrFun teX9_fill 54).trans rfl
theorem tX9_fill_56 : tX9_fill 56 = oIl 5 58 := (congrFun teX9_fill 56).trans rfl
theorem tX9_fill_58 : tX9_fill 58 = oK (.int (nI 65)) 60 := (congrFun teX9_fill 58).trans rfl
theorem tX9_fill_60 : tX9_fill 60 = oIf2ge 123 63 := (congrFun teX9_fill 60).trans rfl
theorem tX9_fill_63 : tX9_fill 63 = oK (.int (nI 0)) 64 := (congrFun teX9_fill 63).trans rfl
theorem tX9_fill_64 : tX9_fill 64 = oIs 6 66 := (congrFun teX9_fill 64).trans rfl
theorem tX9_fill_66 : tX9_fill 66 = oK (.int (nI 0)) 67 := (congrFun teX9_fill 66).trans rfl
theorem tX9_fill_67 : tX9_fill 67 = oIs 7 69 := (congrFun teX9_fill 67).trans rfl
theorem tX9_fill_69 : tX9_fill 69 = oIl 7 71 := (congrFun teX9_fill 69).trans rfl
theorem tX9_fill_71 : tX9_fill 71 = oK (.int (nI 3)) 72 := (congrFun teX9_fill 71).trans rfl
theorem tX9_fill_72 : tX9_fill 72 = oIf2ge 102 75 := (congrFun teX9_fill 72).trans rfl
theorem tX9_fill_75 : tX9_fill 75 = oIl 6 77 := (congrFun teX9_fill 75).trans rfl
theorem tX9_fill_77 : tX9_fill 77 = oAl 0 78 := (congrFun teX9_fill 77).trans rfl
theorem tX9_fill_78 : tX9_fill 78 = oAl 1 79 := (congrFun teX9_fill 78).trans rfl
theorem tX9_fill_79 : tX9_fill 79 = oIl 5 81 := (congrFun teX9_fill 79).trans rfl
theorem tX9_fill_81 : tX9_fill 81 = oIl 7 83 := (congrFun teX9_fill 81).trans rfl
theorem tX9_fill_83 : tX9_fill 83 = oCallV 0 mX0_after 2 86 := (congrFun teX9_fill 83).trans rfl
theorem tX9_fill_86 : tX9_fill 86 = oIl 4 88 := (congrFun teX9_fill 86).trans rfl
theorem tX9_fill_88 : tX9_fill 88 = oK (.int (nI 1)) 89 := (congrFun teX9_fill 88).trans rfl
theorem tX9_fill_89 : tX9_fill 89 = oSub 90 := (congrFun teX9_fill 89).trans rfl
theorem tX9_fill_90 : tX9_fill 90 = oCallV 9 mX9_from 2 93 := (congrFun teX9_fill 90).trans rfl
theorem tX9_fill_93 : tX9_fill 93 = oAdd 94 := (congrFun teX9_fill 93).trans rfl
theorem tX9_fill_94 : tX9_fill 94 = oIs 6 96 := (congrFun teX9_fill 94).trans rfl
theorem tX9_fill_96 : tX9_fill 96 = oInc 7 (nI 1) 99 := (congrFun teX9_fill 96).trans rfl
theorem tX9_fill_99 : tX9_fill 99 = oGo 69 := (congrFun teX9_fill 99).trans rfl
theorem tX9_fill_102 : tX9_fill 102 = oAl 0 103 := (congrFun teX9_fill 102).trans rfl
theorem tX9_fill_103 : tX9_fill 103 = oGet 9 0 106 := (congrFun teX9_fill 103).trans rfl
theorem tX9_fill_106 : tX9_fill 106 = oIl 4 108 := (congrFun teX9_fill 106).trans rfl
theorem tX9_fill_108 : tX9_fill 108 = oK (.int (nI 65)) 110 := (congrFun teX9_fill 108).trans rfl
theorem tX9_fill_110 : tX9_fill 110 = oMul 111 := (congrFun teX9_fill 110).trans rfl
theorem tX9_fill_111 : tX9_fill 111 = oIl 5 113 := (congrFun teX9_fill 111).trans rfl
theorem tX9_fill_113 : tX9_fill 113 = oAdd 114 := (congrFun teX9_fill 113).trans rfl
theorem tX9_fill_114 : tX9_fill 114 = oIl 6 116 := (congrFun teX9_fill 114).trans rfl
theorem tX9_fill_116 : tX9_fill 116 = oIast 117 := (congrFun teX9_fill 116).trans rfl
theorem tX9_fill_117 : tX9_fill 117 = oInc 5 (nI 1) 120 := (congrFun teX9_fill 117).trans rfl
theorem tX9_fill_120 : tX9_fill 120 = oGo 56 := (congrFun teX9_fill 120).trans rfl
theorem tX9_fill_123 : tX9_fill 123 = oInc 4 (nI 1) 126 := (congrFun teX9_fill 123).trans rfl
theorem tX9_fill_126 : tX9_fill 126 = oGo 47 := (congrFun teX9_fill 126).trans rfl
theorem tX9_fill_129 : tX9_fill 129 = oVret := (congrFun teX9_fill 129).trans rfl
def lX9_from : List (Nat × qP) := [(0, oIl 2 1), (1, oK (.int (nI 65)) 3), (3, oMul 4), (4, oIl 1 5), (5, oAdd 6), (6, oIs 3 7), (7, oIl 3 8), (8, oIf1lt 29 11), (11, oIl 3 12), (12, oAl 0 13), (13, oGet 9 0 16), (16, oAlen 17), (17, oIf2ge 29 20), (20, oAl 0 21), (21, oGet 9 0 24), (24, oIl 3 25), (25, oIald 26), (26, oGo 30), (29, oK (.int (nI 0)) 30), (30, oIret)]
def uX9_from : Nat → qP := q_tb lX9_from
set_option maxRecDepth 20000 in
theorem suX9_from : q_Snd mX9_from uX9_from := by
  refine q_tb_ok ?_
  unfold lX9_from
  refine q_fa (ok_iload_n (by decide +kernel : decode cX9_from 0 = .ok (.iload_n 2, 1)) rfl rfl) ?_
  refine q_fa (ok_bipush (by decide +kernel : decode cX9_from 1 = .ok (.bipush 65, 2)) rfl (by decide +kernel)) ?_
  refine q_fa (ok_imul (by decide +kernel : decode cX9_from 3 = .ok (.imul, 1)) rfl) ?_
  refine q_fa (ok_iload_n (by decide +kernel : decode cX9_from 4 = .ok (.iload_n 1, 1)) rfl rfl) ?_
  refine q_fa (ok_iadd (by decide +kernel : decode cX9_from 5 = .ok (.iadd, 1)) rfl) ?_
  refine q_fa (ok_istore_n (by decide +kernel : decode cX9_from 6 = .ok (.istore_n 3, 1)) rfl rfl (by decide)) ?_
  refine q_fa (ok_iload_n (by decide +kernel : decode cX9_from 7 = .ok (.iload_n 3, 1)) rfl rfl) ?_
  refine q_fa (ok_if1lt (by decide +kernel : decode cX9_from 8 = .ok (.ifCond .lt 21, 3)) (by decide) rfl) ?_
  refine q_fa (ok_iload_n (by decide +kernel : decode cX9_from 11 = .ok (.iload_n 3, 1)) rfl rfl) ?_
  refine q_fa (ok_aload_n (by decide +kernel : decode cX9_from 12 = .ok (.aload_n 0, 1)) rfl rfl) ?_
  refine q_fa (ok_get (by decide +kernel : decode cX9_from 13 = .ok (.getfield 9, 3)) rfl (rfl : vwCl[9]? = some (RX9, TX9, 1)) inX9 (by decide) g133) ?_
  refine q_fa (ok_alen (by decide +kernel : decode cX9_from 16 = .ok (.arraylength, 1)) rfl) ?_
  refine q_fa (ok_if2ge (by decide +kernel : decode cX9_from 17 = .ok (.if_icmp .ge 12, 3)) (by decide) rfl) ?_
  refine q_fa (ok_aload_n (by decide +kernel : decode cX9_from 20 = .ok (.aload_n 0, 1)) rfl rfl) ?_
  refine q_fa (ok_get (by decide +kernel : decode cX9_from 21 = .ok (.getfield 9, 3)) rfl (rfl : vwCl[9]? = some (RX9, TX9, 1)) inX9 (by decide) g133) ?_
  refine q_fa (ok_iload_n (by decide +kernel : decode cX9_from 24 = .ok (.iload_n 3, 1)) rfl rfl) ?_
  refine q_fa (ok_iaload (by decide +kernel : decode cX9_from 25 = .ok (.iaload, 1)) rfl) ?_
  refine q_fa (ok_goto (by decide +kernel : decode cX9_from 26 = .ok (.goto 4, 3)) (by decide)) ?_
  refine q_fa (ok_iconst (by decide +kernel : decode cX9_from 29 = .ok (.iconst 0, 1)) rfl (by decide +kernel)) ?_
  refine q_fa (ok_iret (by decide +kernel : decode cX9_from 30 = .ok (.ireturn, 1)) rfl) ?_
  exact q_fa0
theorem exX9_from : ∃ t : Nat → qP, t = uX9_from := ⟨_, rfl⟩
noncomputable def tX9_from : Nat → qP := Classical.choose exX9_from
theorem teX9_from : tX9_from = uX9_from := Classical.choose_spec exX9_from
theorem sX9_from : q_Snd mX9_from tX9_from := by rw [teX9_from]; exact suX9_from
theorem tX9_from_0 : tX9_from 0 = oIl 2 1 := (congrFun teX9_from 0).trans rfl
theorem tX9_from_1 : tX9_from 1 = oK (.int (nI 65)) 3 := (congrFun teX9_from 1).trans rfl
theorem tX9_from_3 : tX9_from 3 = oMul 4 := (congrFun teX9_from 3).trans rfl
theorem tX9_from_4 : tX9_from 4 = oIl 1 5 := (congrFun teX9_from 4).trans rfl
theorem tX9_from_5 : tX9_from 5 = oAdd 6 := (congrFun teX9_from 5).trans rfl
theorem tX9_from_6 : tX9_from 6 = oIs 3 7 := (congrFun teX9_from 6).trans rfl
theorem tX9_from_7 : tX9_from 7 = oIl 3 8 := (congrFun teX9_from 7).trans rfl
theorem tX9_from_8 : tX9_from 8 = oIf1lt 29 11 := (congrFun teX9_from 8).trans rfl
theorem tX9_from_11 : tX9_from 11 = oIl 3 12 := (congrFun teX9_from 11).trans rfl
theorem tX9_from_12 : tX9_from 12 = oAl 0 13 := (congrFun teX9_from 12).trans rfl
theorem tX9_from_13 : tX9_from 13 = oGet 9 0 16 := (congrFun teX9_from 13).trans rfl
theorem tX9_from_16 : tX9_from 16 = oAlen 17 := (congrFun teX9_from 16).trans rfl
theorem tX9_from_17 : tX9_from 17 = oIf2ge 29 20 := (congrFun teX9_from 17).trans rfl
theorem tX9_from_20 : tX9_from 20 = oAl 0 21 := (congrFun teX9_from 20).trans rfl
theorem tX9_from_21 : tX9_from 21 = oGet 9 0 24 := (congrFun teX9_from 21).trans rfl
theorem tX9_from_24 : tX9_from 24 = oIl 3 25 := (congrFun teX9_from 24).trans rfl
theorem tX9_from_25 : tX9_from 25 = oIald 26 := (congrFun teX9_from 25).trans rfl
theorem tX9_from_26 : tX9_from 26 = oGo 30 := (congrFun teX9_from 26).trans rfl
theorem tX9_from_29 : tX9_from 29 = oK (.int (nI 0)) 30 := (congrFun teX9_from 29).trans rfl
theorem tX9_from_30 : tX9_from 30 = oIret := (congrFun teX9_from 30).trans rfl
def lX9_rowAt : List (Nat × qP) := [(0, oK (.int (nI 1)) 1), (1, oIs 4 3), (3, oK (.int (nI 64)) 5), (5, oIs 5 7), (7, oIl 3 8), (8, oIs 6 10), (10, oIl 2 11), (11, oK (.int (nI 12)) 13), (13, oMin 16), (16, oK (.int (nI 1)) 17), (17, oSub 18), (18, oIs 7 20), (20, oIl 7 22), (22, oIf1lt 111 25), (25, oK (.int (nI 0)) 26), (26, oIs 8 28), (28, oAl 0 29), (29, oAl 1 30), (30, oIl 5 32), (32, oIl 8 34), (34, oCallV 0 mX0_after 2 37), (37, oIl 7 39), (39, oCallV 9 mX9_from 2 42), (42, oIs 9 44), (44, oIl 8 46), (46, oK (.int (nI 2)) 47), (47, oIf2ge 86 50), (50, oIl 6 52), (52, oIl 9 54), (54, oIf2lt 86 57), (57, oIl 6 59), (59, oIl 9 61), (61, oSub 62), (62, oIs 6 64), (64, oInc 8 (nI 1) 67), (67, oAl 0 68), (68, oAl 1 69), (69, oIl 5 71), (71, oIl 8 73), (73, oCallV 0 mX0_after 2 76), (76, oIl 7 78), (78, oCallV 9 mX9_from 2 81), (81, oIs 9 83), (83, oGo 44), (86, oIl 4 88), (88, oK (.int (nI 3)) 89), (89, oMul 90), (90, oIl 8 92), (92, oAdd 93), (93, oIs 4 95), (95, oAl 1 96), (96, oIl 5 98), (98, oIl 8 100), (100, oCallV 0 mX0_after 2 103), (103, oIs 5 105), (105, oInc 7 (-1) 108), (108, oGo 20), (111, oIl 4 113), (113, oIret)]
def uX9_rowAt : Nat → qP := q_tb lX9_rowAt
set_option maxRecDepth 20000 in
theorem suX9_rowAt : q_Snd mX9_rowAt uX9_rowAt := by
  refine q_tb_ok ?_
  unfold lX9_rowAt
  refine q_fa (ok_iconst (by decide +kernel : decode cX9_rowAt 0 = .ok (.iconst 1, 1)) rfl (by decide +kernel)) ?_
  refine q_fa (ok_istore (by decide +kernel : decode cX9_rowAt 1 = .ok (.istore 4, 2)) rfl (by decide)) ?_
  refine q_fa (ok_bipush (by decide +kernel : decode cX9_rowAt 3 = .ok (.bipush 64, 2)) rfl (by decide +kernel)) ?_
  refine q_fa (ok_istore (by decide +kernel : decode cX9_rowAt 5 = .ok (.istore 5, 2)) rfl (by decide)) ?_
  refine q_fa (ok_iload_n (by decide +kernel : decode cX9_rowAt 7 = .ok (.iload_n 3, 1)) rfl rfl) ?_
  refine q_fa (ok_istore (by decide +kernel : decode cX9_rowAt 8 = .ok (.istore 6, 2)) rfl (by decide)) ?_
  refine q_fa (ok_iload_n (by decide +kernel : decode cX9_rowAt 10 = .ok (.iload_n 2, 1)) rfl rfl) ?_
  refine q_fa (ok_bipush (by decide +kernel : decode cX9_rowAt 11 = .ok (.bipush 12, 2)) rfl (by decide +kernel)) ?_
  refine q_fa (ok_min (by decide +kernel : decode cX9_rowAt 13 = .ok (.invokestatic 15, 3)) rfl g548 g456 g4 g457) ?_
  refine q_fa (ok_iconst (by decide +kernel : decode cX9_rowAt 16 = .ok (.iconst 1, 1)) rfl (by decide +kernel)) ?_
  refine q_fa (ok_isub (by decide +kernel : decode cX9_rowAt 17 = .ok (.isub, 1)) rfl) ?_
  refine q_fa (ok_istore (by decide +kernel : decode cX9_rowAt 18 = .ok (.istore 7, 2)) rfl (by decide)) ?_
  refine q_fa (ok_iload (by decide +kernel : decode cX9_rowAt 20 = .ok (.iload 7, 2)) rfl) ?_
  refine q_fa (ok_if1lt (by decide +kernel : decode cX9_rowAt 22 = .ok (.ifCond .lt 89, 3)) (by decide) rfl) ?_
  refine q_fa (ok_iconst (by decide +kernel : decode cX9_rowAt 25 = .ok (.iconst 0, 1)) rfl (by decide +kernel)) ?_
  refine q_fa (ok_istore (by decide +kernel : decode cX9_rowAt 26 = .ok (.istore 8, 2)) rfl (by decide)) ?_
  refine q_fa (ok_aload_n (by decide +kernel : decode cX9_rowAt 28 = .ok (.aload_n 0, 1)) rfl rfl) ?_
  refine q_fa (ok_aload_n (by decide +kernel : decode cX9_rowAt 29 = .ok (.aload_n 1, 1)) rfl rfl) ?_
  refine q_fa (ok_iload (by decide +kernel : decode cX9_rowAt 30 = .ok (.iload 5, 2)) rfl) ?_
  refine q_fa (ok_iload (by decide +kernel : decode cX9_rowAt 32 = .ok (.iload 8, 2)) rfl) ?_
  refine q_fa (ok_callV (by decide +kernel : decode cX9_rowAt 34 = .ok (.invokevirtual 27, 3)) rfl kX0_after.1 kX0_after.2.1 kX0_after.2.2.1 kX0_after.2.2.2.1 kX0_after.2.2.2.2 (rfl : vwCl[0]? = some (RX0, TX0, 9)) g529 g530 g550) ?_
  refine q_fa (ok_iload (by decide +kernel : decode cX9_rowAt 37 = .ok (.iload 7, 2)) rfl) ?_
  refine q_fa (ok_callV (by decide +kernel : decode cX9_rowAt 39 = .ok (.invokevirtual 30, 3)) rfl kX9_from.1 kX9_from.2.1 kX9_from.2.2.1 kX9_from.2.2.2.1 kX9_from.2.2.2.2 (rfl : vwCl[9]? = some (RX9, TX9, 1)) g552 g553 g551) ?_
  refine q_fa (ok_istore (by decide +kernel : decode cX9_rowAt 42 = .ok (.istore 9, 2)) rfl (by decide)) ?_
  refine q_fa (ok_iload (by decide +kernel : decode cX9_rowAt 44 = .ok (.iload 8, 2)) rfl) ?_
  refine q_fa (ok_iconst (by decide +kernel : decode cX9_rowAt 46 = .ok (.iconst 2, 1)) rfl (by decide +kernel)) ?_
  refine q_fa (ok_if2ge (by decide +kernel : decode cX9_rowAt 47 = .ok (.if_icmp .ge 39, 3)) (by decide) rfl) ?_
  refine q_fa (ok_iload (by decide +kernel : decode cX9_rowAt 50 = .ok (.iload 6, 2)) rfl) ?_
  refine q_fa (ok_iload (by decide +kernel : decode cX9_rowAt 52 = .ok (.iload 9, 2)) rfl) ?_
  refine q_fa (ok_if2lt (by decide +kernel : decode cX9_rowAt 54 = .ok (.if_icmp .lt 32, 3)) (by decide) rfl) ?_
  refine q_fa (ok_iload (by decide +kernel : decode cX9_rowAt 57 = .ok (.iload 6, 2)) rfl) ?_
  refine q_fa (ok_iload (by decide +kernel : decode cX9_rowAt 59 = .ok (.iload 9, 2)) rfl) ?_
  refine q_fa (ok_isub (by decide +kernel : decode cX9_rowAt 61 = .ok (.isub, 1)) rfl) ?_
  refine q_fa (ok_istore (by decide +kernel : decode cX9_rowAt 62 = .ok (.istore 6, 2)) rfl (by decide)) ?_
  refine q_fa (ok_iinc (by decide +kernel : decode cX9_rowAt 64 = .ok (.iinc 8 1, 3)) rfl (by decide +kernel) (by decide)) ?_
  refine q_fa (ok_aload_n (by decide +kernel : decode cX9_rowAt 67 = .ok (.aload_n 0, 1)) rfl rfl) ?_
  refine q_fa (ok_aload_n (by decide +kernel : decode cX9_rowAt 68 = .ok (.aload_n 1, 1)) rfl rfl) ?_
  refine q_fa (ok_iload (by decide +kernel : decode cX9_rowAt 69 = .ok (.iload 5, 2)) rfl) ?_
  refine q_fa (ok_iload (by decide +kernel : decode cX9_rowAt 71 = .ok (.iload 8, 2)) rfl) ?_
  refine q_fa (ok_callV (by decide +kernel : decode cX9_rowAt 73 = .ok (.invokevirtual 27, 3)) rfl kX0_after.1 kX0_after.2.1 kX0_after.2.2.1 kX0_after.2.2.2.1 kX0_after.2.2.2.2 (rfl : vwCl[0]? = some (RX0, TX0, 9)) g529 g530 g550) ?_
  refine q_fa (ok_iload (by decide +kernel : decode cX9_rowAt 76 = .ok (.iload 7, 2)) rfl) ?_
  refine q_fa (ok_callV (by decide +kernel : decode cX9_rowAt 78 = .ok (.invokevirtual 30, 3)) rfl kX9_from.1 kX9_from.2.1 kX9_from.2.2.1 kX9_from.2.2.2.1 kX9_from.2.2.2.2 (rfl : vwCl[9]? = some (RX9, TX9, 1)) g552 g553 g551) ?_
  refine q_fa (ok_istore (by decide +kernel : decode cX9_rowAt 81 = .ok (.istore 9, 2)) rfl (by decide)) ?_
  refine q_fa (ok_goto (by decide +kernel : decode cX9_rowAt 83 = .ok (.goto (-39), 3)) (by decide)) ?_
  refine q_fa (ok_iload (by decide +kernel : decode cX9_rowAt 86 = .ok (.iload 4, 2)) rfl) ?_
  refine q_fa (ok_iconst (by decide +kernel : decode cX9_rowAt 88 = .ok (.iconst 3, 1)) rfl (by decide +kernel)) ?_
  refine q_fa (ok_imul (by decide +kernel : decode cX9_rowAt 89 = .ok (.imul, 1)) rfl) ?_
  refine q_fa (ok_iload (by decide +kernel : decode cX9_rowAt 90 = .ok (.iload 8, 2)) rfl) ?_
  refine q_fa (ok_iadd (by decide +kernel : decode cX9_rowAt 92 = .ok (.iadd, 1)) rfl) ?_
  refine q_fa (ok_istore (by decide +kernel : decode cX9_rowAt 93 = .ok (.istore 4, 2)) rfl (by decide)) ?_
  refine q_fa (ok_aload_n (by decide +kernel : decode cX9_rowAt 95 = .ok (.aload_n 1, 1)) rfl rfl) ?_
  refine q_fa (ok_iload (by decide +kernel : decode cX9_rowAt 96 = .ok (.iload 5, 2)) rfl) ?_
  refine q_fa (ok_iload (by decide +kernel : decode cX9_rowAt 98 = .ok (.iload 8, 2)) rfl) ?_
  refine q_fa (ok_callV (by decide +kernel : decode cX9_rowAt 100 = .ok (.invokevirtual 27, 3)) rfl kX0_after.1 kX0_after.2.1 kX0_after.2.2.1 kX0_after.2.2.2.1 kX0_after.2.2.2.2 (rfl : vwCl[0]? = some (RX0, TX0, 9)) g529 g530 g550) ?_
  refine q_fa (ok_istore (by decide +kernel : decode cX9_rowAt 103 = .ok (.istore 5, 2)) rfl (by decide)) ?_
  refine q_fa (ok_iinc (by decide +kernel : decode cX9_rowAt 105 = .ok (.iinc 7 (-1), 3)) rfl (by decide +kernel) (by decide)) ?_
  refine q_fa (ok_goto (by decide +kernel : decode cX9_rowAt 108 = .ok (.goto (-88), 3)) (by decide)) ?_
  refine q_fa (ok_iload (by decide +kernel : decode cX9_rowAt 111 = .ok (.iload 4, 2)) rfl) ?_
  refine q_fa (ok_iret (by decide +kernel : decode cX9_rowAt 113 = .ok (.ireturn, 1)) rfl) ?_
  exact q_fa0
theorem exX9_rowAt : ∃ t : Nat → qP, t = uX9_rowAt := ⟨_, rfl⟩
noncomputable def tX9_rowAt : Nat → qP := Classical.choose exX9_rowAt
theorem teX9_rowAt : tX9_rowAt = uX9_rowAt := Classical.choose_spec exX9_rowAt
theorem sX9_rowAt : q_Snd mX9_rowAt tX9_rowAt := by rw [teX9_rowAt]; exact suX9_rowAt
theorem tX9_rowAt_0 : tX9_rowAt 0 = oK (.int (nI 1)) 1 := (congrFun teX9_rowAt 0).trans rfl
theorem tX9_rowAt_1 : tX9_rowAt 1 = oIs 4 3 := (congrFun teX9_rowAt 1).trans rfl
theorem tX9_rowAt_3 : tX9_rowAt 3 = oK (.int (nI 64)) 5 := (congrFun teX9_rowAt 3).trans rfl
theorem tX9_rowAt_5 : tX9_rowAt 5 = oIs 5 7 := (congrFun teX9_rowAt 5).trans rfl
theorem tX9_rowAt_7 : tX9_rowAt 7 = oIl 3 8 := (congrFun teX9_rowAt 7).trans rfl
theorem tX9_rowAt_8 : tX9_rowAt 8 = oIs 6 10 := (congrFun teX9_rowAt 8).trans rfl
theorem tX9_rowAt_10 : tX9_rowAt 10 = oIl 2 11 := (congrFun teX9_rowAt 10).trans rfl
theorem tX9_rowAt_11 : tX9_rowAt 11 = oK (.int (nI 12)) 13 := (congrFun teX9_rowAt 11).trans rfl
theorem tX9_rowAt_13 : tX9_rowAt 13 = oMin 16 := (congrFun teX9_rowAt 13).trans rfl
theorem tX9_rowAt_16 : tX9_rowAt 16 = oK (.int (nI 1)) 17 := (congrFun teX9_rowAt 16).trans rfl
theorem tX9_rowAt_17 : tX9_rowAt 17 = oSub 18 := (congrFun teX9_rowAt 17).trans rfl
theorem tX9_rowAt_18 : tX9_rowAt 18 = oIs 7 20 := (congrFun teX9_rowAt 18).trans rfl
theorem tX9_rowAt_20 : tX9_rowAt 20 = oIl 7 22 := (congrFun teX9_rowAt 20).trans rfl
theorem tX9_rowAt_22 : tX9_rowAt 22 = oIf1lt 111 25 := (congrFun teX9_rowAt 22).trans rfl
theorem tX9_rowAt_25 : tX9_rowAt 25 = oK (.int (nI 0)) 26 := (congrFun teX9_rowAt 25).trans rfl
theorem tX9_rowAt_26 : tX9_rowAt 26 = oIs 8 28 := (congrFun teX9_rowAt 26).trans rfl
theorem tX9_rowAt_28 : tX9_rowAt 28 = oAl 0 29 := (congrFun teX9_rowAt 28).trans rfl
theorem tX9_rowAt_29 : tX9_rowAt 29 = oAl 1 30 := (congrFun teX9_rowAt 29).trans rfl
theorem tX9_rowAt_30 : tX9_rowAt 30 = oIl 5 32 := (congrFun teX9_rowAt 30).trans rfl
theorem tX9_rowAt_32 : tX9_rowAt 32 = oIl 8 34 := (congrFun teX9_rowAt 32).trans rfl
theorem tX9_rowAt_34 : tX9_rowAt 34 = oCallV 0 mX0_after 2 37 := (congrFun teX9_rowAt 34).trans rfl
theorem tX9_rowAt_37 : tX9_rowAt 37 = oIl 7 39 := (congrFun teX9_rowAt 37).trans rfl
theorem tX9_rowAt_39 : tX9_rowAt 39 = oCallV 9 mX9_from 2 42 := (congrFun teX9_rowAt 39).trans rfl
theorem tX9_rowAt_42 : tX9_rowAt 42 = oIs 9 44 := (congrFun teX9_rowAt 42).trans rfl
theorem tX9_rowAt_44 : tX9_rowAt 44 = oIl 8 46 := (congrFun teX9_rowAt 44).trans rfl
theorem tX9_rowAt_46 : tX9_rowAt 46 = oK (.int (nI 2)) 47 := (congrFun teX9_rowAt 46).trans rfl
theorem tX9_rowAt_47 : tX9_rowAt 47 = oIf2ge 86 50 := (congrFun teX9_rowAt 47).trans rfl
theorem tX9_rowAt_50 : tX9_rowAt 50 = oIl 6 52 := (congrFun teX9_rowAt 50).trans rfl
theorem tX9_rowAt_52 : tX9_rowAt 52 = oIl 9 54 := (congrFun teX9_rowAt 52).trans rfl
theorem tX9_rowAt_54 : tX9_rowAt 54 = oIf2lt 86 57 := (congrFun teX9_rowAt 54).trans rfl
theorem tX9_rowAt_57 : tX9_rowAt 57 = oIl 6 59 := (congrFun teX9_rowAt 57).trans rfl
theorem tX9_rowAt_59 : tX9_rowAt 59 = oIl 9 61 := (congrFun teX9_rowAt 59).trans rfl
theorem tX9_rowAt_61 : tX9_rowAt 61 = oSub 62 := (congrFun teX9_rowAt 61).trans rfl
theorem tX9_rowAt_62 : tX9_rowAt 62 = oIs 6 64 := (congrFun teX9_rowAt 62).trans rfl
theorem tX9_rowAt_64 : tX9_rowAt 64 = oInc 8 (nI 1) 67 := (congrFun teX9_rowAt 64).trans rfl
theorem tX9_rowAt_67 : tX9_rowAt 67 = oAl 0 68 := (congrFun teX9_rowAt 67).trans rfl
theorem tX9_rowAt_68 : tX9_rowAt 68 = oAl 1 69 := (congrFun teX9_rowAt 68).trans rfl
theorem tX9_rowAt_69 : tX9_rowAt 69 = oIl 5 71 := (congrFun teX9_rowAt 69).trans rfl
theorem tX9_rowAt_71 : tX9_rowAt 71 = oIl 8 73 := (congrFun teX9_rowAt 71).trans rfl
theorem tX9_rowAt_73 : tX9_rowAt 73 = oCallV 0 mX0_after 2 76 := (congrFun teX9_rowAt 73).trans rfl
theorem tX9_rowAt_76 : tX9_rowAt 76 = oIl 7 78 := (congrFun teX9_rowAt 76).trans rfl
theorem tX9_rowAt_78 : tX9_rowAt 78 = oCallV 9 mX9_from 2 81 := (congrFun teX9_rowAt 78).trans rfl
theorem tX9_rowAt_81 : tX9_rowAt 81 = oIs 9 83 := (congrFun teX9_rowAt 81).trans rfl
theorem tX9_rowAt_83 : tX9_rowAt 83 = oGo 44 := (congrFun teX9_rowAt 83).trans rfl
theorem tX9_rowAt_86 : tX9_rowAt 86 = oIl 4 88 := (congrFun teX9_rowAt 86).trans rfl
theorem tX9_rowAt_88 : tX9_rowAt 88 = oK (.int (nI 3)) 89 := (congrFun teX9_rowAt 88).trans rfl
theorem tX9_rowAt_89 : tX9_rowAt 89 = oMul 90 := (congrFun teX9_rowAt 89).trans rfl
theorem tX9_rowAt_90 : tX9_rowAt 90 = oIl 8 92 := (congrFun teX9_rowAt 90).trans rfl
theorem tX9_rowAt_92 : tX9_rowAt 92 = oAdd 93 := (congrFun teX9_rowAt 92).trans rfl
theorem tX9_rowAt_93 : tX9_rowAt 93 = oIs 4 95 := (congrFun teX9_rowAt 93).trans rfl
theorem tX9_rowAt_95 : tX9_rowAt 95 = oAl 1 96 := (congrFun teX9_rowAt 95).trans rfl
theorem tX9_rowAt_96 : tX9_rowAt 96 = oIl 5 98 := (congrFun teX9_rowAt 96).trans rfl
theorem tX9_rowAt_98 : tX9_rowAt 98 = oIl 8 100 := (congrFun teX9_rowAt 98).trans rfl
theorem tX9_rowAt_100 : tX9_rowAt 100 = oCallV 0 mX0_after 2 103 := (congrFun teX9_rowAt 100).trans rfl
theorem tX9_rowAt_103 : tX9_rowAt 103 = oIs 5 105 := (congrFun teX9_rowAt 103).trans rfl
theorem tX9_rowAt_105 : tX9_rowAt 105 = oInc 7 (-1) 108 := (congrFun teX9_rowAt 105).trans rfl
theorem tX9_rowAt_108 : tX9_rowAt 108 = oGo 20 := (congrFun teX9_rowAt 108).trans rfl
theorem tX9_rowAt_111 : tX9_rowAt 111 = oIl 4 113 := (congrFun teX9_rowAt 111).trans rfl
theorem tX9_rowAt_113 : tX9_rowAt 113 = oIret := (congrFun teX9_rowAt 113).trans rfl
def lX10_init : List (Nat × qP) := [(0, oAl 0 1), (1, oObj 4), (4, oAl 0 5), (5, oK (.int (nI 128)) 8), (8, oNewa 1 10), (10, oPutR 10 0 13), (13, oVret)]
def uX10_init : Nat → qP := q_tb lX10_init
set_option maxRecDepth 20000 in
theorem suX10_init : q_Snd mX10_init uX10_init := by
  refine q_tb_ok ?_
  unfold lX10_init
  refine q_fa (ok_aload_n (by decide +kernel : decode cX10_init 0 = .ok (.aload_n 0, 1)) rfl rfl) ?_
  refine q_fa (ok_obj (by decide +kernel : decode cX10_init 1 = .ok (.invokespecial 3, 3)) rfl g84 g24 g25) ?_
  refine q_fa (ok_aload_n (by decide +kernel : decode cX10_init 4 = .ok (.aload_n 0, 1)) rfl rfl) ?_
  refine q_fa (ok_sipush (by decide +kernel : decode cX10_init 5 = .ok (.sipush 128, 3)) rfl (by decide +kernel)) ?_
  refine q_fa (ok_newa_int (by decide +kernel : decode cX10_init 8 = .ok (.newarray .int, 2)) rfl g56) ?_
  refine q_fa (ok_putR tyX10 (by decide +kernel : decode cX10_init 10 = .ok (.putfield 9, 3)) rfl (rfl : vwCl[10]? = some (RX10, TX10, 2)) inX10 tyX10_ok nmX10 (by decide) g85 (Or.inr ⟨rfl, rfl, rfl⟩) (by decide +kernel : parseFieldDescriptor (TX10 0).2.2.1 = some (tyX10 0)) (q_rfA _)) ?_
  refine q_fa (ok_vret (by decide +kernel : decode cX10_init 13 = .ok (.return_, 1)) rfl) ?_
  exact q_fa0
theorem exX10_init : ∃ t : Nat → qP, t = uX10_init := ⟨_, rfl⟩
noncomputable def tX10_init : Nat → qP := Classical.choose exX10_init
theorem teX10_init : tX10_init = uX10_init := Classical.choose_spec exX10_init
theorem sX10_init : q_Snd mX10_init tX10_init := by rw [teX10_init]; exact suX10_init
theorem tX10_init_0 : tX10_init 0 = oAl 0 1 := (congrFun teX10_init 0).trans rfl
theorem tX10_init_1 : tX10_init 1 = oObj 4 := (congrFun teX10_init 1).trans rfl
theorem tX10_init_4 : tX10_init 4 = oAl 0 5 := (congrFun teX10_init 4).trans rfl
theorem tX10_init_5 : tX10_init 5 = oK (.int (nI 128)) 8 := (congrFun teX10_init 5).trans rfl
theorem tX10_init_8 : tX10_init 8 = oNewa 1 10 := (congrFun teX10_init 8).trans rfl
theorem tX10_init_10 : tX10_init 10 = oPutR 10 0 13 := (congrFun teX10_init 10).trans rfl
theorem tX10_init_13 : tX10_init 13 = oVret := (congrFun teX10_init 13).trans rfl
def lX10_length : List (Nat × qP) := [(0, oAl 0 1), (1, oGet 10 1 4), (4, oIret)]
def uX10_length : Nat → qP := q_tb lX10_length
set_option maxRecDepth 20000 in
theorem suX10_length : q_Snd mX10_length uX10_length := by
  refine q_tb_ok ?_
  unfold lX10_length
  refine q_fa (ok_aload_n (by decide +kernel : decode cX10_length 0 = .ok (.aload_n 0, 1)) rfl rfl) ?_
  refine q_fa (ok_get (by decide +kernel : decode cX10_length 1 = .ok (.getfield 15, 3)) rfl (rfl : vwCl[10]? = some (RX10, TX10, 2)) inX10 (by decide) g86) ?_
  refine q_fa (ok_iret (by decide +kernel : decode cX10_length 4 = .ok (.ireturn, 1)) rfl) ?_
  exact q_fa0
theorem exX10_length : ∃ t : Nat → qP, t = uX10_length := ⟨_, rfl⟩
noncomputable def tX10_length : Nat → qP := Classical.choose exX10_length
theorem teX10_length : tX10_length = uX10_length := Classical.choose_spec exX10_length
theorem sX10_length : q_Snd mX10_length tX10_length := by rw [teX10_length]; exact suX10_length
theorem tX10_length_0 : tX10_length 0 = oAl 0 1 := (congrFun teX10_length 0).trans rfl
theorem tX10_length_1 : tX10_length 1 = oGet 10 1 4 := (congrFun teX10_length 1).trans rfl
theorem tX10_length_4 : tX10_length 4 = oIret := (congrFun teX10_length 4).trans rfl
def lX10_signAt : List (Nat × qP) := [(0, oIl 1 1), (1, oIf1lt 30 4), (4, oIl 1 5), (5, oAl 0 6), (6, oGet 10 1 9), (9, oIf2ge 30 12), (12, oIl 1 13), (13, oAl 0 14), (14, oGet 10 0 17), (17, oAlen 18), (18, oIf2ge 30 21), (21, oAl 0 22), (22, oGet 10 0 25), (25, oIl 1 26), (26, oIald 27), (27, oGo 31), (30, oK (.int (-1)) 31), (31, oIret)]
def uX10_signAt : Nat → qP := q_tb lX10_signAt
set_option maxRecDepth 20000 in
theorem suX10_signAt : q_Snd mX10_signAt uX10_signAt := by
  refine q_tb_ok ?_
  unfold lX10_signAt
  refine q_fa (ok_iload_n (by decide +kernel : decode cX10_signAt 0 = .ok (.iload_n 1, 1)) rfl rfl) ?_
  refine q_fa (ok_if1lt (by decide +kernel : decode cX10_signAt 1 = .ok (.ifCond .lt 29, 3)) (by decide) rfl) ?_
  refine q_fa (ok_iload_n (by decide +kernel : decode cX10_signAt 4 = .ok (.iload_n 1, 1)) rfl rfl) ?_
  refine q_fa (ok_aload_n (by decide +kernel : decode cX10_signAt 5 = .ok (.aload_n 0, 1)) rfl rfl) ?_
  refine q_fa (ok_get (by decide +kernel : decode cX10_signAt 6 = .ok (.getfield 15, 3)) rfl (rfl : vwCl[10]? = some (RX10, TX10, 2)) inX10 (by decide) g86) ?_
  refine q_fa (ok_if2ge (by decide +kernel : decode cX10_signAt 9 = .ok (.if_icmp .ge 21, 3)) (by decide) rfl) ?_
  refine q_fa (ok_iload_n (by decide +kernel : decode cX10_signAt 12 = .ok (.iload_n 1, 1)) rfl rfl) ?_
  refine q_fa (ok_aload_n (by decide +kernel : decode cX10_signAt 13 = .ok (.aload_n 0, 1)) rfl rfl) ?_
  refine q_fa (ok_get (by decide +kernel : decode cX10_signAt 14 = .ok (.getfield 9, 3)) rfl (rfl : vwCl[10]? = some (RX10, TX10, 2)) inX10 (by decide) g85) ?_
  refine q_fa (ok_alen (by decide +kernel : decode cX10_signAt 17 = .ok (.arraylength, 1)) rfl) ?_
  refine q_fa (ok_if2ge (by decide +kernel : decode cX10_signAt 18 = .ok (.if_icmp .ge 12, 3)) (by decide) rfl) ?_
  refine q_fa (ok_aload_n (by decide +kernel : decode cX10_signAt 21 = .ok (.aload_n 0, 1)) rfl rfl) ?_
  refine q_fa (ok_get (by decide +kernel : decode cX10_signAt 22 = .ok (.getfield 9, 3)) rfl (rfl : vwCl[10]? = some (RX10, TX10, 2)) inX10 (by decide) g85) ?_
  refine q_fa (ok_iload_n (by decide +kernel : decode cX10_signAt 25 = .ok (.iload_n 1, 1)) rfl rfl) ?_
  refine q_fa (ok_iaload (by decide +kernel : decode cX10_signAt 26 = .ok (.iaload, 1)) rfl) ?_
  refine q_fa (ok_goto (by decide +kernel : decode cX10_signAt 27 = .ok (.goto 4, 3)) (by decide)) ?_
  refine q_fa (ok_iconst (by decide +kernel : decode cX10_signAt 30 = .ok (.iconst (-1), 1)) rfl (by decide +kernel)) ?_
  refine q_fa (ok_iret (by decide +kernel : decode cX10_signAt 31 = .ok (.ireturn, 1)) rfl) ?_
  exact q_fa0
theorem exX10_signAt : ∃ t : Nat → qP, t = uX10_signAt := ⟨_, rfl⟩
noncomputable def tX10_signAt : Nat → qP := Classical.choose exX10_signAt
theorem teX10_signAt : tX10_signAt = uX10_signAt := Classical.choose_spec exX10_signAt
theorem sX10_signAt : q_Snd mX10_signAt tX10_signAt := by rw [teX10_signAt]; exact suX10_signAt
theorem tX10_signAt_0 : tX10_signAt 0 = oIl 1 1 := (congrFun teX10_signAt 0).trans rfl
theorem tX10_signAt_1 : tX10_signAt 1 = oIf1lt 30 4 := (congrFun teX10_signAt 1).trans rfl
theorem tX10_signAt_4 : tX10_signAt 4 = oIl 1 5 := (congrFun teX10_signAt 4).trans rfl
theorem tX10_signAt_5 : tX10_signAt 5 = oAl 0 6 := (congrFun teX10_signAt 5).trans rfl
theorem tX10_signAt_6 : tX10_signAt 6 = oGet 10 1 9 := (congrFun teX10_signAt 6).trans rfl
theorem tX10_signAt_9 : tX10_signAt 9 = oIf2ge 30 12 := (congrFun teX10_signAt 9).trans rfl
theorem tX10_signAt_12 : tX10_signAt 12 = oIl 1 13 := (congrFun teX10_signAt 12).trans rfl
theorem tX10_signAt_13 : tX10_signAt 13 = oAl 0 14 := (congrFun teX10_signAt 13).trans rfl
theorem tX10_signAt_14 : tX10_signAt 14 = oGet 10 0 17 := (congrFun teX10_signAt 14).trans rfl
theorem tX10_signAt_17 : tX10_signAt 17 = oAlen 18 := (congrFun teX10_signAt 17).trans rfl
theorem tX10_signAt_18 : tX10_signAt 18 = oIf2ge 30 21 := (congrFun teX10_signAt 18).trans rfl
theorem tX10_signAt_21 : tX10_signAt 21 = oAl 0 22 := (congrFun teX10_signAt 21).trans rfl
theorem tX10_signAt_22 : tX10_signAt 22 = oGet 10 0 25 := (congrFun teX10_signAt 22).trans rfl
theorem tX10_signAt_25 : tX10_signAt 25 = oIl 1 26 := (congrFun teX10_signAt 25).trans rfl
theorem tX10_signAt_26 : tX10_signAt 26 = oIald 27 := (congrFun teX10_signAt 26).trans rfl
theorem tX10_signAt_27 : tX10_signAt 27 = oGo 31 := (congrFun teX10_signAt 27).trans rfl
theorem tX10_signAt_30 : tX10_signAt 30 = oK (.int (-1)) 31 := (congrFun teX10_signAt 30).trans rfl
theorem tX10_signAt_31 : tX10_signAt 31 = oIret := (congrFun teX10_signAt 31).trans rfl
def lX10_write : List (Nat × qP) := [(0, oAl 0 1), (1, oK (.int (nI 0)) 2), (2, oPutI 10 1 5), (5, oAl 0 6), (6, oAl 1 7), (7, oAl 1 8), (8, oCallV 4 mX4_size 0 11), (11, oK (.int (nI 1)) 12), (12, oSub 13), (13, oK (.int (nI 0)) 14), (14, oCallS mX10_writeNode 4 17), (17, oVret)]
def uX10_write : Nat → qP := q_tb lX10_write
set_option maxRecDepth 20000 in
theorem suX10_write : q_Snd mX10_write uX10_write := by
  refine q_tb_ok ?_
  unfold lX10_write
  refine q_fa (ok_aload_n (by decide +kernel : decode cX10_write 0 = .ok (.aload_n 0, 1)) rfl rfl) ?_
  refine q_fa (ok_iconst (by decide +kernel : decode cX10_write 1 = .ok (.iconst 0, 1)) rfl (by decide +kernel)) ?_
  refine q_fa (ok_putI tyX10 (by decide +kernel : decode cX10_write 2 = .ok (.putfield 15, 3)) rfl (rfl : vwCl[10]? = some (RX10, TX10, 2)) inX10 tyX10_ok nmX10 (by decide) g86 (Or.inl rfl) (by decide +kernel)) ?_
  refine q_fa (ok_aload_n (by decide +kernel : decode cX10_write 5 = .ok (.aload_n 0, 1)) rfl rfl) ?_
  refine q_fa (ok_aload_n (by decide +kernel : decode cX10_write 6 = .ok (.aload_n 1, 1)) rfl rfl) ?_
  refine q_fa (ok_aload_n (by decide +kernel : decode cX10_write 7 = .ok (.aload_n 1, 1)) rfl rfl) ?_
  refine q_fa (ok_callV (by decide +kernel : decode cX10_write 8 = .ok (.invokevirtual 19, 3)) rfl kX4_size.1 kX4_size.2.1 kX4_size.2.2.1 kX4_size.2.2.2.1 kX4_size.2.2.2.2 (rfl : vwCl[4]? = some (RX4, TX4, 4)) g307 g308 g351) ?_
  refine q_fa (ok_iconst (by decide +kernel : decode cX10_write 11 = .ok (.iconst 1, 1)) rfl (by decide +kernel)) ?_
  refine q_fa (ok_isub (by decide +kernel : decode cX10_write 12 = .ok (.isub, 1)) rfl) ?_
  refine q_fa (ok_iconst (by decide +kernel : decode cX10_write 13 = .ok (.iconst 0, 1)) rfl (by decide +kernel)) ?_
  refine q_fa (ok_callS (by decide +kernel : decode cX10_write 14 = .ok (.invokestatic 25, 3)) rfl kX10_writeNode.1 kX10_writeNode.2.1 kX10_writeNode.2.2.1 kX10_writeNode.2.2.2.1 kX10_writeNode.2.2.2.2 g353 g352) ?_
  refine q_fa (ok_vret (by decide +kernel : decode cX10_write 17 = .ok (.return_, 1)) rfl) ?_
  exact q_fa0
theorem exX10_write : ∃ t : Nat → qP, t = uX10_write := ⟨_, rfl⟩
noncomputable def tX10_write : Nat → qP := Classical.choose exX10_write
theorem teX10_write : tX10_write = uX10_write := Classical.choose_spec exX10_write
theorem sX10_write : q_Snd mX10_write tX10_write := by rw [teX10_write]; exact suX10_write
theorem tX10_write_0 : tX10_write 0 = oAl 0 1 := (congrFun teX10_write 0).trans rfl
theorem tX10_write_1 : tX10_write 1 = oK (.int (nI 0)) 2 := (congrFun teX10_write 1).trans rfl
theorem tX10_write_2 : tX10_write 2 = oPutI 10 1 5 := (congrFun teX10_write 2).trans rfl
theorem tX10_write_5 : tX10_write 5 = oAl 0 6 := (congrFun teX10_write 5).trans rfl
theorem tX10_write_6 : tX10_write 6 = oAl 1 7 := (congrFun teX10_write 6).trans rfl
theorem tX10_write_7 : tX10_write 7 = oAl 1 8 := (congrFun teX10_write 7).trans rfl
theorem tX10_write_8 : tX10_write 8 = oCallV 4 mX4_size 0 11 := (congrFun teX10_write 8).trans rfl
theorem tX10_write_11 : tX10_write 11 = oK (.int (nI 1)) 12 := (congrFun teX10_write 11).trans rfl
theorem tX10_write_12 : tX10_write 12 = oSub 13 := (congrFun teX10_write 12).trans rfl
theorem tX10_write_13 : tX10_write 13 = oK (.int (nI 0)) 14 := (congrFun teX10_write 13).trans rfl
theorem tX10_write_14 : tX10_write 14 = oCallS mX10_writeNode 4 17 := (congrFun teX10_write 14).trans rfl
theorem tX10_write_17 : tX10_write 17 = oVret := (congrFun teX10_write 17).trans rfl
def lX10_put : List (Nat × qP) := [(0, oAl 0 1), (1, oGet 10 1 4), (4, oAl 0 5), (5, oGet 10 0 8), (8, oAlen 9), (9, oIf2ge 32 12), (12, oAl 0 13), (13, oGet 10 0 16), (16, oAl 0 17), (17, oGet 10 1 20), (20, oIl 1 21), (21, oIast 22), (22, oAl 0 23), (23, oDup 24), (24, oGet 10 1 27), (27, oK (.int (nI 1)) 28), (28, oAdd 29), (29, oPutI 10 1 32), (32, oVret)]
def uX10_put : Nat → qP := q_tb lX10_put
set_option maxRecDepth 20000 in
theorem suX10_put : q_Snd mX10_put uX10_put := by
  refine q_tb_ok ?_
  unfold lX10_put
  refine q_fa (ok_aload_n (by decide +kernel : decode cX10_put 0 = .ok (.aload_n 0, 1)) rfl rfl) ?_
  refine q_fa (ok_get (by decide +kernel : decode cX10_put 1 = .ok (.getfield 15, 3)) rfl (rfl : vwCl[10]? = some (RX10, TX10, 2)) inX10 (by decide) g86) ?_
  refine q_fa (ok_aload_n (by decide +kernel : decode cX10_put 4 = .ok (.aload_n 0, 1)) rfl rfl) ?_
  refine q_fa (ok_get (by decide +kernel : decode cX10_put 5 = .ok (.getfield 9, 3)) rfl (rfl : vwCl[10]? = some (RX10, TX10, 2)) inX10 (by decide) g85) ?_
  refine q_fa (ok_alen (by decide +kernel : decode cX10_put 8 = .ok (.arraylength, 1)) rfl) ?_
  refine q_fa (ok_if2ge (by decide +kernel : decode cX10_put 9 = .ok (.if_icmp .ge 23, 3)) (by decide) rfl) ?_
  refine q_fa (ok_aload_n (by decide +kernel : decode cX10_put 12 = .ok (.aload_n 0, 1)) rfl rfl) ?_
  refine q_fa (ok_get (by decide +kernel : decode cX10_put 13 = .ok (.getfield 9, 3)) rfl (rfl : vwCl[10]? = some (RX10, TX10, 2)) inX10 (by decide) g85) ?_
  refine q_fa (ok_aload_n (by decide +kernel : decode cX10_put 16 = .ok (.aload_n 0, 1)) rfl rfl) ?_
  refine q_fa (ok_get (by decide +kernel : decode cX10_put 17 = .ok (.getfield 15, 3)) rfl (rfl : vwCl[10]? = some (RX10, TX10, 2)) inX10 (by decide) g86) ?_
  refine q_fa (ok_iload_n (by decide +kernel : decode cX10_put 20 = .ok (.iload_n 1, 1)) rfl rfl) ?_
  refine q_fa (ok_iastore (by decide +kernel : decode cX10_put 21 = .ok (.iastore, 1)) rfl) ?_
  refine q_fa (ok_aload_n (by decide +kernel : decode cX10_put 22 = .ok (.aload_n 0, 1)) rfl rfl) ?_
  refine q_fa (ok_dup (by decide +kernel : decode cX10_put 23 = .ok (.dup, 1)) rfl) ?_
  refine q_fa (ok_get (by decide +kernel : decode cX10_put 24 = .ok (.getfield 15, 3)) rfl (rfl : vwCl[10]? = some (RX10, TX10, 2)) inX10 (by decide) g86) ?_
  refine q_fa (ok_iconst (by decide +kernel : decode cX10_put 27 = .ok (.iconst 1, 1)) rfl (by decide +kernel)) ?_
  refine q_fa (ok_iadd (by decide +kernel : decode cX10_put 28 = .ok (.iadd, 1)) rfl) ?_
  refine q_fa (ok_putI tyX10 (by decide +kernel : decode cX10_put 29 = .ok (.putfield 15, 3)) rfl (rfl : vwCl[10]? = some (RX10, TX10, 2)) inX10 tyX10_ok nmX10 (by decide) g86 (Or.inl rfl) (by decide +kernel)) ?_
  refine q_fa (ok_vret (by decide +kernel : decode cX10_put 32 = .ok (.return_, 1)) rfl) ?_
  exact q_fa0
theorem exX10_put : ∃ t : Nat → qP, t = uX10_put := ⟨_, rfl⟩
noncomputable def tX10_put : Nat → qP := Classical.choose exX10_put
theorem teX10_put : tX10_put = uX10_put := Classical.choose_spec exX10_put
theorem sX10_put : q_Snd mX10_put tX10_put := by rw [teX10_put]; exact suX10_put
theorem tX10_put_0 : tX10_put 0 = oAl 0 1 := (congrFun teX10_put 0).trans rfl
theorem tX10_put_1 : tX10_put 1 = oGet 10 1 4 := (congrFun teX10_put 1).trans rfl
theorem tX10_put_4 : tX10_put 4 = oAl 0 5 := (congrFun teX10_put 4).trans rfl
theorem tX10_put_5 : tX10_put 5 = oGet 10 0 8 := (congrFun teX10_put 5).trans rfl
theorem tX10_put_8 : tX10_put 8 = oAlen 9 := (congrFun teX10_put 8).trans rfl
theorem tX10_put_9 : tX10_put 9 = oIf2ge 32 12 := (congrFun teX10_put 9).trans rfl
theorem tX10_put_12 : tX10_put 12 = oAl 0 13 := (congrFun teX10_put 12).trans rfl
theorem tX10_put_13 : tX10_put 13 = oGet 10 0 16 := (congrFun teX10_put 13).trans rfl
theorem tX10_put_16 : tX10_put 16 = oAl 0 17 := (congrFun teX10_put 16).trans rfl
theorem tX10_put_17 : tX10_put 17 = oGet 10 1 20 := (congrFun teX10_put 17).trans rfl
theorem tX10_put_20 : tX10_put 20 = oIl 1 21 := (congrFun teX10_put 20).trans rfl
theorem tX10_put_21 : tX10_put 21 = oIast 22 := (congrFun teX10_put 21).trans rfl
theorem tX10_put_22 : tX10_put 22 = oAl 0 23 := (congrFun teX10_put 22).trans rfl
theorem tX10_put_23 : tX10_put 23 = oDup 24 := (congrFun teX10_put 23).trans rfl
theorem tX10_put_24 : tX10_put 24 = oGet 10 1 27 := (congrFun teX10_put 24).trans rfl
theorem tX10_put_27 : tX10_put 27 = oK (.int (nI 1)) 28 := (congrFun teX10_put 27).trans rfl
theorem tX10_put_28 : tX10_put 28 = oAdd 29 := (congrFun teX10_put 28).trans rfl
theorem tX10_put_29 : tX10_put 29 = oPutI 10 1 32 := (congrFun teX10_put 29).trans rfl
theorem tX10_put_32 : tX10_put 32 = oVret := (congrFun teX10_put 32).trans rfl
def lX10_writeNode : List (Nat × qP) := [(0, oIl 3 1), (1, oK (.int (nI 12)) 3), (3, oIf2lt 7 6), (6, oVret), (7, oAl 1 8), (8, oIl 2 9), (9, oCallV 4 mX4_kindOf 1 12), (12, oIs 4 14), (14, oAl 1 15), (15, oIl 2 16), (16, oCallV 4 mX4_leftOf 1 19), (19, oIs 5 21), (21, oAl 1 22), (22, oIl 2 23), (23, oCallV 4 mX4_rightOf 1 26), (26, oIs 6 28), (28, oIl 4 30), (30, oTab 0 [68, 80, 89, 138, 179, 179] 216), (68, oAl 0 69), (69, oK (.int (nI 97)) 71), (71, oIl 5 73), (73, oAdd 74), (74, oCallV 10 mX10_put 1 77), (77, oGo 216), (80, oAl 0 81), (81, oIl 5 83), (83, oCallV 10 mX10_putClass 1 86), (86, oGo 216), (89, oAl 0 90), (90, oAl 1 91), (91, oIl 5 93), (93, oAl 1 94), (94, oIl 5 96), (96, oCallV 4 mX4_kindOf 1 99), (99, oK (.int (nI 3)) 100), (100, oIf2ne 107 103), (103, oK (.int (nI 1)) 104), (104, oGo 108), (107, oK (.int (nI 0)) 108), (108, oIl 3 109), (109, oCallS mX10_writePart 5 112), (112, oAl 0 113), (113, oAl 1 114), (114, oIl 6 116), (116, oAl 1 117), (117, oIl 6 119), (119, oCallV 4 mX4_kindOf 1 122), (122, oK (.int (nI 3)) 123), (123, oIf2ne 130 126), (126, oK (.int (nI 1)) 127), (127, oGo 131), (130, oK (.int (nI 0)) 131), (131, oIl 3 132), (132, oCallS mX10_writePart 5 135), (135, oGo 216), (138, oAl 0 139), (139, oAl 1 140), (140, oIl 5 142), (142, oAl 1 143), (143, oIl 5 145), (145, oCallV 4 mX4_kindOf 1 148), (148, oK (.int (nI 3)) 149), (149, oIf2ne 156 152), (152, oK (.int (nI 1)) 153), (153, oGo 157), (156, oK (.int (nI 0)) 157), (157, oIl 3 158), (158, oCallS mX10_writePart 5 161), (161, oAl 0 162), (162, oK (.int (nI 124)) 164), (164, oCallV 10 mX10_put 1 167), (167, oAl 0 168), (168, oAl 1 169), (169, oIl 6 171), (171, oK (.int (nI 0)) 172), (172, oIl 3 173), (173, oCallS mX10_writePart 5 176), (176, oGo 216), (179, oAl 0 180), (180, oAl 1 181), (181, oIl 5 183), (183, oAl 1 184), (184, oIl 5 186), (186, oCallV 4 mX4_kindOf 1 189), (189, oCallS mX11_hasTwoParts 1 192), (192, oIl 3 193), (193, oCallS mX10_writePart 5 196), (196, oAl 0 197), (197, oIl 4 199), (199, oK (.int (nI 4)) 200), (200, oIf2ne 208 203), (203, oK (.int (nI 43)) 205), (205, oGo 210), (208, oK (.int (nI 63)) 210), (210, oCallV 10 mX10_put 1 213), (213, oGo 216), (216, oVret)]
def uX10_writeNode : Nat → qP := q_tb lX10_writeNode
set_option maxRecDepth 20000 in
theorem suX10_writeNode : q_Snd mX10_writeNode uX10_writeNode := by
  refine q_tb_ok ?_
  unfold lX10_writeNode
  refine q_fa (ok_iload_n (by decide +kernel : decode cX10_writeNode 0 = .ok (.iload_n 3, 1)) rfl rfl) ?_
  refine q_fa (ok_bipush (by decide +kernel : decode cX10_writeNode 1 = .ok (.bipush 12, 2)) rfl (by decide +kernel)) ?_
  refine q_fa (ok_if2lt (by decide +kernel : decode cX10_writeNode 3 = .ok (.if_icmp .lt 4, 3)) (by decide) rfl) ?_
  refine q_fa (ok_vret (by decide +kernel : decode cX10_writeNode 6 = .ok (.return_, 1)) rfl) ?_
  refine q_fa (ok_aload_n (by decide +kernel : decode cX10_writeNode 7 = .ok (.aload_n 1, 1)) rfl rfl) ?_
  refine q_fa (ok_iload_n (by decide +kernel : decode cX10_writeNode 8 = .ok (.iload_n 2, 1)) rfl rfl) ?_
  refine q_fa (ok_callV (by decide +kernel : decode cX10_writeNode 9 = .ok (.invokevirtual 29, 3)) rfl kX4_kindOf.1 kX4_kindOf.2.1 kX4_kindOf.2.2.1 kX4_kindOf.2.2.2.1 kX4_kindOf.2.2.2.2 (rfl : vwCl[4]? = some (RX4, TX4, 4)) g287 g288 g355) ?_
  refine q_fa (ok_istore (by decide +kernel : decode cX10_writeNode 12 = .ok (.istore 4, 2)) rfl (by decide)) ?_
  refine q_fa (ok_aload_n (by decide +kernel : decode cX10_writeNode 14 = .ok (.aload_n 1, 1)) rfl rfl) ?_
  refine q_fa (ok_iload_n (by decide +kernel : decode cX10_writeNode 15 = .ok (.iload_n 2, 1)) rfl rfl) ?_
  refine q_fa (ok_callV (by decide +kernel : decode cX10_writeNode 16 = .ok (.invokevirtual 33, 3)) rfl kX4_leftOf.1 kX4_leftOf.2.1 kX4_leftOf.2.2.1 kX4_leftOf.2.2.2.1 kX4_leftOf.2.2.2.2 (rfl : vwCl[4]? = some (RX4, TX4, 4)) g322 g323 g356) ?_
  refine q_fa (ok_istore (by decide +kernel : decode cX10_writeNode 19 = .ok (.istore 5, 2)) rfl (by decide)) ?_
  refine q_fa (ok_aload_n (by decide +kernel : decode cX10_writeNode 21 = .ok (.aload_n 1, 1)) rfl rfl) ?_
  refine q_fa (ok_iload_n (by decide +kernel : decode cX10_writeNode 22 = .ok (.iload_n 2, 1)) rfl rfl) ?_
  refine q_fa (ok_callV (by decide +kernel : decode cX10_writeNode 23 = .ok (.invokevirtual 36, 3)) rfl kX4_rightOf.1 kX4_rightOf.2.1 kX4_rightOf.2.2.1 kX4_rightOf.2.2.2.1 kX4_rightOf.2.2.2.2 (rfl : vwCl[4]? = some (RX4, TX4, 4)) g291 g292 g357) ?_
  refine q_fa (ok_istore (by decide +kernel : decode cX10_writeNode 26 = .ok (.istore 6, 2)) rfl (by decide)) ?_
  refine q_fa (ok_iload (by decide +kernel : decode cX10_writeNode 28 = .ok (.iload 4, 2)) rfl) ?_
  refine q_fa (ok_table (by decide +kernel : decode cX10_writeNode 30 = .ok (.tableswitch 186 0 5 #[38, 50, 59, 108, 149, 149], 38)) (by decide) (by decide) (by decide) (by decide) (by decide)) ?_
  refine q_fa (ok_aload_n (by decide +kernel : decode cX10_writeNode 68 = .ok (.aload_n 0, 1)) rfl rfl) ?_
  refine q_fa (ok_bipush (by decide +kernel : decode cX10_writeNode 69 = .ok (.bipush 97, 2)) rfl (by decide +kernel)) ?_
  refine q_fa (ok_iload (by decide +kernel : decode cX10_writeNode 71 = .ok (.iload 5, 2)) rfl) ?_
  refine q_fa (ok_iadd (by decide +kernel : decode cX10_writeNode 73 = .ok (.iadd, 1)) rfl) ?_
  refine q_fa (ok_callV (by decide +kernel : decode cX10_writeNode 74 = .ok (.invokevirtual 39, 3)) rfl kX10_put.1 kX10_put.2.1 kX10_put.2.2.1 kX10_put.2.2.2.1 kX10_put.2.2.2.2 (rfl : vwCl[10]? = some (RX10, TX10, 2)) g360 gs12 g358) ?_
  refine q_fa (ok_goto (by decide +kernel : decode cX10_writeNode 77 = .ok (.goto 139, 3)) (by decide)) ?_
  refine q_fa (ok_aload_n (by decide +kernel : decode cX10_writeNode 80 = .ok (.aload_n 0, 1)) rfl rfl) ?_
  refine q_fa (ok_iload (by decide +kernel : decode cX10_writeNode 81 = .ok (.iload 5, 2)) rfl) ?_
  refine q_fa (ok_callV (by decide +kernel : decode cX10_writeNode 83 = .ok (.invokevirtual 43, 3)) rfl kX10_putClass.1 kX10_putClass.2.1 kX10_putClass.2.2.1 kX10_putClass.2.2.2.1 kX10_putClass.2.2.2.2 (rfl : vwCl[10]? = some (RX10, TX10, 2)) g364 gs13 g362) ?_
  refine q_fa (ok_goto (by decide +kernel : decode cX10_writeNode 86 = .ok (.goto 130, 3)) (by decide)) ?_
  refine q_fa (ok_aload_n (by decide +kernel : decode cX10_writeNode 89 = .ok (.aload_n 0, 1)) rfl rfl) ?_
  refine q_fa (ok_aload_n (by decide +kernel : decode cX10_writeNode 90 = .ok (.aload_n 1, 1)) rfl rfl) ?_
  refine q_fa (ok_iload (by decide +kernel : decode cX10_writeNode 91 = .ok (.iload 5, 2)) rfl) ?_
  refine q_fa (ok_aload_n (by decide +kernel : decode cX10_writeNode 93 = .ok (.aload_n 1, 1)) rfl rfl) ?_
  refine q_fa (ok_iload (by decide +kernel : decode cX10_writeNode 94 = .ok (.iload 5, 2)) rfl) ?_
  refine q_fa (ok_callV (by decide +kernel : decode cX10_writeNode 96 = .ok (.invokevirtual 29, 3)) rfl kX4_kindOf.1 kX4_kindOf.2.1 kX4_kindOf.2.2.1 kX4_kindOf.2.2.2.1 kX4_kindOf.2.2.2.2 (rfl : vwCl[4]? = some (RX4, TX4, 4)) g287 g288 g355) ?_
  refine q_fa (ok_iconst (by decide +kernel : decode cX10_writeNode 99 = .ok (.iconst 3, 1)) rfl (by decide +kernel)) ?_
  refine q_fa (ok_if2ne (by decide +kernel : decode cX10_writeNode 100 = .ok (.if_icmp .ne 7, 3)) (by decide) rfl) ?_
  refine q_fa (ok_iconst (by decide +kernel : decode cX10_writeNode 103 = .ok (.iconst 1, 1)) rfl (by decide +kernel)) ?_
  refine q_fa (ok_goto (by decide +kernel : decode cX10_writeNode 104 = .ok (.goto 4, 3)) (by decide)) ?_
  refine q_fa (ok_iconst (by decide +kernel : decode cX10_writeNode 107 = .ok (.iconst 0, 1)) rfl (by decide +kernel)) ?_
  refine q_fa (ok_iload_n (by decide +kernel : decode cX10_writeNode 108 = .ok (.iload_n 3, 1)) rfl rfl) ?_
  refine q_fa (ok_callS (by decide +kernel : decode cX10_writeNode 109 = .ok (.invokestatic 46, 3)) rfl kX10_writePart.1 kX10_writePart.2.1 kX10_writePart.2.2.1 kX10_writePart.2.2.2.1 kX10_writePart.2.2.2.2 g367 g366) ?_
  refine q_fa (ok_aload_n (by decide +kernel : decode cX10_writeNode 112 = .ok (.aload_n 0, 1)) rfl rfl) ?_
  refine q_fa (ok_aload_n (by decide +kernel : decode cX10_writeNode 113 = .ok (.aload_n 1, 1)) rfl rfl) ?_
  refine q_fa (ok_iload (by decide +kernel : decode cX10_writeNode 114 = .ok (.iload 6, 2)) rfl) ?_
  refine q_fa (ok_aload_n (by decide +kernel : decode cX10_writeNode 116 = .ok (.aload_n 1, 1)) rfl rfl) ?_
  refine q_fa (ok_iload (by decide +kernel : decode cX10_writeNode 117 = .ok (.iload 6, 2)) rfl) ?_
  refine q_fa (ok_callV (by decide +kernel : decode cX10_writeNode 119 = .ok (.invokevirtual 29, 3)) rfl kX4_kindOf.1 kX4_kindOf.2.1 kX4_kindOf.2.2.1 kX4_kindOf.2.2.2.1 kX4_kindOf.2.2.2.2 (rfl : vwCl[4]? = some (RX4, TX4, 4)) g287 g288 g355) ?_
  refine q_fa (ok_iconst (by decide +kernel : decode cX10_writeNode 122 = .ok (.iconst 3, 1)) rfl (by decide +kernel)) ?_
  refine q_fa (ok_if2ne (by decide +kernel : decode cX10_writeNode 123 = .ok (.if_icmp .ne 7, 3)) (by decide) rfl) ?_
  refine q_fa (ok_iconst (by decide +kernel : decode cX10_writeNode 126 = .ok (.iconst 1, 1)) rfl (by decide +kernel)) ?_
  refine q_fa (ok_goto (by decide +kernel : decode cX10_writeNode 127 = .ok (.goto 4, 3)) (by decide)) ?_
  refine q_fa (ok_iconst (by decide +kernel : decode cX10_writeNode 130 = .ok (.iconst 0, 1)) rfl (by decide +kernel)) ?_
  refine q_fa (ok_iload_n (by decide +kernel : decode cX10_writeNode 131 = .ok (.iload_n 3, 1)) rfl rfl) ?_
  refine q_fa (ok_callS (by decide +kernel : decode cX10_writeNode 132 = .ok (.invokestatic 46, 3)) rfl kX10_writePart.1 kX10_writePart.2.1 kX10_writePart.2.2.1 kX10_writePart.2.2.2.1 kX10_writePart.2.2.2.2 g367 g366) ?_
  refine q_fa (ok_goto (by decide +kernel : decode cX10_writeNode 135 = .ok (.goto 81, 3)) (by decide)) ?_
  refine q_fa (ok_aload_n (by decide +kernel : decode cX10_writeNode 138 = .ok (.aload_n 0, 1)) rfl rfl) ?_
  refine q_fa (ok_aload_n (by decide +kernel : decode cX10_writeNode 139 = .ok (.aload_n 1, 1)) rfl rfl) ?_
  refine q_fa (ok_iload (by decide +kernel : decode cX10_writeNode 140 = .ok (.iload 5, 2)) rfl) ?_
  refine q_fa (ok_aload_n (by decide +kernel : decode cX10_writeNode 142 = .ok (.aload_n 1, 1)) rfl rfl) ?_
  refine q_fa (ok_iload (by decide +kernel : decode cX10_writeNode 143 = .ok (.iload 5, 2)) rfl) ?_
  refine q_fa (ok_callV (by decide +kernel : decode cX10_writeNode 145 = .ok (.invokevirtual 29, 3)) rfl kX4_kindOf.1 kX4_kindOf.2.1 kX4_kindOf.2.2.1 kX4_kindOf.2.2.2.1 kX4_kindOf.2.2.2.2 (rfl : vwCl[4]? = some (RX4, TX4, 4)) g287 g288 g355) ?_
  refine q_fa (ok_iconst (by decide +kernel : decode cX10_writeNode 148 = .ok (.iconst 3, 1)) rfl (by decide +kernel)) ?_
  refine q_fa (ok_if2ne (by decide +kernel : decode cX10_writeNode 149 = .ok (.if_icmp .ne 7, 3)) (by decide) rfl) ?_
  refine q_fa (ok_iconst (by decide +kernel : decode cX10_writeNode 152 = .ok (.iconst 1, 1)) rfl (by decide +kernel)) ?_
  refine q_fa (ok_goto (by decide +kernel : decode cX10_writeNode 153 = .ok (.goto 4, 3)) (by decide)) ?_
  refine q_fa (ok_iconst (by decide +kernel : decode cX10_writeNode 156 = .ok (.iconst 0, 1)) rfl (by decide +kernel)) ?_
  refine q_fa (ok_iload_n (by decide +kernel : decode cX10_writeNode 157 = .ok (.iload_n 3, 1)) rfl rfl) ?_
  refine q_fa (ok_callS (by decide +kernel : decode cX10_writeNode 158 = .ok (.invokestatic 46, 3)) rfl kX10_writePart.1 kX10_writePart.2.1 kX10_writePart.2.2.1 kX10_writePart.2.2.2.1 kX10_writePart.2.2.2.2 g367 g366) ?_
  refine q_fa (ok_aload_n (by decide +kernel : decode cX10_writeNode 161 = .ok (.aload_n 0, 1)) rfl rfl) ?_
  refine q_fa (ok_bipush (by decide +kernel : decode cX10_writeNode 162 = .ok (.bipush 124, 2)) rfl (by decide +kernel)) ?_
  refine q_fa (ok_callV (by decide +kernel : decode cX10_writeNode 164 = .ok (.invokevirtual 39, 3)) rfl kX10_put.1 kX10_put.2.1 kX10_put.2.2.1 kX10_put.2.2.2.1 kX10_put.2.2.2.2 (rfl : vwCl[10]? = some (RX10, TX10, 2)) g360 gs12 g358) ?_
  refine q_fa (ok_aload_n (by decide +kernel : decode cX10_writeNode 167 = .ok (.aload_n 0, 1)) rfl rfl) ?_
  refine q_fa (ok_aload_n (by decide +kernel : decode cX10_writeNode 168 = .ok (.aload_n 1, 1)) rfl rfl) ?_
  refine q_fa (ok_iload (by decide +kernel : decode cX10_writeNode 169 = .ok (.iload 6, 2)) rfl) ?_
  refine q_fa (ok_iconst (by decide +kernel : decode cX10_writeNode 171 = .ok (.iconst 0, 1)) rfl (by decide +kernel)) ?_
  refine q_fa (ok_iload_n (by decide +kernel : decode cX10_writeNode 172 = .ok (.iload_n 3, 1)) rfl rfl) ?_
  refine q_fa (ok_callS (by decide +kernel : decode cX10_writeNode 173 = .ok (.invokestatic 46, 3)) rfl kX10_writePart.1 kX10_writePart.2.1 kX10_writePart.2.2.1 kX10_writePart.2.2.2.1 kX10_writePart.2.2.2.2 g367 g366) ?_
  refine q_fa (ok_goto (by decide +kernel : decode cX10_writeNode 176 = .ok (.goto 40, 3)) (by decide)) ?_
  refine q_fa (ok_aload_n (by decide +kernel : decode cX10_writeNode 179 = .ok (.aload_n 0, 1)) rfl rfl) ?_
  refine q_fa (ok_aload_n (by decide +kernel : decode cX10_writeNode 180 = .ok (.aload_n 1, 1)) rfl rfl) ?_
  refine q_fa (ok_iload (by decide +kernel : decode cX10_writeNode 181 = .ok (.iload 5, 2)) rfl) ?_
  refine q_fa (ok_aload_n (by decide +kernel : decode cX10_writeNode 183 = .ok (.aload_n 1, 1)) rfl rfl) ?_
  refine q_fa (ok_iload (by decide +kernel : decode cX10_writeNode 184 = .ok (.iload 5, 2)) rfl) ?_
  refine q_fa (ok_callV (by decide +kernel : decode cX10_writeNode 186 = .ok (.invokevirtual 29, 3)) rfl kX4_kindOf.1 kX4_kindOf.2.1 kX4_kindOf.2.2.1 kX4_kindOf.2.2.2.1 kX4_kindOf.2.2.2.2 (rfl : vwCl[4]? = some (RX4, TX4, 4)) g287 g288 g355) ?_
  refine q_fa (ok_callSN (by decide +kernel : decode cX10_writeNode 189 = .ok (.invokestatic 50, 3)) rfl kX11_hasTwoParts.1 kX11_hasTwoParts.2.1 kX11_hasTwoParts.2.2.1 kX11_hasTwoParts.2.2.2.1 kX11_hasTwoParts.2.2.2.2 g327 gn369) ?_
  refine q_fa (ok_iload_n (by decide +kernel : decode cX10_writeNode 192 = .ok (.iload_n 3, 1)) rfl rfl) ?_
  refine q_fa (ok_callS (by decide +kernel : decode cX10_writeNode 193 = .ok (.invokestatic 46, 3)) rfl kX10_writePart.1 kX10_writePart.2.1 kX10_writePart.2.2.1 kX10_writePart.2.2.2.1 kX10_writePart.2.2.2.2 g367 g366) ?_
  refine q_fa (ok_aload_n (by decide +kernel : decode cX10_writeNode 196 = .ok (.aload_n 0, 1)) rfl rfl) ?_
  refine q_fa (ok_iload (by decide +kernel : decode cX10_writeNode 197 = .ok (.iload 4, 2)) rfl) ?_
  refine q_fa (ok_iconst (by decide +kernel : decode cX10_writeNode 199 = .ok (.iconst 4, 1)) rfl (by decide +kernel)) ?_
  refine q_fa (ok_if2ne (by decide +kernel : decode cX10_writeNode 200 = .ok (.if_icmp .ne 8, 3)) (by decide) rfl) ?_
  refine q_fa (ok_bipush (by decide +kernel : decode cX10_writeNode 203 = .ok (.bipush 43, 2)) rfl (by decide +kernel)) ?_
  refine q_fa (ok_goto (by decide +kernel : decode cX10_writeNode 205 = .ok (.goto 5, 3)) (by decide)) ?_
  refine q_fa (ok_bipush (by decide +kernel : decode cX10_writeNode 208 = .ok (.bipush 63, 2)) rfl (by decide +kernel)) ?_
  refine q_fa (ok_callV (by decide +kernel : decode cX10_writeNode 210 = .ok (.invokevirtual 39, 3)) rfl kX10_put.1 kX10_put.2.1 kX10_put.2.2.1 kX10_put.2.2.2.1 kX10_put.2.2.2.2 (rfl : vwCl[10]? = some (RX10, TX10, 2)) g360 gs12 g358) ?_
  refine q_fa (ok_goto (by decide +kernel : decode cX10_writeNode 213 = .ok (.goto 3, 3)) (by decide)) ?_
  refine q_fa (ok_vret (by decide +kernel : decode cX10_writeNode 216 = .ok (.return_, 1)) rfl) ?_
  exact q_fa0
theorem exX10_writeNode : ∃ t : Nat → qP, t = uX10_writeNode := ⟨_, rfl⟩
noncomputable def tX10_writeNode : Nat → qP := Classical.choose exX10_writeNode
theorem teX10_writeNode : tX10_writeNode = uX10_writeNode := Classical.choose_spec exX10_writeNode
theorem sX10_writeNode : q_Snd mX10_writeNode tX10_writeNode := by rw [teX10_writeNode]; exact suX10_writeNode
theorem tX10_writeNode_0 : tX10_writeNode 0 = oIl 3 1 := (congrFun teX10_writeNode 0).trans rfl
theorem tX10_writeNode_1 : tX10_writeNode 1 = oK (.int (nI 12)) 3 := (congrFun teX10_writeNode 1).trans rfl
theorem tX10_writeNode_3 : tX10_writeNode 3 = oIf2lt 7 6 := (congrFun teX10_writeNode 3).trans rfl
theorem tX10_writeNode_6 : tX10_writeNode 6 = oVret := (congrFun teX10_writeNode 6).trans rfl
theorem tX10_writeNode_7 : tX10_writeNode 7 = oAl 1 8 := (congrFun teX10_writeNode 7).trans rfl
theorem tX10_writeNode_8 : tX10_writeNode 8 = oIl 2 9 := (congrFun teX10_writeNode 8).trans rfl
theorem tX10_writeNode_9 : tX10_writeNode 9 = oCallV 4 mX4_kindOf 1 12 := (congrFun teX10_writeNode 9).trans rfl
theorem tX10_writeNode_12 : tX10_writeNode 12 = oIs 4 14 := (congrFun teX10_writeNode 12).trans rfl
theorem tX10_writeNode_14 : tX10_writeNode 14 = oAl 1 15 := (congrFun teX10_writeNode 14).trans rfl
theorem tX10_writeNode_15 : tX10_writeNode 15 = oIl 2 16 := (congrFun teX10_writeNode 15).trans rfl
theorem tX10_writeNode_16 : tX10_writeNode 16 = oCallV 4 mX4_leftOf 1 19 := (congrFun teX10_writeNode 16).trans rfl
theorem tX10_writeNode_19 : tX10_writeNode 19 = oIs 5 21 := (congrFun teX10_writeNode 19).trans rfl
theorem tX10_writeNode_21 : tX10_writeNode 21 = oAl 1 22 := (congrFun teX10_writeNode 21).trans rfl
theorem tX10_writeNode_22 : tX10_writeNode 22 = oIl 2 23 := (congrFun teX10_writeNode 22).trans rfl
theorem tX10_writeNode_23 : tX10_writeNode 23 = oCallV 4 mX4_rightOf 1 26 := (congrFun teX10_writeNode 23).trans rfl
theorem tX10_writeNode_26 : tX10_writeNode 26 = oIs 6 28 := (congrFun teX10_writeNode 26).trans rfl
theorem tX10_writeNode_28 : tX10_writeNode 28 = oIl 4 30 := (congrFun teX10_writeNode 28).trans rfl
theorem tX10_writeNode_30 : tX10_writeNode 30 = oTab 0 [68, 80, 89, 138, 179, 179] 216 := (congrFun teX10_writeNode 30).trans rfl
theorem tX10_writeNode_68 : tX10_writeNode 68 = oAl 0 69 := (congrFun teX10_writeNode 68).trans rfl
theorem tX10_writeNode_69 : tX10_writeNode 69 = oK (.int (nI 97)) 71 := (congrFun teX10_writeNode 69).trans rfl
theorem tX10_writeNode_71 : tX10_writeNode 71 = oIl 5 73 := (congrFun teX10_writeNode 71).trans rfl
theorem tX10_writeNode_73 : tX10_writeNode 73 = oAdd 74 := (congrFun teX10_writeNode 73).trans rfl
theorem tX10_writeNode_74 : tX10_writeNode 74 = oCallV 10 mX10_put 1 77 := (congrFun teX10_writeNode 74).trans rfl
theorem tX10_writeNode_77 : tX10_writeNode 77 = oGo 216 := (congrFun teX10_writeNode 77).trans rfl
theorem tX10_writeNode_80 : tX10_writeNode 80 = oAl 0 81 := (congrFun teX10_writeNode 80).trans rfl
theorem tX10_writeNode_81 : tX10_writeNode 81 = oIl 5 83 := (congrFun teX10_writeNode 81).trans rfl
theorem tX10_writeNode_83 : tX10_writeNode 83 = oCallV 10 mX10_putClass 1 86 := (congrFun teX10_writeNode 83).trans rfl
theorem tX10_writeNode_86 : tX10_writeNode 86 = oGo 216 := (congrFun teX10_writeNode 86).trans rfl
theorem tX10_writeNode_89 : tX10_writeNode 89 = oAl 0 90 := (congrFun teX10_writeNode 89).trans rfl
theorem tX10_writeNode_90 : tX10_writeNode 90 = oAl 1 91 := (congrFun teX10_writeNode 90).trans rfl
theorem tX10_writeNode_91 : tX10_writeNode 91 = oIl 5 93 := (congrFun teX10_writeNode 91).trans rfl
theorem tX10_writeNode_93 : tX10_writeNode 93 = oAl 1 94 := (congrFun teX10_writeNode 93).trans rfl
theorem tX10_writeNode_94 : tX10_writeNode 94 = oIl 5 96 := (congrFun teX10_writeNode 94).trans rfl
theorem tX10_writeNode_96 : tX10_writeNode 96 = oCallV 4 mX4_kindOf 1 99 := (congrFun teX10_writeNode 96).trans rfl
theorem tX10_writeNode_99 : tX10_writeNode 99 = oK (.int (nI 3)) 100 := (congrFun teX10_writeNode 99).trans rfl
theorem tX10_writeNode_100 : tX10_writeNode 100 = oIf2ne 107 103 := (congrFun teX10_writeNode 100).trans rfl
theorem tX10_writeNode_103 : tX10_writeNode 103 = oK (.int (nI 1)) 104 := (congrFun teX10_writeNode 103).trans rfl
theorem tX10_writeNode_104 : tX10_writeNode 104 = oGo 108 := (congrFun teX10_writeNode 104).trans rfl
theorem tX10_writeNode_107 : tX10_writeNode 107 = oK (.int (nI 0)) 108 := (congrFun teX10_writeNode 107).trans rfl
theorem tX10_writeNode_108 : tX10_writeNode 108 = oIl 3 109 := (congrFun teX10_writeNode 108).trans rfl
theorem tX10_writeNode_109 : tX10_writeNode 109 = oCallS mX10_writePart 5 112 := (congrFun teX10_writeNode 109).trans rfl
theorem tX10_writeNode_112 : tX10_writeNode 112 = oAl 0 113 := (congrFun teX10_writeNode 112).trans rfl
theorem tX10_writeNode_113 : tX10_writeNode 113 = oAl 1 114 := (congrFun teX10_writeNode 113).trans rfl
theorem tX10_writeNode_114 : tX10_writeNode 114 = oIl 6 116 := (congrFun teX10_writeNode 114).trans rfl
theorem tX10_writeNode_116 : tX10_writeNode 116 = oAl 1 117 := (congrFun teX10_writeNode 116).trans rfl
theorem tX10_writeNode_117 : tX10_writeNode 117 = oIl 6 119 := (congrFun teX10_writeNode 117).trans rfl
theorem tX10_writeNode_119 : tX10_writeNode 119 = oCallV 4 mX4_kindOf 1 122 := (congrFun teX10_writeNode 119).trans rfl
theorem tX10_writeNode_122 : tX10_writeNode 122 = oK (.int (nI 3)) 123 := (congrFun teX10_writeNode 122).trans rfl
theorem tX10_writeNode_123 : tX10_writeNode 123 = oIf2ne 130 126 := (congrFun teX10_writeNode 123).trans rfl
theorem tX10_writeNode_126 : tX10_writeNode 126 = oK (.int (nI 1)) 127 := (congrFun teX10_writeNode 126).trans rfl
theorem tX10_writeNode_127 : tX10_writeNode 127 = oGo 131 := (congrFun teX10_writeNode 127).trans rfl
theorem tX10_writeNode_130 : tX10_writeNode 130 = oK (.int (nI 0)) 131 := (congrFun teX10_writeNode 130).trans rfl
theorem tX10_writeNode_131 : tX10_writeNode 131 = oIl 3 132 := (congrFun teX10_writeNode 131).trans rfl
theorem tX10_writeNode_132 : tX10_writeNode 132 = oCallS mX10_writePart 5 135 := (congrFun teX10_writeNode 132).trans rfl
theorem tX10_writeNode_135 : tX10_writeNode 135 = oGo 216 := (congrFun teX10_writeNode 135).trans rfl
theorem tX10_writeNode_138 : tX10_writeNode 138 = oAl 0 139 := (congrFun teX10_writeNode 138).trans rfl
theorem tX10_writeNode_139 : tX10_writeNode 139 = oAl 1 140 := (congrFun teX10_writeNode 139).trans rfl
theorem tX10_writeNode_140 : tX10_writeNode 140 = oIl 5 142 := (congrFun teX10_writeNode 140).trans rfl
theorem tX10_writeNode_142 : tX10_writeNode 142 = oAl 1 143 := (congrFun teX10_writeNode 142).trans rfl
theorem tX10_writeNode_143 : tX10_writeNode 143 = oIl 5 145 := (congrFun teX10_writeNode 143).trans rfl
theorem tX10_writeNode_145 : tX10_writeNode 145 = oCallV 4 mX4_kindOf 1 148 := (congrFun teX10_writeNode 145).trans rfl
theorem tX10_writeNode_148 : tX10_writeNode 148 = oK (.int (nI 3)) 149 := (congrFun teX10_writeNode 148).trans rfl
theorem tX10_writeNode_149 : tX10_writeNode 149 = oIf2ne 156 152 := (congrFun teX10_writeNode 149).trans rfl
theorem tX10_writeNode_152 : tX10_writeNode 152 = oK (.int (nI 1)) 153 := (congrFun teX10_writeNode 152).trans rfl
theorem tX10_writeNode_153 : tX10_writeNode 153 = oGo 157 := (congrFun teX10_writeNode 153).trans rfl
theorem tX10_writeNode_156 : tX10_writeNode 156 = oK (.int (nI 0)) 157 := (congrFun teX10_writeNode 156).trans rfl
theorem tX10_writeNode_157 : tX10_writeNode 157 = oIl 3 158 := (congrFun teX10_writeNode 157).trans rfl
theorem tX10_writeNode_158 : tX10_writeNode 158 = oCallS mX10_writePart 5 161 := (congrFun teX10_writeNode 158).trans rfl
theorem tX10_writeNode_161 : tX10_writeNode 161 = oAl 0 162 := (congrFun teX10_writeNode 161).trans rfl
theorem tX10_writeNode_162 : tX10_writeNode 162 = oK (.int (nI 124)) 164 := (congrFun teX10_writeNode 162).trans rfl
theorem tX10_writeNode_164 : tX10_writeNode 164 = oCallV 10 mX10_put 1 167 := (congrFun teX10_writeNode 164).trans rfl
theorem tX10_writeNode_167 : tX10_writeNode 167 = oAl 0 168 := (congrFun teX10_writeNode 167).trans rfl
theorem tX10_writeNode_168 : tX10_writeNode 168 = oAl 1 169 := (congrFun teX10_writeNode 168).trans rfl
theorem tX10_writeNode_169 : tX10_writeNode 169 = oIl 6 171 := (congrFun teX10_writeNode 169).trans rfl
theorem tX10_writeNode_171 : tX10_writeNode 171 = oK (.int (nI 0)) 172 := (congrFun teX10_writeNode 171).trans rfl
theorem tX10_writeNode_172 : tX10_writeNode 172 = oIl 3 173 := (congrFun teX10_writeNode 172).trans rfl
theorem tX10_writeNode_173 : tX10_writeNode 173 = oCallS mX10_writePart 5 176 := (congrFun teX10_writeNode 173).trans rfl
theorem tX10_writeNode_176 : tX10_writeNode 176 = oGo 216 := (congrFun teX10_writeNode 176).trans rfl
theorem tX10_writeNode_179 : tX10_writeNode 179 = oAl 0 180 := (congrFun teX10_writeNode 179).trans rfl
theorem tX10_writeNode_180 : tX10_writeNode 180 = oAl 1 181 := (congrFun teX10_writeNode 180).trans rfl
theorem tX10_writeNode_181 : tX10_writeNode 181 = oIl 5 183 := (congrFun teX10_writeNode 181).trans rfl
theorem tX10_writeNode_183 : tX10_writeNode 183 = oAl 1 184 := (congrFun teX10_writeNode 183).trans rfl
theorem tX10_writeNode_184 : tX10_writeNode 184 = oIl 5 186 := (congrFun teX10_writeNode 184).trans rfl
theorem tX10_writeNode_186 : tX10_writeNode 186 = oCallV 4 mX4_kindOf 1 189 := (congrFun teX10_writeNode 186).trans rfl
theorem tX10_writeNode_189 : tX10_writeNode 189 = oCallS mX11_hasTwoParts 1 192 := (congrFun teX10_writeNode 189).trans rfl
theorem tX10_writeNode_192 : tX10_writeNode 192 = oIl 3 193 := (congrFun teX10_writeNode 192).trans rfl
theorem tX10_writeNode_193 : tX10_writeNode 193 = oCallS mX10_writePart 5 196 := (congrFun teX10_writeNode 193).trans rfl
theorem tX10_writeNode_196 : tX10_writeNode 196 = oAl 0 197 := (congrFun teX10_writeNode 196).trans rfl
theorem tX10_writeNode_197 : tX10_writeNode 197 = oIl 4 199 := (congrFun teX10_writeNode 197).trans rfl
theorem tX10_writeNode_199 : tX10_writeNode 199 = oK (.int (nI 4)) 200 := (congrFun teX10_writeNode 199).trans rfl
theorem tX10_writeNode_200 : tX10_writeNode 200 = oIf2ne 208 203 := (congrFun teX10_writeNode 200).trans rfl
theorem tX10_writeNode_203 : tX10_writeNode 203 = oK (.int (nI 43)) 205 := (congrFun teX10_writeNode 203).trans rfl
theorem tX10_writeNode_205 : tX10_writeNode 205 = oGo 210 := (congrFun teX10_writeNode 205).trans rfl
theorem tX10_writeNode_208 : tX10_writeNode 208 = oK (.int (nI 63)) 210 := (congrFun teX10_writeNode 208).trans rfl
theorem tX10_writeNode_210 : tX10_writeNode 210 = oCallV 10 mX10_put 1 213 := (congrFun teX10_writeNode 210).trans rfl
theorem tX10_writeNode_213 : tX10_writeNode 213 = oGo 216 := (congrFun teX10_writeNode 213).trans rfl
theorem tX10_writeNode_216 : tX10_writeNode 216 = oVret := (congrFun teX10_writeNode 216).trans rfl
def lX10_writePart : List (Nat × qP) := [(0, oIl 3 1), (1, oIf1eq 10 4), (4, oAl 0 5), (5, oK (.int (nI 40)) 7), (7, oCallV 10 mX10_put 1 10), (10, oAl 0 11), (11, oAl 1 12), (12, oIl 2 13), (13, oIl 4 15), (15, oK (.int (nI 1)) 16), (16, oAdd 17), (17, oCallS mX10_writeNode 4 20), (20, oIl 3 21), (21, oIf1eq 30 24), (24, oAl 0 25), (25, oK (.int (nI 41)) 27), (27, oCallV 10 mX10_put 1 30), (30, oVret)]
def uX10_writePart : Nat → qP := q_tb lX10_writePart
set_option maxRecDepth 20000 in
theorem suX10_writePart : q_Snd mX10_writePart uX10_writePart := by
  refine q_tb_ok ?_
  unfold lX10_writePart
  refine q_fa (ok_iload_n (by decide +kernel : decode cX10_writePart 0 = .ok (.iload_n 3, 1)) rfl rfl) ?_
  refine q_fa (ok_if1eq (by decide +kernel : decode cX10_writePart 1 = .ok (.ifCond .eq 9, 3)) (by decide) rfl) ?_
  refine q_fa (ok_aload_n (by decide +kernel : decode cX10_writePart 4 = .ok (.aload_n 0, 1)) rfl rfl) ?_
  refine q_fa (ok_bipush (by decide +kernel : decode cX10_writePart 5 = .ok (.bipush 40, 2)) rfl (by decide +kernel)) ?_
  refine q_fa (ok_callV (by decide +kernel : decode cX10_writePart 7 = .ok (.invokevirtual 39, 3)) rfl kX10_put.1 kX10_put.2.1 kX10_put.2.2.1 kX10_put.2.2.2.1 kX10_put.2.2.2.2 (rfl : vwCl[10]? = some (RX10, TX10, 2)) g360 gs12 g358) ?_
  refine q_fa (ok_aload_n (by decide +kernel : decode cX10_writePart 10 = .ok (.aload_n 0, 1)) rfl rfl) ?_
  refine q_fa (ok_aload_n (by decide +kernel : decode cX10_writePart 11 = .ok (.aload_n 1, 1)) rfl rfl) ?_
  refine q_fa (ok_iload_n (by decide +kernel : decode cX10_writePart 12 = .ok (.iload_n 2, 1)) rfl rfl) ?_
  refine q_fa (ok_iload (by decide +kernel : decode cX10_writePart 13 = .ok (.iload 4, 2)) rfl) ?_
  refine q_fa (ok_iconst (by decide +kernel : decode cX10_writePart 15 = .ok (.iconst 1, 1)) rfl (by decide +kernel)) ?_
  refine q_fa (ok_iadd (by decide +kernel : decode cX10_writePart 16 = .ok (.iadd, 1)) rfl) ?_
  refine q_fa (ok_callS (by decide +kernel : decode cX10_writePart 17 = .ok (.invokestatic 25, 3)) rfl kX10_writeNode.1 kX10_writeNode.2.1 kX10_writeNode.2.2.1 kX10_writeNode.2.2.2.1 kX10_writeNode.2.2.2.2 g353 g352) ?_
  refine q_fa (ok_iload_n (by decide +kernel : decode cX10_writePart 20 = .ok (.iload_n 3, 1)) rfl rfl) ?_
  refine q_fa (ok_if1eq (by decide +kernel : decode cX10_writePart 21 = .ok (.ifCond .eq 9, 3)) (by decide) rfl) ?_
  refine q_fa (ok_aload_n (by decide +kernel : decode cX10_writePart 24 = .ok (.aload_n 0, 1)) rfl rfl) ?_
  refine q_fa (ok_bipush (by decide +kernel : decode cX10_writePart 25 = .ok (.bipush 41, 2)) rfl (by decide +kernel)) ?_
  refine q_fa (ok_callV (by decide +kernel : decode cX10_writePart 27 = .ok (.invokevirtual 39, 3)) rfl kX10_put.1 kX10_put.2.1 kX10_put.2.2.1 kX10_put.2.2.2.1 kX10_put.2.2.2.2 (rfl : vwCl[10]? = some (RX10, TX10, 2)) g360 gs12 g358) ?_
  refine q_fa (ok_vret (by decide +kernel : decode cX10_writePart 30 = .ok (.return_, 1)) rfl) ?_
  exact q_fa0
theorem exX10_writePart : ∃ t : Nat → qP, t = uX10_writePart := ⟨_, rfl⟩
noncomputable def tX10_writePart : Nat → qP := Classical.choose exX10_writePart
theorem teX10_writePart : tX10_writePart = uX10_writePart := Classical.choose_spec exX10_writePart
theorem sX10_writePart : q_Snd mX10_writePart tX10_writePart := by rw [teX10_writePart]; exact suX10_writePart
theorem tX10_writePart_0 : tX10_writePart 0 = oIl 3 1 := (congrFun teX10_writePart 0).trans rfl
theorem tX10_writePart_1 : tX10_writePart 1 = oIf1eq 10 4 := (congrFun teX10_writePart 1).trans rfl
theorem tX10_writePart_4 : tX10_writePart 4 = oAl 0 5 := (congrFun teX10_writePart 4).trans rfl
theorem tX10_writePart_5 : tX10_writePart 5 = oK (.int (nI 40)) 7 := (congrFun teX10_writePart 5).trans rfl
theorem tX10_writePart_7 : tX10_writePart 7 = oCallV 10 mX10_put 1 10 := (congrFun teX10_writePart 7).trans rfl
theorem tX10_writePart_10 : tX10_writePart 10 = oAl 0 11 := (congrFun teX10_writePart 10).trans rfl
theorem tX10_writePart_11 : tX10_writePart 11 = oAl 1 12 := (congrFun teX10_writePart 11).trans rfl
theorem tX10_writePart_12 : tX10_writePart 12 = oIl 2 13 := (congrFun teX10_writePart 12).trans rfl
theorem tX10_writePart_13 : tX10_writePart 13 = oIl 4 15 := (congrFun teX10_writePart 13).trans rfl
theorem tX10_writePart_15 : tX10_writePart 15 = oK (.int (nI 1)) 16 := (congrFun teX10_writePart 15).trans rfl
theorem tX10_writePart_16 : tX10_writePart 16 = oAdd 17 := (congrFun teX10_writePart 16).trans rfl
theorem tX10_writePart_17 : tX10_writePart 17 = oCallS mX10_writeNode 4 20 := (congrFun teX10_writePart 17).trans rfl
theorem tX10_writePart_20 : tX10_writePart 20 = oIl 3 21 := (congrFun teX10_writePart 20).trans rfl
theorem tX10_writePart_21 : tX10_writePart 21 = oIf1eq 30 24 := (congrFun teX10_writePart 21).trans rfl
theorem tX10_writePart_24 : tX10_writePart 24 = oAl 0 25 := (congrFun teX10_writePart 24).trans rfl
theorem tX10_writePart_25 : tX10_writePart 25 = oK (.int (nI 41)) 27 := (congrFun teX10_writePart 25).trans rfl
theorem tX10_writePart_27 : tX10_writePart 27 = oCallV 10 mX10_put 1 30 := (congrFun teX10_writePart 27).trans rfl
theorem tX10_writePart_30 : tX10_writePart 30 = oVret := (congrFun teX10_writePart 30).trans rfl
def lX10_putClass : List (Nat × qP) := [(0, oAl 0 1), (1, oK (.int (nI 91)) 3), (3, oCallV 10 mX10_put 1 6), (6, oK (.int (nI 0)) 7), (7, oIs 2 8), (8, oIl 2 9), (9, oK (.int (nI 3)) 10), (10, oIf2ge 36 13), (13, oIl 1 14), (14, oIl 2 15), (15, oShr 16), (16, oK (.int (nI 1)) 17), (17, oAnd 18), (18, oK (.int (nI 1)) 19), (19, oIf2ne 30 22), (22, oAl 0 23), (23, oK (.int (nI 97)) 25), (25, oIl 2 26), (26, oAdd 27), (27, oCallV 10 mX10_put 1 30), (30, oInc 2 (nI 1) 33), (33, oGo 8), (36, oAl 0 37), (37, oK (.int (nI 93)) 39), (39, oCallV 10 mX10_put 1 42), (42, oVret)]
def uX10_putClass : Nat → qP := q_tb lX10_putClass
set_option maxRecDepth 20000 in
theorem suX10_putClass : q_Snd mX10_putClass uX10_putClass := by
  refine q_tb_ok ?_
  unfold lX10_putClass
  refine q_fa (ok_aload_n (by decide +kernel : decode cX10_putClass 0 = .ok (.aload_n 0, 1)) rfl rfl) ?_
  refine q_fa (ok_bipush (by decide +kernel : decode cX10_putClass 1 = .ok (.bipush 91, 2)) rfl (by decide +kernel)) ?_
  refine q_fa (ok_callV (by decide +kernel : decode cX10_putClass 3 = .ok (.invokevirtual 39, 3)) rfl kX10_put.1 kX10_put.2.1 kX10_put.2.2.1 kX10_put.2.2.2.1 kX10_put.2.2.2.2 (rfl : vwCl[10]? = some (RX10, TX10, 2)) g360 gs12 g358) ?_
  refine q_fa (ok_iconst (by decide +kernel : decode cX10_putClass 6 = .ok (.iconst 0, 1)) rfl (by decide +kernel)) ?_
  refine q_fa (ok_istore_n (by decide +kernel : decode cX10_putClass 7 = .ok (.istore_n 2, 1)) rfl rfl (by decide)) ?_
  refine q_fa (ok_iload_n (by decide +kernel : decode cX10_putClass 8 = .ok (.iload_n 2, 1)) rfl rfl) ?_
  refine q_fa (ok_iconst (by decide +kernel : decode cX10_putClass 9 = .ok (.iconst 3, 1)) rfl (by decide +kernel)) ?_
  refine q_fa (ok_if2ge (by decide +kernel : decode cX10_putClass 10 = .ok (.if_icmp .ge 26, 3)) (by decide) rfl) ?_
  refine q_fa (ok_iload_n (by decide +kernel : decode cX10_putClass 13 = .ok (.iload_n 1, 1)) rfl rfl) ?_
  refine q_fa (ok_iload_n (by decide +kernel : decode cX10_putClass 14 = .ok (.iload_n 2, 1)) rfl rfl) ?_
  refine q_fa (ok_ishr (by decide +kernel : decode cX10_putClass 15 = .ok (.ishr, 1)) rfl) ?_
  refine q_fa (ok_iconst (by decide +kernel : decode cX10_putClass 16 = .ok (.iconst 1, 1)) rfl (by decide +kernel)) ?_
  refine q_fa (ok_iand (by decide +kernel : decode cX10_putClass 17 = .ok (.iand, 1)) rfl) ?_
  refine q_fa (ok_iconst (by decide +kernel : decode cX10_putClass 18 = .ok (.iconst 1, 1)) rfl (by decide +kernel)) ?_
  refine q_fa (ok_if2ne (by decide +kernel : decode cX10_putClass 19 = .ok (.if_icmp .ne 11, 3)) (by decide) rfl) ?_
  refine q_fa (ok_aload_n (by decide +kernel : decode cX10_putClass 22 = .ok (.aload_n 0, 1)) rfl rfl) ?_
  refine q_fa (ok_bipush (by decide +kernel : decode cX10_putClass 23 = .ok (.bipush 97, 2)) rfl (by decide +kernel)) ?_
  refine q_fa (ok_iload_n (by decide +kernel : decode cX10_putClass 25 = .ok (.iload_n 2, 1)) rfl rfl) ?_
  refine q_fa (ok_iadd (by decide +kernel : decode cX10_putClass 26 = .ok (.iadd, 1)) rfl) ?_
  refine q_fa (ok_callV (by decide +kernel : decode cX10_putClass 27 = .ok (.invokevirtual 39, 3)) rfl kX10_put.1 kX10_put.2.1 kX10_put.2.2.1 kX10_put.2.2.2.1 kX10_put.2.2.2.2 (rfl : vwCl[10]? = some (RX10, TX10, 2)) g360 gs12 g358) ?_
  refine q_fa (ok_iinc (by decide +kernel : decode cX10_putClass 30 = .ok (.iinc 2 1, 3)) rfl (by decide +kernel) (by decide)) ?_
  refine q_fa (ok_goto (by decide +kernel : decode cX10_putClass 33 = .ok (.goto (-25), 3)) (by decide)) ?_
  refine q_fa (ok_aload_n (by decide +kernel : decode cX10_putClass 36 = .ok (.aload_n 0, 1)) rfl rfl) ?_
  refine q_fa (ok_bipush (by decide +kernel : decode cX10_putClass 37 = .ok (.bipush 93, 2)) rfl (by decide +kernel)) ?_
  refine q_fa (ok_callV (by decide +kernel : decode cX10_putClass 39 = .ok (.invokevirtual 39, 3)) rfl kX10_put.1 kX10_put.2.1 kX10_put.2.2.1 kX10_put.2.2.2.1 kX10_put.2.2.2.2 (rfl : vwCl[10]? = some (RX10, TX10, 2)) g360 gs12 g358) ?_
  refine q_fa (ok_vret (by decide +kernel : decode cX10_putClass 42 = .ok (.return_, 1)) rfl) ?_
  exact q_fa0
theorem exX10_putClass : ∃ t : Nat → qP, t = uX10_putClass := ⟨_, rfl⟩
noncomputable def tX10_putClass : Nat → qP := Classical.choose exX10_putClass
theorem teX10_putClass : tX10_putClass = uX10_putClass := Classical.choose_spec exX10_putClass
theorem sX10_putClass : q_Snd mX10_putClass tX10_putClass := by rw [teX10_putClass]; exact suX10_putClass
theorem tX10_putClass_0 : tX10_putClass 0 = oAl 0 1 := (congrFun teX10_putClass 0).trans rfl
theorem tX10_putClass_1 : tX10_putClass 1 = oK (.int (nI 91)) 3 := (congrFun teX10_putClass 1).trans rfl
theorem tX10_putClass_3 : tX10_putClass 3 = oCallV 10 mX10_put 1 6 := (congrFun teX10_putClass 3).trans rfl
theorem tX10_putClass_6 : tX10_putClass 6 = oK (.int (nI 0)) 7 := (congrFun teX10_putClass 6).trans rfl
theorem tX10_putClass_7 : tX10_putClass 7 = oIs 2 8 := (congrFun teX10_putClass 7).trans rfl
theorem tX10_putClass_8 : tX10_putClass 8 = oIl 2 9 := (congrFun teX10_putClass 8).trans rfl
theorem tX10_putClass_9 : tX10_putClass 9 = oK (.int (nI 3)) 10 := (congrFun teX10_putClass 9).trans rfl
theorem tX10_putClass_10 : tX10_putClass 10 = oIf2ge 36 13 := (congrFun teX10_putClass 10).trans rfl
theorem tX10_putClass_13 : tX10_putClass 13 = oIl 1 14 := (congrFun teX10_putClass 13).trans rfl
theorem tX10_putClass_14 : tX10_putClass 14 = oIl 2 15 := (congrFun teX10_putClass 14).trans rfl
theorem tX10_putClass_15 : tX10_putClass 15 = oShr 16 := (congrFun teX10_putClass 15).trans rfl
theorem tX10_putClass_16 : tX10_putClass 16 = oK (.int (nI 1)) 17 := (congrFun teX10_putClass 16).trans rfl
theorem tX10_putClass_17 : tX10_putClass 17 = oAnd 18 := (congrFun teX10_putClass 17).trans rfl
theorem tX10_putClass_18 : tX10_putClass 18 = oK (.int (nI 1)) 19 := (congrFun teX10_putClass 18).trans rfl
theorem tX10_putClass_19 : tX10_putClass 19 = oIf2ne 30 22 := (congrFun teX10_putClass 19).trans rfl
theorem tX10_putClass_22 : tX10_putClass 22 = oAl 0 23 := (congrFun teX10_putClass 22).trans rfl
theorem tX10_putClass_23 : tX10_putClass 23 = oK (.int (nI 97)) 25 := (congrFun teX10_putClass 23).trans rfl
theorem tX10_putClass_25 : tX10_putClass 25 = oIl 2 26 := (congrFun teX10_putClass 25).trans rfl
theorem tX10_putClass_26 : tX10_putClass 26 = oAdd 27 := (congrFun teX10_putClass 26).trans rfl
theorem tX10_putClass_27 : tX10_putClass 27 = oCallV 10 mX10_put 1 30 := (congrFun teX10_putClass 27).trans rfl
theorem tX10_putClass_30 : tX10_putClass 30 = oInc 2 (nI 1) 33 := (congrFun teX10_putClass 30).trans rfl
theorem tX10_putClass_33 : tX10_putClass 33 = oGo 8 := (congrFun teX10_putClass 33).trans rfl
theorem tX10_putClass_36 : tX10_putClass 36 = oAl 0 37 := (congrFun teX10_putClass 36).trans rfl
theorem tX10_putClass_37 : tX10_putClass 37 = oK (.int (nI 93)) 39 := (congrFun teX10_putClass 37).trans rfl
theorem tX10_putClass_39 : tX10_putClass 39 = oCallV 10 mX10_put 1 42 := (congrFun teX10_putClass 39).trans rfl
theorem tX10_putClass_42 : tX10_putClass 42 = oVret := (congrFun teX10_putClass 42).trans rfl
