def lX11_init : List (Nat × qP) := [(0, oAl 0 1), (1, oObj 4), (4, oAl 0 5), (5, oK (.int (nI 10)) 7), (7, oANew 10), (10, oPutR 11 0 13), (13, oAl 0 14), (14, oNew 6 7 [.null, .int 0, .null, .null, .int 0, .int 0, .int 0] 17), (17, oDup 18), (18, oCallI mX6_init 0 21), (21, oPutR 11 1 24), (24, oAl 0 25), (25, oNew 10 2 [.null, .int 0] 28), (28, oDup 29), (29, oCallI mX10_init 0 32), (32, oPutR 11 2 35), (35, oAl 0 36), (36, oNew 0 9 [.null, .null, .null, .null, .null, .null, .int 0, .int 0, .int 0] 39), (39, oDup 40), (40, oCallI mX0_init 0 43), (43, oPutR 11 3 46), (46, oAl 0 47), (47, oNew 0 9 [.null, .null, .null, .null, .null, .null, .int 0, .int 0, .int 0] 50), (50, oDup 51), (51, oCallI mX0_init 0 54), (54, oPutR 11 4 57), (57, oAl 0 58), (58, oNew 9 1 [.null] 61), (61, oDup 62), (62, oCallI mX9_init 0 65), (65, oPutR 11 5 68), (68, oAl 0 69), (69, oNew 8 2 [.null, .null] 72), (72, oDup 73), (73, oK (.int (nI 12)) 75), (75, oCallI mX8_init 1 78), (78, oPutR 11 6 81), (81, oAl 0 82), (82, oNew 7 6 [.null, .null, .null, .null, .int 0, .int 0] 85), (85, oDup 86), (86, oCallI mX7_init 0 89), (89, oPutR 11 7 92), (92, oK (.int (nI 0)) 93), (93, oIs 1 94), (94, oIl 1 95), (95, oAl 0 96), (96, oGet 11 0 99), (99, oAlen 100), (100, oIf2ge 124 103), (103, oAl 0 104), (104, oGet 11 0 107), (107, oIl 1 108), (108, oNew 4 4 [.null, .null, .null, .int 0] 111), (111, oDup 112), (112, oK (.int (nI 12)) 114), (114, oCallI mX4_init 1 117), (117, oAast 118), (118, oInc 1 (nI 1) 121), (121, oGo 94), (124, oVret)]
def uX11_init : Nat → qP := q_tb lX11_init
set_option maxRecDepth 20000 in
theorem suX11_init : q_Snd mX11_init uX11_init := by
  refine q_tb_ok ?_
  unfold lX11_init
  refine q_fa (ok_aload_n (by decide +kernel : decode cX11_init 0 = .ok (.aload_n 0, 1)) rfl rfl) ?_
  refine q_fa (ok_obj (by decide +kernel : decode cX11_init 1 = .ok (.invokespecial 3, 3)) rfl g23 g24 g25) ?_
  refine q_fa (ok_aload_n (by decide +kernel : decode cX11_init 4 = .ok (.aload_n 0, 1)) rfl rfl) ?_
  refine q_fa (ok_bipush (by decide +kernel : decode cX11_init 5 = .ok (.bipush 10, 2)) rfl (by decide +kernel)) ?_
  refine q_fa (ok_anew (by decide +kernel : decode cX11_init 7 = .ok (.anewarray 9, 3)) rfl g26) ?_
  refine q_fa (ok_putR tyX11 (by decide +kernel : decode cX11_init 10 = .ok (.putfield 11, 3)) rfl (rfl : vwCl[11]? = some (RX11, TX11, 11)) inX11 tyX11_ok nmX11 (by decide) g178 (Or.inr ⟨rfl, rfl, rfl⟩) (by decide +kernel : parseFieldDescriptor (TX11 0).2.2.1 = some (tyX11 0)) (q_rfA _)) ?_
  refine q_fa (ok_aload_n (by decide +kernel : decode cX11_init 13 = .ok (.aload_n 0, 1)) rfl rfl) ?_
  refine q_fa (ok_new tyX6 (by decide +kernel : decode cX11_init 14 = .ok (.new 15, 3)) rfl (rfl : vwCl[6]? = some (RX6, TX6, 7)) inX6 tyX6_ok g28 g29 g2 (by decide +kernel)) ?_
  refine q_fa (ok_dup (by decide +kernel : decode cX11_init 17 = .ok (.dup, 1)) rfl) ?_
  refine q_fa (ok_callIN (by decide +kernel : decode cX11_init 18 = .ok (.invokespecial 17, 3)) rfl kX6_init.1 kX6_init.2.1 kX6_init.2.2.1 kX6_init.2.2.2.1 kX6_init.2.2.2.2 rfl rfl g31 gn30) ?_
  refine q_fa (ok_putR tyX11 (by decide +kernel : decode cX11_init 21 = .ok (.putfield 18, 3)) rfl (rfl : vwCl[11]? = some (RX11, TX11, 11)) inX11 tyX11_ok nmX11 (by decide) g179 (Or.inr ⟨rfl, rfl, rfl⟩) (by decide +kernel : parseFieldDescriptor (TX11 1).2.2.1 = some (tyX11 1)) (q_rfO _)) ?_
  refine q_fa (ok_aload_n (by decide +kernel : decode cX11_init 24 = .ok (.aload_n 0, 1)) rfl rfl) ?_
  refine q_fa (ok_new tyX10 (by decide +kernel : decode cX11_init 25 = .ok (.new 22, 3)) rfl (rfl : vwCl[10]? = some (RX10, TX10, 2)) inX10 tyX10_ok g79 g80 g5 (by decide +kernel)) ?_
  refine q_fa (ok_dup (by decide +kernel : decode cX11_init 28 = .ok (.dup, 1)) rfl) ?_
  refine q_fa (ok_callIN (by decide +kernel : decode cX11_init 29 = .ok (.invokespecial 24, 3)) rfl kX10_init.1 kX10_init.2.1 kX10_init.2.2.1 kX10_init.2.2.2.1 kX10_init.2.2.2.2 rfl rfl g82 gn81) ?_
  refine q_fa (ok_putR tyX11 (by decide +kernel : decode cX11_init 32 = .ok (.putfield 25, 3)) rfl (rfl : vwCl[11]? = some (RX11, TX11, 11)) inX11 tyX11_ok nmX11 (by decide) g180 (Or.inr ⟨rfl, rfl, rfl⟩) (by decide +kernel : parseFieldDescriptor (TX11 2).2.2.1 = some (tyX11 2)) (q_rfO _)) ?_
  refine q_fa (ok_aload_n (by decide +kernel : decode cX11_init 35 = .ok (.aload_n 0, 1)) rfl rfl) ?_
  refine q_fa (ok_new tyX0 (by decide +kernel : decode cX11_init 36 = .ok (.new 29, 3)) rfl (rfl : vwCl[0]? = some (RX0, TX0, 9)) inX0 tyX0_ok g92 g93 g6 (by decide +kernel)) ?_
  refine q_fa (ok_dup (by decide +kernel : decode cX11_init 39 = .ok (.dup, 1)) rfl) ?_
  refine q_fa (ok_callIN (by decide +kernel : decode cX11_init 40 = .ok (.invokespecial 31, 3)) rfl kX0_init.1 kX0_init.2.1 kX0_init.2.2.1 kX0_init.2.2.2.1 kX0_init.2.2.2.2 rfl rfl g95 gn94) ?_
  refine q_fa (ok_putR tyX11 (by decide +kernel : decode cX11_init 43 = .ok (.putfield 32, 3)) rfl (rfl : vwCl[11]? = some (RX11, TX11, 11)) inX11 tyX11_ok nmX11 (by decide) g181 (Or.inr ⟨rfl, rfl, rfl⟩) (by decide +kernel : parseFieldDescriptor (TX11 3).2.2.1 = some (tyX11 3)) (q_rfO _)) ?_
  refine q_fa (ok_aload_n (by decide +kernel : decode cX11_init 46 = .ok (.aload_n 0, 1)) rfl rfl) ?_
  refine q_fa (ok_new tyX0 (by decide +kernel : decode cX11_init 47 = .ok (.new 29, 3)) rfl (rfl : vwCl[0]? = some (RX0, TX0, 9)) inX0 tyX0_ok g92 g93 g6 (by decide +kernel)) ?_
  refine q_fa (ok_dup (by decide +kernel : decode cX11_init 50 = .ok (.dup, 1)) rfl) ?_
  refine q_fa (ok_callIN (by decide +kernel : decode cX11_init 51 = .ok (.invokespecial 31, 3)) rfl kX0_init.1 kX0_init.2.1 kX0_init.2.2.1 kX0_init.2.2.2.1 kX0_init.2.2.2.2 rfl rfl g95 gn94) ?_
  refine q_fa (ok_putR tyX11 (by decide +kernel : decode cX11_init 54 = .ok (.putfield 36, 3)) rfl (rfl : vwCl[11]? = some (RX11, TX11, 11)) inX11 tyX11_ok nmX11 (by decide) g182 (Or.inr ⟨rfl, rfl, rfl⟩) (by decide +kernel : parseFieldDescriptor (TX11 4).2.2.1 = some (tyX11 4)) (q_rfO _)) ?_
  refine q_fa (ok_aload_n (by decide +kernel : decode cX11_init 57 = .ok (.aload_n 0, 1)) rfl rfl) ?_
  refine q_fa (ok_new tyX9 (by decide +kernel : decode cX11_init 58 = .ok (.new 39, 3)) rfl (rfl : vwCl[9]? = some (RX9, TX9, 1)) inX9 tyX9_ok g127 g128 g7 (by decide +kernel)) ?_
  refine q_fa (ok_dup (by decide +kernel : decode cX11_init 61 = .ok (.dup, 1)) rfl) ?_
  refine q_fa (ok_callIN (by decide +kernel : decode cX11_init 62 = .ok (.invokespecial 41, 3)) rfl kX9_init.1 kX9_init.2.1 kX9_init.2.2.1 kX9_init.2.2.2.1 kX9_init.2.2.2.2 rfl rfl g130 gn129) ?_
  refine q_fa (ok_putR tyX11 (by decide +kernel : decode cX11_init 65 = .ok (.putfield 42, 3)) rfl (rfl : vwCl[11]? = some (RX11, TX11, 11)) inX11 tyX11_ok nmX11 (by decide) g183 (Or.inr ⟨rfl, rfl, rfl⟩) (by decide +kernel : parseFieldDescriptor (TX11 5).2.2.1 = some (tyX11 5)) (q_rfO _)) ?_
  refine q_fa (ok_aload_n (by decide +kernel : decode cX11_init 68 = .ok (.aload_n 0, 1)) rfl rfl) ?_
  refine q_fa (ok_new tyX8 (by decide +kernel : decode cX11_init 69 = .ok (.new 46, 3)) rfl (rfl : vwCl[8]? = some (RX8, TX8, 2)) inX8 tyX8_ok g137 g138 g8 (by decide +kernel)) ?_
  refine q_fa (ok_dup (by decide +kernel : decode cX11_init 72 = .ok (.dup, 1)) rfl) ?_
  refine q_fa (ok_bipush (by decide +kernel : decode cX11_init 73 = .ok (.bipush 12, 2)) rfl (by decide +kernel)) ?_
  refine q_fa (ok_callI (by decide +kernel : decode cX11_init 75 = .ok (.invokespecial 48, 3)) rfl kX8_init.1 kX8_init.2.1 kX8_init.2.2.1 kX8_init.2.2.2.1 kX8_init.2.2.2.2 rfl rfl g140 g139) ?_
  refine q_fa (ok_putR tyX11 (by decide +kernel : decode cX11_init 78 = .ok (.putfield 51, 3)) rfl (rfl : vwCl[11]? = some (RX11, TX11, 11)) inX11 tyX11_ok nmX11 (by decide) g184 (Or.inr ⟨rfl, rfl, rfl⟩) (by decide +kernel : parseFieldDescriptor (TX11 6).2.2.1 = some (tyX11 6)) (q_rfO _)) ?_
  refine q_fa (ok_aload_n (by decide +kernel : decode cX11_init 81 = .ok (.aload_n 0, 1)) rfl rfl) ?_
  refine q_fa (ok_new tyX7 (by decide +kernel : decode cX11_init 82 = .ok (.new 55, 3)) rfl (rfl : vwCl[7]? = some (RX7, TX7, 6)) inX7 tyX7_ok g152 g153 g9 (by decide +kernel)) ?_
  refine q_fa (ok_dup (by decide +kernel : decode cX11_init 85 = .ok (.dup, 1)) rfl) ?_
  refine q_fa (ok_callIN (by decide +kernel : decode cX11_init 86 = .ok (.invokespecial 57, 3)) rfl kX7_init.1 kX7_init.2.1 kX7_init.2.2.1 kX7_init.2.2.2.1 kX7_init.2.2.2.2 rfl rfl g155 gn154) ?_
  refine q_fa (ok_putR tyX11 (by decide +kernel : decode cX11_init 89 = .ok (.putfield 58, 3)) rfl (rfl : vwCl[11]? = some (RX11, TX11, 11)) inX11 tyX11_ok nmX11 (by decide) g185 (Or.inr ⟨rfl, rfl, rfl⟩) (by decide +kernel : parseFieldDescriptor (TX11 7).2.2.1 = some (tyX11 7)) (q_rfO _)) ?_
  refine q_fa (ok_iconst (by decide +kernel : decode cX11_init 92 = .ok (.iconst 0, 1)) rfl (by decide +kernel)) ?_
  refine q_fa (ok_istore_n (by decide +kernel : decode cX11_init 93 = .ok (.istore_n 1, 1)) rfl rfl (by decide)) ?_
  refine q_fa (ok_iload_n (by decide +kernel : decode cX11_init 94 = .ok (.iload_n 1, 1)) rfl rfl) ?_
  refine q_fa (ok_aload_n (by decide +kernel : decode cX11_init 95 = .ok (.aload_n 0, 1)) rfl rfl) ?_
  refine q_fa (ok_get (by decide +kernel : decode cX11_init 96 = .ok (.getfield 11, 3)) rfl (rfl : vwCl[11]? = some (RX11, TX11, 11)) inX11 (by decide) g178) ?_
  refine q_fa (ok_alen (by decide +kernel : decode cX11_init 99 = .ok (.arraylength, 1)) rfl) ?_
  refine q_fa (ok_if2ge (by decide +kernel : decode cX11_init 100 = .ok (.if_icmp .ge 24, 3)) (by decide) rfl) ?_
  refine q_fa (ok_aload_n (by decide +kernel : decode cX11_init 103 = .ok (.aload_n 0, 1)) rfl rfl) ?_
  refine q_fa (ok_get (by decide +kernel : decode cX11_init 104 = .ok (.getfield 11, 3)) rfl (rfl : vwCl[11]? = some (RX11, TX11, 11)) inX11 (by decide) g178) ?_
  refine q_fa (ok_iload_n (by decide +kernel : decode cX11_init 107 = .ok (.iload_n 1, 1)) rfl rfl) ?_
  refine q_fa (ok_new tyX4 (by decide +kernel : decode cX11_init 108 = .ok (.new 9, 3)) rfl (rfl : vwCl[4]? = some (RX4, TX4, 4)) inX4 tyX4_ok g26 g35 g3 (by decide +kernel)) ?_
  refine q_fa (ok_dup (by decide +kernel : decode cX11_init 111 = .ok (.dup, 1)) rfl) ?_
  refine q_fa (ok_bipush (by decide +kernel : decode cX11_init 112 = .ok (.bipush 12, 2)) rfl (by decide +kernel)) ?_
  refine q_fa (ok_callI (by decide +kernel : decode cX11_init 114 = .ok (.invokespecial 62, 3)) rfl kX4_init.1 kX4_init.2.1 kX4_init.2.2.1 kX4_init.2.2.2.1 kX4_init.2.2.2.2 rfl rfl g37 g177) ?_
  refine q_fa (ok_aastore (by decide +kernel : decode cX11_init 117 = .ok (.aastore, 1)) rfl) ?_
  refine q_fa (ok_iinc (by decide +kernel : decode cX11_init 118 = .ok (.iinc 1 1, 3)) rfl (by decide +kernel) (by decide)) ?_
  refine q_fa (ok_goto (by decide +kernel : decode cX11_init 121 = .ok (.goto (-27), 3)) (by decide)) ?_
  refine q_fa (ok_vret (by decide +kernel : decode cX11_init 124 = .ok (.return_, 1)) rfl) ?_
  exact q_fa0
theorem exX11_init : ∃ t : Nat → qP, t = uX11_init := ⟨_, rfl⟩
noncomputable def tX11_init : Nat → qP := Classical.choose exX11_init
theorem teX11_init : tX11_init = uX11_init := Classical.choose_spec exX11_init
theorem sX11_init : q_Snd mX11_init tX11_init := by rw [teX11_init]; exact suX11_init
theorem tX11_init_0 : tX11_init 0 = oAl 0 1 := (congrFun teX11_init 0).trans rfl
theorem tX11_init_1 : tX11_init 1 = oObj 4 := (congrFun teX11_init 1).trans rfl
theorem tX11_init_4 : tX11_init 4 = oAl 0 5 := (congrFun teX11_init 4).trans rfl
theorem tX11_init_5 : tX11_init 5 = oK (.int (nI 10)) 7 := (congrFun teX11_init 5).trans rfl
theorem tX11_init_7 : tX11_init 7 = oANew 10 := (congrFun teX11_init 7).trans rfl
theorem tX11_init_10 : tX11_init 10 = oPutR 11 0 13 := (congrFun teX11_init 10).trans rfl
theorem tX11_init_13 : tX11_init 13 = oAl 0 14 := (congrFun teX11_init 13).trans rfl
theorem tX11_init_14 : tX11_init 14 = oNew 6 7 [.null, .int 0, .null, .null, .int 0, .int 0, .int 0] 17 := (congrFun teX11_init 14).trans rfl
theorem tX11_init_17 : tX11_init 17 = oDup 18 := (congrFun teX11_init 17).trans rfl
theorem tX11_init_18 : tX11_init 18 = oCallI mX6_init 0 21 := (congrFun teX11_init 18).trans rfl
theorem tX11_init_21 : tX11_init 21 = oPutR 11 1 24 := (congrFun teX11_init 21).trans rfl
theorem tX11_init_24 : tX11_init 24 = oAl 0 25 := (congrFun teX11_init 24).trans rfl
theorem tX11_init_25 : tX11_init 25 = oNew 10 2 [.null, .int 0] 28 := (congrFun teX11_init 25).trans rfl
theorem tX11_init_28 : tX11_init 28 = oDup 29 := (congrFun teX11_init 28).trans rfl
theorem tX11_init_29 : tX11_init 29 = oCallI mX10_init 0 32 := (congrFun teX11_init 29).trans rfl
theorem tX11_init_32 : tX11_init 32 = oPutR 11 2 35 := (congrFun teX11_init 32).trans rfl
theorem tX11_init_35 : tX11_init 35 = oAl 0 36 := (congrFun teX11_init 35).trans rfl
theorem tX11_init_36 : tX11_init 36 = oNew 0 9 [.null, .null, .null, .null, .null, .null, .int 0, .int 0, .int 0] 39 := (congrFun teX11_init 36).trans rfl
theorem tX11_init_39 : tX11_init 39 = oDup 40 := (congrFun teX11_init 39).trans rfl
theorem tX11_init_40 : tX11_init 40 = oCallI mX0_init 0 43 := (congrFun teX11_init 40).trans rfl
theorem tX11_init_43 : tX11_init 43 = oPutR 11 3 46 := (congrFun teX11_init 43).trans rfl
theorem tX11_init_46 : tX11_init 46 = oAl 0 47 := (congrFun teX11_init 46).trans rfl
theorem tX11_init_47 : tX11_init 47 = oNew 0 9 [.null, .null, .null, .null, .null, .null, .int 0, .int 0, .int 0] 50 := (congrFun teX11_init 47).trans rfl
theorem tX11_init_50 : tX11_init 50 = oDup 51 := (congrFun teX11_init 50).trans rfl
theorem tX11_init_51 : tX11_init 51 = oCallI mX0_init 0 54 := (congrFun teX11_init 51).trans rfl
theorem tX11_init_54 : tX11_init 54 = oPutR 11 4 57 := (congrFun teX11_init 54).trans rfl
theorem tX11_init_57 : tX11_init 57 = oAl 0 58 := (congrFun teX11_init 57).trans rfl
theorem tX11_init_58 : tX11_init 58 = oNew 9 1 [.null] 61 := (congrFun teX11_init 58).trans rfl
theorem tX11_init_61 : tX11_init 61 = oDup 62 := (congrFun teX11_init 61).trans rfl
theorem tX11_init_62 : tX11_init 62 = oCallI mX9_init 0 65 := (congrFun teX11_init 62).trans rfl
theorem tX11_init_65 : tX11_init 65 = oPutR 11 5 68 := (congrFun teX11_init 65).trans rfl
theorem tX11_init_68 : tX11_init 68 = oAl 0 69 := (congrFun teX11_init 68).trans rfl
theorem tX11_init_69 : tX11_init 69 = oNew 8 2 [.null, .null] 72 := (congrFun teX11_init 69).trans rfl
theorem tX11_init_72 : tX11_init 72 = oDup 73 := (congrFun teX11_init 72).trans rfl
theorem tX11_init_73 : tX11_init 73 = oK (.int (nI 12)) 75 := (congrFun teX11_init 73).trans rfl
theorem tX11_init_75 : tX11_init 75 = oCallI mX8_init 1 78 := (congrFun teX11_init 75).trans rfl
theorem tX11_init_78 : tX11_init 78 = oPutR 11 6 81 := (congrFun teX11_init 78).trans rfl
theorem tX11_init_81 : tX11_init 81 = oAl 0 82 := (congrFun teX11_init 81).trans rfl
theorem tX11_init_82 : tX11_init 82 = oNew 7 6 [.null, .null, .null, .null, .int 0, .int 0] 85 := (congrFun teX11_init 82).trans rfl
theorem tX11_init_85 : tX11_init 85 = oDup 86 := (congrFun teX11_init 85).trans rfl
theorem tX11_init_86 : tX11_init 86 = oCallI mX7_init 0 89 := (congrFun teX11_init 86).trans rfl
theorem tX11_init_89 : tX11_init 89 = oPutR 11 7 92 := (congrFun teX11_init 89).trans rfl
theorem tX11_init_92 : tX11_init 92 = oK (.int (nI 0)) 93 := (congrFun teX11_init 92).trans rfl
theorem tX11_init_93 : tX11_init 93 = oIs 1 94 := (congrFun teX11_init 93).trans rfl
theorem tX11_init_94 : tX11_init 94 = oIl 1 95 := (congrFun teX11_init 94).trans rfl
theorem tX11_init_95 : tX11_init 95 = oAl 0 96 := (congrFun teX11_init 95).trans rfl
theorem tX11_init_96 : tX11_init 96 = oGet 11 0 99 := (congrFun teX11_init 96).trans rfl
theorem tX11_init_99 : tX11_init 99 = oAlen 100 := (congrFun teX11_init 99).trans rfl
theorem tX11_init_100 : tX11_init 100 = oIf2ge 124 103 := (congrFun teX11_init 100).trans rfl
theorem tX11_init_103 : tX11_init 103 = oAl 0 104 := (congrFun teX11_init 103).trans rfl
theorem tX11_init_104 : tX11_init 104 = oGet 11 0 107 := (congrFun teX11_init 104).trans rfl
theorem tX11_init_107 : tX11_init 107 = oIl 1 108 := (congrFun teX11_init 107).trans rfl
theorem tX11_init_108 : tX11_init 108 = oNew 4 4 [.null, .null, .null, .int 0] 111 := (congrFun teX11_init 108).trans rfl
theorem tX11_init_111 : tX11_init 111 = oDup 112 := (congrFun teX11_init 111).trans rfl
theorem tX11_init_112 : tX11_init 112 = oK (.int (nI 12)) 114 := (congrFun teX11_init 112).trans rfl
theorem tX11_init_114 : tX11_init 114 = oCallI mX4_init 1 117 := (congrFun teX11_init 114).trans rfl
theorem tX11_init_117 : tX11_init 117 = oAast 118 := (congrFun teX11_init 117).trans rfl
theorem tX11_init_118 : tX11_init 118 = oInc 1 (nI 1) 121 := (congrFun teX11_init 118).trans rfl
theorem tX11_init_121 : tX11_init 121 = oGo 94 := (congrFun teX11_init 121).trans rfl
theorem tX11_init_124 : tX11_init 124 = oVret := (congrFun teX11_init 124).trans rfl
def lX11_feed : List (Nat × qP) := [(0, oIl 1 1), (1, oK (.int (nI 1)) 2), (2, oIf2lt 10 5), (5, oIl 1 6), (6, oK (.int (nI 4)) 7), (7, oIf2le 12 10), (10, oK (.int (-1)) 11), (11, oIret), (12, oAl 0 13), (13, oGet 11 1 16), (16, oIl 1 17), (17, oIl 2 18), (18, oCallV 6 mX6_take 2 21), (21, oIret)]
def uX11_feed : Nat → qP := q_tb lX11_feed
set_option maxRecDepth 20000 in
theorem suX11_feed : q_Snd mX11_feed uX11_feed := by
  refine q_tb_ok ?_
  unfold lX11_feed
  refine q_fa (ok_iload_n (by decide +kernel : decode cX11_feed 0 = .ok (.iload_n 1, 1)) rfl rfl) ?_
  refine q_fa (ok_iconst (by decide +kernel : decode cX11_feed 1 = .ok (.iconst 1, 1)) rfl (by decide +kernel)) ?_
  refine q_fa (ok_if2lt (by decide +kernel : decode cX11_feed 2 = .ok (.if_icmp .lt 8, 3)) (by decide) rfl) ?_
  refine q_fa (ok_iload_n (by decide +kernel : decode cX11_feed 5 = .ok (.iload_n 1, 1)) rfl rfl) ?_
  refine q_fa (ok_iconst (by decide +kernel : decode cX11_feed 6 = .ok (.iconst 4, 1)) rfl (by decide +kernel)) ?_
  refine q_fa (ok_if2le (by decide +kernel : decode cX11_feed 7 = .ok (.if_icmp .le 5, 3)) (by decide) rfl) ?_
  refine q_fa (ok_iconst (by decide +kernel : decode cX11_feed 10 = .ok (.iconst (-1), 1)) rfl (by decide +kernel)) ?_
  refine q_fa (ok_iret (by decide +kernel : decode cX11_feed 11 = .ok (.ireturn, 1)) rfl) ?_
  refine q_fa (ok_aload_n (by decide +kernel : decode cX11_feed 12 = .ok (.aload_n 0, 1)) rfl rfl) ?_
  refine q_fa (ok_get (by decide +kernel : decode cX11_feed 13 = .ok (.getfield 18, 3)) rfl (rfl : vwCl[11]? = some (RX11, TX11, 11)) inX11 (by decide) g179) ?_
  refine q_fa (ok_iload_n (by decide +kernel : decode cX11_feed 16 = .ok (.iload_n 1, 1)) rfl rfl) ?_
  refine q_fa (ok_iload_n (by decide +kernel : decode cX11_feed 17 = .ok (.iload_n 2, 1)) rfl rfl) ?_
  refine q_fa (ok_callV (by decide +kernel : decode cX11_feed 18 = .ok (.invokevirtual 63, 3)) rfl kX6_take.1 kX6_take.2.1 kX6_take.2.2.1 kX6_take.2.2.2.1 kX6_take.2.2.2.2 (rfl : vwCl[6]? = some (RX6, TX6, 7)) g217 g218 g216) ?_
  refine q_fa (ok_iret (by decide +kernel : decode cX11_feed 21 = .ok (.ireturn, 1)) rfl) ?_
  exact q_fa0
theorem exX11_feed : ∃ t : Nat → qP, t = uX11_feed := ⟨_, rfl⟩
noncomputable def tX11_feed : Nat → qP := Classical.choose exX11_feed
theorem teX11_feed : tX11_feed = uX11_feed := Classical.choose_spec exX11_feed
theorem sX11_feed : q_Snd mX11_feed tX11_feed := by rw [teX11_feed]; exact suX11_feed
theorem tX11_feed_0 : tX11_feed 0 = oIl 1 1 := (congrFun teX11_feed 0).trans rfl
theorem tX11_feed_1 : tX11_feed 1 = oK (.int (nI 1)) 2 := (congrFun teX11_feed 1).trans rfl
theorem tX11_feed_2 : tX11_feed 2 = oIf2lt 10 5 := (congrFun teX11_feed 2).trans rfl
theorem tX11_feed_5 : tX11_feed 5 = oIl 1 6 := (congrFun teX11_feed 5).trans rfl
theorem tX11_feed_6 : tX11_feed 6 = oK (.int (nI 4)) 7 := (congrFun teX11_feed 6).trans rfl
theorem tX11_feed_7 : tX11_feed 7 = oIf2le 12 10 := (congrFun teX11_feed 7).trans rfl
theorem tX11_feed_10 : tX11_feed 10 = oK (.int (-1)) 11 := (congrFun teX11_feed 10).trans rfl
theorem tX11_feed_11 : tX11_feed 11 = oIret := (congrFun teX11_feed 11).trans rfl
theorem tX11_feed_12 : tX11_feed 12 = oAl 0 13 := (congrFun teX11_feed 12).trans rfl
theorem tX11_feed_13 : tX11_feed 13 = oGet 11 1 16 := (congrFun teX11_feed 13).trans rfl
theorem tX11_feed_16 : tX11_feed 16 = oIl 1 17 := (congrFun teX11_feed 16).trans rfl
theorem tX11_feed_17 : tX11_feed 17 = oIl 2 18 := (congrFun teX11_feed 17).trans rfl
theorem tX11_feed_18 : tX11_feed 18 = oCallV 6 mX6_take 2 21 := (congrFun teX11_feed 18).trans rfl
theorem tX11_feed_21 : tX11_feed 21 = oIret := (congrFun teX11_feed 21).trans rfl
def lX11_read : List (Nat × qP) := [(0, oAl 0 1), (1, oIl 1 2), (2, oCallV 11 mX11_placeAt 1 5), (5, oAs 2 6), (6, oAl 2 7), (7, oIfnn 12 10), (10, oK (.int (-1)) 11), (11, oIret), (12, oAl 0 13), (13, oGet 11 1 16), (16, oCallV 6 mX6_parse 0 19), (19, oIs 3 20), (20, oIl 3 21), (21, oIf1ge 35 24), (24, oK (.int (-100)) 26), (26, oAl 0 27), (27, oGet 11 1 30), (30, oCallV 6 mX6_fault 0 33), (33, oSub 34), (34, oIret), (35, oAl 0 36), (36, oGet 11 1 39), (39, oCallV 6 mX6_nodes 0 42), (42, oCallV 4 mX4_size 0 45), (45, oK (.int (nI 12)) 47), (47, oIf2le 54 50), (50, oK (.int (-1000)) 53), (53, oIret), (54, oAl 2 55), (55, oAl 0 56), (56, oGet 11 1 59), (59, oCallV 6 mX6_nodes 0 62), (62, oIl 3 63), (63, oCallV 4 mX4_become 2 66), (66, oAl 2 67), (67, oCallV 4 mX4_cost 0 70), (70, oIret)]
def uX11_read : Nat → qP := q_tb lX11_read
set_option maxRecDepth 20000 in
theorem suX11_read : q_Snd mX11_read uX11_read := by
  refine q_tb_ok ?_
  unfold lX11_read
  refine q_fa (ok_aload_n (by decide +kernel : decode cX11_read 0 = .ok (.aload_n 0, 1)) rfl rfl) ?_
  refine q_fa (ok_iload_n (by decide +kernel : decode cX11_read 1 = .ok (.iload_n 1, 1)) rfl rfl) ?_
  refine q_fa (ok_callV (by decide +kernel : decode cX11_read 2 = .ok (.invokevirtual 67, 3)) rfl kX11_placeAt.1 kX11_placeAt.2.1 kX11_placeAt.2.2.1 kX11_placeAt.2.2.2.1 kX11_placeAt.2.2.2.2 (rfl : vwCl[11]? = some (RX11, TX11, 11)) g230 gs1 g228) ?_
  refine q_fa (ok_astore_n (by decide +kernel : decode cX11_read 5 = .ok (.astore_n 2, 1)) rfl rfl (by decide)) ?_
  refine q_fa (ok_aload_n (by decide +kernel : decode cX11_read 6 = .ok (.aload_n 2, 1)) rfl rfl) ?_
  refine q_fa (ok_ifnonnull (by decide +kernel : decode cX11_read 7 = .ok (.ifnonnull 5, 3)) (by decide) rfl) ?_
  refine q_fa (ok_iconst (by decide +kernel : decode cX11_read 10 = .ok (.iconst (-1), 1)) rfl (by decide +kernel)) ?_
  refine q_fa (ok_iret (by decide +kernel : decode cX11_read 11 = .ok (.ireturn, 1)) rfl) ?_
  refine q_fa (ok_aload_n (by decide +kernel : decode cX11_read 12 = .ok (.aload_n 0, 1)) rfl rfl) ?_
  refine q_fa (ok_get (by decide +kernel : decode cX11_read 13 = .ok (.getfield 18, 3)) rfl (rfl : vwCl[11]? = some (RX11, TX11, 11)) inX11 (by decide) g179) ?_
  refine q_fa (ok_callV (by decide +kernel : decode cX11_read 16 = .ok (.invokevirtual 71, 3)) rfl kX6_parse.1 kX6_parse.2.1 kX6_parse.2.2.1 kX6_parse.2.2.2.1 kX6_parse.2.2.2.2 (rfl : vwCl[6]? = some (RX6, TX6, 7)) g233 g234 g232) ?_
  refine q_fa (ok_istore_n (by decide +kernel : decode cX11_read 19 = .ok (.istore_n 3, 1)) rfl rfl (by decide)) ?_
  refine q_fa (ok_iload_n (by decide +kernel : decode cX11_read 20 = .ok (.iload_n 3, 1)) rfl rfl) ?_
  refine q_fa (ok_if1ge (by decide +kernel : decode cX11_read 21 = .ok (.ifCond .ge 14, 3)) (by decide) rfl) ?_
  refine q_fa (ok_bipush (by decide +kernel : decode cX11_read 24 = .ok (.bipush (-100), 2)) rfl (by decide +kernel)) ?_
  refine q_fa (ok_aload_n (by decide +kernel : decode cX11_read 26 = .ok (.aload_n 0, 1)) rfl rfl) ?_
  refine q_fa (ok_get (by decide +kernel : decode cX11_read 27 = .ok (.getfield 18, 3)) rfl (rfl : vwCl[11]? = some (RX11, TX11, 11)) inX11 (by decide) g179) ?_
  refine q_fa (ok_callV (by decide +kernel : decode cX11_read 30 = .ok (.invokevirtual 75, 3)) rfl kX6_fault.1 kX6_fault.2.1 kX6_fault.2.2.1 kX6_fault.2.2.2.1 kX6_fault.2.2.2.2 (rfl : vwCl[6]? = some (RX6, TX6, 7)) g299 g300 g298) ?_
  refine q_fa (ok_isub (by decide +kernel : decode cX11_read 33 = .ok (.isub, 1)) rfl) ?_
  refine q_fa (ok_iret (by decide +kernel : decode cX11_read 34 = .ok (.ireturn, 1)) rfl) ?_
  refine q_fa (ok_aload_n (by decide +kernel : decode cX11_read 35 = .ok (.aload_n 0, 1)) rfl rfl) ?_
  refine q_fa (ok_get (by decide +kernel : decode cX11_read 36 = .ok (.getfield 18, 3)) rfl (rfl : vwCl[11]? = some (RX11, TX11, 11)) inX11 (by decide) g179) ?_
  refine q_fa (ok_callV (by decide +kernel : decode cX11_read 39 = .ok (.invokevirtual 78, 3)) rfl kX6_nodes.1 kX6_nodes.2.1 kX6_nodes.2.2.1 kX6_nodes.2.2.2.1 kX6_nodes.2.2.2.2 (rfl : vwCl[6]? = some (RX6, TX6, 7)) g303 g304 g302) ?_
  refine q_fa (ok_callV (by decide +kernel : decode cX11_read 42 = .ok (.invokevirtual 82, 3)) rfl kX4_size.1 kX4_size.2.1 kX4_size.2.2.1 kX4_size.2.2.2.1 kX4_size.2.2.2.2 (rfl : vwCl[4]? = some (RX4, TX4, 4)) g307 g308 g306) ?_
  refine q_fa (ok_bipush (by decide +kernel : decode cX11_read 45 = .ok (.bipush 12, 2)) rfl (by decide +kernel)) ?_
  refine q_fa (ok_if2le (by decide +kernel : decode cX11_read 47 = .ok (.if_icmp .le 7, 3)) (by decide) rfl) ?_
  refine q_fa (ok_sipush (by decide +kernel : decode cX11_read 50 = .ok (.sipush (-1000), 3)) rfl (by decide +kernel)) ?_
  refine q_fa (ok_iret (by decide +kernel : decode cX11_read 53 = .ok (.ireturn, 1)) rfl) ?_
  refine q_fa (ok_aload_n (by decide +kernel : decode cX11_read 54 = .ok (.aload_n 2, 1)) rfl rfl) ?_
  refine q_fa (ok_aload_n (by decide +kernel : decode cX11_read 55 = .ok (.aload_n 0, 1)) rfl rfl) ?_
  refine q_fa (ok_get (by decide +kernel : decode cX11_read 56 = .ok (.getfield 18, 3)) rfl (rfl : vwCl[11]? = some (RX11, TX11, 11)) inX11 (by decide) g179) ?_
  refine q_fa (ok_callV (by decide +kernel : decode cX11_read 59 = .ok (.invokevirtual 78, 3)) rfl kX6_nodes.1 kX6_nodes.2.1 kX6_nodes.2.2.1 kX6_nodes.2.2.2.1 kX6_nodes.2.2.2.2 (rfl : vwCl[6]? = some (RX6, TX6, 7)) g303 g304 g302) ?_
  refine q_fa (ok_iload_n (by decide +kernel : decode cX11_read 62 = .ok (.iload_n 3, 1)) rfl rfl) ?_
  refine q_fa (ok_callV (by decide +kernel : decode cX11_read 63 = .ok (.invokevirtual 85, 3)) rfl kX4_become.1 kX4_become.2.1 kX4_become.2.2.1 kX4_become.2.2.2.1 kX4_become.2.2.2.2 (rfl : vwCl[4]? = some (RX4, TX4, 4)) g311 g312 g310) ?_
  refine q_fa (ok_aload_n (by decide +kernel : decode cX11_read 66 = .ok (.aload_n 2, 1)) rfl rfl) ?_
  refine q_fa (ok_callV (by decide +kernel : decode cX11_read 67 = .ok (.invokevirtual 89, 3)) rfl kX4_cost.1 kX4_cost.2.1 kX4_cost.2.2.1 kX4_cost.2.2.2.1 kX4_cost.2.2.2.2 (rfl : vwCl[4]? = some (RX4, TX4, 4)) g331 g332 g330) ?_
  refine q_fa (ok_iret (by decide +kernel : decode cX11_read 70 = .ok (.ireturn, 1)) rfl) ?_
  exact q_fa0
theorem exX11_read : ∃ t : Nat → qP, t = uX11_read := ⟨_, rfl⟩
noncomputable def tX11_read : Nat → qP := Classical.choose exX11_read
theorem teX11_read : tX11_read = uX11_read := Classical.choose_spec exX11_read
theorem sX11_read : q_Snd mX11_read tX11_read := by rw [teX11_read]; exact suX11_read
theorem tX11_read_0 : tX11_read 0 = oAl 0 1 := (congrFun teX11_read 0).trans rfl
theorem tX11_read_1 : tX11_read 1 = oIl 1 2 := (congrFun teX11_read 1).trans rfl
theorem tX11_read_2 : tX11_read 2 = oCallV 11 mX11_placeAt 1 5 := (congrFun teX11_read 2).trans rfl
theorem tX11_read_5 : tX11_read 5 = oAs 2 6 := (congrFun teX11_read 5).trans rfl
theorem tX11_read_6 : tX11_read 6 = oAl 2 7 := (congrFun teX11_read 6).trans rfl
theorem tX11_read_7 : tX11_read 7 = oIfnn 12 10 := (congrFun teX11_read 7).trans rfl
theorem tX11_read_10 : tX11_read 10 = oK (.int (-1)) 11 := (congrFun teX11_read 10).trans rfl
theorem tX11_read_11 : tX11_read 11 = oIret := (congrFun teX11_read 11).trans rfl
theorem tX11_read_12 : tX11_read 12 = oAl 0 13 := (congrFun teX11_read 12).trans rfl
theorem tX11_read_13 : tX11_read 13 = oGet 11 1 16 := (congrFun teX11_read 13).trans rfl
theorem tX11_read_16 : tX11_read 16 = oCallV 6 mX6_parse 0 19 := (congrFun teX11_read 16).trans rfl
theorem tX11_read_19 : tX11_read 19 = oIs 3 20 := (congrFun teX11_read 19).trans rfl
theorem tX11_read_20 : tX11_read 20 = oIl 3 21 := (congrFun teX11_read 20).trans rfl
theorem tX11_read_21 : tX11_read 21 = oIf1ge 35 24 := (congrFun teX11_read 21).trans rfl
theorem tX11_read_24 : tX11_read 24 = oK (.int (-100)) 26 := (congrFun teX11_read 24).trans rfl
theorem tX11_read_26 : tX11_read 26 = oAl 0 27 := (congrFun teX11_read 26).trans rfl
theorem tX11_read_27 : tX11_read 27 = oGet 11 1 30 := (congrFun teX11_read 27).trans rfl
theorem tX11_read_30 : tX11_read 30 = oCallV 6 mX6_fault 0 33 := (congrFun teX11_read 30).trans rfl
theorem tX11_read_33 : tX11_read 33 = oSub 34 := (congrFun teX11_read 33).trans rfl
theorem tX11_read_34 : tX11_read 34 = oIret := (congrFun teX11_read 34).trans rfl
theorem tX11_read_35 : tX11_read 35 = oAl 0 36 := (congrFun teX11_read 35).trans rfl
theorem tX11_read_36 : tX11_read 36 = oGet 11 1 39 := (congrFun teX11_read 36).trans rfl
theorem tX11_read_39 : tX11_read 39 = oCallV 6 mX6_nodes 0 42 := (congrFun teX11_read 39).trans rfl
theorem tX11_read_42 : tX11_read 42 = oCallV 4 mX4_size 0 45 := (congrFun teX11_read 42).trans rfl
theorem tX11_read_45 : tX11_read 45 = oK (.int (nI 12)) 47 := (congrFun teX11_read 45).trans rfl
theorem tX11_read_47 : tX11_read 47 = oIf2le 54 50 := (congrFun teX11_read 47).trans rfl
theorem tX11_read_50 : tX11_read 50 = oK (.int (-1000)) 53 := (congrFun teX11_read 50).trans rfl
theorem tX11_read_53 : tX11_read 53 = oIret := (congrFun teX11_read 53).trans rfl
theorem tX11_read_54 : tX11_read 54 = oAl 2 55 := (congrFun teX11_read 54).trans rfl
theorem tX11_read_55 : tX11_read 55 = oAl 0 56 := (congrFun teX11_read 55).trans rfl
theorem tX11_read_56 : tX11_read 56 = oGet 11 1 59 := (congrFun teX11_read 56).trans rfl
theorem tX11_read_59 : tX11_read 59 = oCallV 6 mX6_nodes 0 62 := (congrFun teX11_read 59).trans rfl
theorem tX11_read_62 : tX11_read 62 = oIl 3 63 := (congrFun teX11_read 62).trans rfl
theorem tX11_read_63 : tX11_read 63 = oCallV 4 mX4_become 2 66 := (congrFun teX11_read 63).trans rfl
theorem tX11_read_66 : tX11_read 66 = oAl 2 67 := (congrFun teX11_read 66).trans rfl
theorem tX11_read_67 : tX11_read 67 = oCallV 4 mX4_cost 0 70 := (congrFun teX11_read 67).trans rfl
theorem tX11_read_70 : tX11_read 70 = oIret := (congrFun teX11_read 70).trans rfl
def lX11_say : List (Nat × qP) := [(0, oAl 0 1), (1, oIl 1 2), (2, oCallV 11 mX11_patternAt 1 5), (5, oAs 3 6), (6, oAl 3 7), (7, oIfn 15 10), (10, oIl 2 11), (11, oK (.int (-1)) 12), (12, oIf2ge 17 15), (15, oK (.int (-1)) 16), (16, oIret), (17, oAl 0 18), (18, oGet 11 2 21), (21, oAl 3 22), (22, oCallV 10 mX10_write 1 25), (25, oIl 2 26), (26, oK (.int (-1)) 27), (27, oIf2ne 38 30), (30, oAl 0 31), (31, oGet 11 2 34), (34, oCallV 10 mX10_length 0 37), (37, oIret), (38, oIl 2 39), (39, oAl 0 40), (40, oGet 11 2 43), (43, oCallV 10 mX10_length 0 46), (46, oIf2ge 60 49), (49, oAl 0 50), (50, oGet 11 2 53), (53, oIl 2 54), (54, oCallV 10 mX10_signAt 1 57), (57, oGo 61), (60, oK (.int (-1)) 61), (61, oIret)]
def uX11_say : Nat → qP := q_tb lX11_say
set_option maxRecDepth 20000 in
theorem suX11_say : q_Snd mX11_say uX11_say := by
  refine q_tb_ok ?_
  unfold lX11_say
  refine q_fa (ok_aload_n (by decide +kernel : decode cX11_say 0 = .ok (.aload_n 0, 1)) rfl rfl) ?_
  refine q_fa (ok_iload_n (by decide +kernel : decode cX11_say 1 = .ok (.iload_n 1, 1)) rfl rfl) ?_
  refine q_fa (ok_callV (by decide +kernel : decode cX11_say 2 = .ok (.invokevirtual 92, 3)) rfl kX11_patternAt.1 kX11_patternAt.2.1 kX11_patternAt.2.2.1 kX11_patternAt.2.2.2.1 kX11_patternAt.2.2.2.2 (rfl : vwCl[11]? = some (RX11, TX11, 11)) g345 gs11 g343) ?_
  refine q_fa (ok_astore_n (by decide +kernel : decode cX11_say 5 = .ok (.astore_n 3, 1)) rfl rfl (by decide)) ?_
  refine q_fa (ok_aload_n (by decide +kernel : decode cX11_say 6 = .ok (.aload_n 3, 1)) rfl rfl) ?_
  refine q_fa (ok_ifnull (by decide +kernel : decode cX11_say 7 = .ok (.ifnull 8, 3)) (by decide) rfl) ?_
  refine q_fa (ok_iload_n (by decide +kernel : decode cX11_say 10 = .ok (.iload_n 2, 1)) rfl rfl) ?_
  refine q_fa (ok_iconst (by decide +kernel : decode cX11_say 11 = .ok (.iconst (-1), 1)) rfl (by decide +kernel)) ?_
  refine q_fa (ok_if2ge (by decide +kernel : decode cX11_say 12 = .ok (.if_icmp .ge 5, 3)) (by decide) rfl) ?_
  refine q_fa (ok_iconst (by decide +kernel : decode cX11_say 15 = .ok (.iconst (-1), 1)) rfl (by decide +kernel)) ?_
  refine q_fa (ok_iret (by decide +kernel : decode cX11_say 16 = .ok (.ireturn, 1)) rfl) ?_
  refine q_fa (ok_aload_n (by decide +kernel : decode cX11_say 17 = .ok (.aload_n 0, 1)) rfl rfl) ?_
  refine q_fa (ok_get (by decide +kernel : decode cX11_say 18 = .ok (.getfield 25, 3)) rfl (rfl : vwCl[11]? = some (RX11, TX11, 11)) inX11 (by decide) g180) ?_
  refine q_fa (ok_aload_n (by decide +kernel : decode cX11_say 21 = .ok (.aload_n 3, 1)) rfl rfl) ?_
  refine q_fa (ok_callV (by decide +kernel : decode cX11_say 22 = .ok (.invokevirtual 95, 3)) rfl kX10_write.1 kX10_write.2.1 kX10_write.2.2.1 kX10_write.2.2.2.1 kX10_write.2.2.2.2 (rfl : vwCl[10]? = some (RX10, TX10, 2)) g348 g349 g347) ?_
  refine q_fa (ok_iload_n (by decide +kernel : decode cX11_say 25 = .ok (.iload_n 2, 1)) rfl rfl) ?_
  refine q_fa (ok_iconst (by decide +kernel : decode cX11_say 26 = .ok (.iconst (-1), 1)) rfl (by decide +kernel)) ?_
  refine q_fa (ok_if2ne (by decide +kernel : decode cX11_say 27 = .ok (.if_icmp .ne 11, 3)) (by decide) rfl) ?_
  refine q_fa (ok_aload_n (by decide +kernel : decode cX11_say 30 = .ok (.aload_n 0, 1)) rfl rfl) ?_
  refine q_fa (ok_get (by decide +kernel : decode cX11_say 31 = .ok (.getfield 25, 3)) rfl (rfl : vwCl[11]? = some (RX11, TX11, 11)) inX11 (by decide) g180) ?_
  refine q_fa (ok_callV (by decide +kernel : decode cX11_say 34 = .ok (.invokevirtual 99, 3)) rfl kX10_length.1 kX10_length.2.1 kX10_length.2.2.1 kX10_length.2.2.2.1 kX10_length.2.2.2.2 (rfl : vwCl[10]? = some (RX10, TX10, 2)) g371 g372 g370) ?_
  refine q_fa (ok_iret (by decide +kernel : decode cX11_say 37 = .ok (.ireturn, 1)) rfl) ?_
  refine q_fa (ok_iload_n (by decide +kernel : decode cX11_say 38 = .ok (.iload_n 2, 1)) rfl rfl) ?_
  refine q_fa (ok_aload_n (by decide +kernel : decode cX11_say 39 = .ok (.aload_n 0, 1)) rfl rfl) ?_
  refine q_fa (ok_get (by decide +kernel : decode cX11_say 40 = .ok (.getfield 25, 3)) rfl (rfl : vwCl[11]? = some (RX11, TX11, 11)) inX11 (by decide) g180) ?_
  refine q_fa (ok_callV (by decide +kernel : decode cX11_say 43 = .ok (.invokevirtual 99, 3)) rfl kX10_length.1 kX10_length.2.1 kX10_length.2.2.1 kX10_length.2.2.2.1 kX10_length.2.2.2.2 (rfl : vwCl[10]? = some (RX10, TX10, 2)) g371 g372 g370) ?_
  refine q_fa (ok_if2ge (by decide +kernel : decode cX11_say 46 = .ok (.if_icmp .ge 14, 3)) (by decide) rfl) ?_
  refine q_fa (ok_aload_n (by decide +kernel : decode cX11_say 49 = .ok (.aload_n 0, 1)) rfl rfl) ?_
  refine q_fa (ok_get (by decide +kernel : decode cX11_say 50 = .ok (.getfield 25, 3)) rfl (rfl : vwCl[11]? = some (RX11, TX11, 11)) inX11 (by decide) g180) ?_
  refine q_fa (ok_iload_n (by decide +kernel : decode cX11_say 53 = .ok (.iload_n 2, 1)) rfl rfl) ?_
  refine q_fa (ok_callV (by decide +kernel : decode cX11_say 54 = .ok (.invokevirtual 102, 3)) rfl kX10_signAt.1 kX10_signAt.2.1 kX10_signAt.2.2.1 kX10_signAt.2.2.2.1 kX10_signAt.2.2.2.2 (rfl : vwCl[10]? = some (RX10, TX10, 2)) g375 g376 g374) ?_
  refine q_fa (ok_goto (by decide +kernel : decode cX11_say 57 = .ok (.goto 4, 3)) (by decide)) ?_
  refine q_fa (ok_iconst (by decide +kernel : decode cX11_say 60 = .ok (.iconst (-1), 1)) rfl (by decide +kernel)) ?_
  refine q_fa (ok_iret (by decide +kernel : decode cX11_say 61 = .ok (.ireturn, 1)) rfl) ?_
  exact q_fa0
theorem exX11_say : ∃ t : Nat → qP, t = uX11_say := ⟨_, rfl⟩
noncomputable def tX11_say : Nat → qP := Classical.choose exX11_say
theorem teX11_say : tX11_say = uX11_say := Classical.choose_spec exX11_say
theorem sX11_say : q_Snd mX11_say tX11_say := by rw [teX11_say]; exact suX11_say
theorem tX11_say_0 : tX11_say 0 = oAl 0 1 := (congrFun teX11_say 0).trans rfl
theorem tX11_say_1 : tX11_say 1 = oIl 1 2 := (congrFun teX11_say 1).trans rfl
theorem tX11_say_2 : tX11_say 2 = oCallV 11 mX11_patternAt 1 5 := (congrFun teX11_say 2).trans rfl
theorem tX11_say_5 : tX11_say 5 = oAs 3 6 := (congrFun teX11_say 5).trans rfl
theorem tX11_say_6 : tX11_say 6 = oAl 3 7 := (congrFun teX11_say 6).trans rfl
theorem tX11_say_7 : tX11_say 7 = oIfn 15 10 := (congrFun teX11_say 7).trans rfl
theorem tX11_say_10 : tX11_say 10 = oIl 2 11 := (congrFun teX11_say 10).trans rfl
theorem tX11_say_11 : tX11_say 11 = oK (.int (-1)) 12 := (congrFun teX11_say 11).trans rfl
theorem tX11_say_12 : tX11_say 12 = oIf2ge 17 15 := (congrFun teX11_say 12).trans rfl
theorem tX11_say_15 : tX11_say 15 = oK (.int (-1)) 16 := (congrFun teX11_say 15).trans rfl
theorem tX11_say_16 : tX11_say 16 = oIret := (congrFun teX11_say 16).trans rfl
theorem tX11_say_17 : tX11_say 17 = oAl 0 18 := (congrFun teX11_say 17).trans rfl
theorem tX11_say_18 : tX11_say 18 = oGet 11 2 21 := (congrFun teX11_say 18).trans rfl
theorem tX11_say_21 : tX11_say 21 = oAl 3 22 := (congrFun teX11_say 21).trans rfl
theorem tX11_say_22 : tX11_say 22 = oCallV 10 mX10_write 1 25 := (congrFun teX11_say 22).trans rfl
theorem tX11_say_25 : tX11_say 25 = oIl 2 26 := (congrFun teX11_say 25).trans rfl
theorem tX11_say_26 : tX11_say 26 = oK (.int (-1)) 27 := (congrFun teX11_say 26).trans rfl
theorem tX11_say_27 : tX11_say 27 = oIf2ne 38 30 := (congrFun teX11_say 27).trans rfl
theorem tX11_say_30 : tX11_say 30 = oAl 0 31 := (congrFun teX11_say 30).trans rfl
theorem tX11_say_31 : tX11_say 31 = oGet 11 2 34 := (congrFun teX11_say 31).trans rfl
theorem tX11_say_34 : tX11_say 34 = oCallV 10 mX10_length 0 37 := (congrFun teX11_say 34).trans rfl
theorem tX11_say_37 : tX11_say 37 = oIret := (congrFun teX11_say 37).trans rfl
theorem tX11_say_38 : tX11_say 38 = oIl 2 39 := (congrFun teX11_say 38).trans rfl
theorem tX11_say_39 : tX11_say 39 = oAl 0 40 := (congrFun teX11_say 39).trans rfl
theorem tX11_say_40 : tX11_say 40 = oGet 11 2 43 := (congrFun teX11_say 40).trans rfl
theorem tX11_say_43 : tX11_say 43 = oCallV 10 mX10_length 0 46 := (congrFun teX11_say 43).trans rfl
theorem tX11_say_46 : tX11_say 46 = oIf2ge 60 49 := (congrFun teX11_say 46).trans rfl
theorem tX11_say_49 : tX11_say 49 = oAl 0 50 := (congrFun teX11_say 49).trans rfl
theorem tX11_say_50 : tX11_say 50 = oGet 11 2 53 := (congrFun teX11_say 50).trans rfl
theorem tX11_say_53 : tX11_say 53 = oIl 2 54 := (congrFun teX11_say 53).trans rfl
theorem tX11_say_54 : tX11_say 54 = oCallV 10 mX10_signAt 1 57 := (congrFun teX11_say 54).trans rfl
theorem tX11_say_57 : tX11_say 57 = oGo 61 := (congrFun teX11_say 57).trans rfl
theorem tX11_say_60 : tX11_say 60 = oK (.int (-1)) 61 := (congrFun teX11_say 60).trans rfl
theorem tX11_say_61 : tX11_say 61 = oIret := (congrFun teX11_say 61).trans rfl
def lX11_drop : List (Nat × qP) := [(0, oAl 0 1), (1, oIl 1 2), (2, oCallV 11 mX11_patternAt 1 5), (5, oAs 2 6), (6, oAl 2 7), (7, oIfnn 12 10), (10, oK (.int (-1)) 11), (11, oIret), (12, oAl 2 13), (13, oCallV 4 mX4_clear 0 16), (16, oK (.int (nI 1)) 17), (17, oIret)]
def uX11_drop : Nat → qP := q_tb lX11_drop
set_option maxRecDepth 20000 in
theorem suX11_drop : q_Snd mX11_drop uX11_drop := by
  refine q_tb_ok ?_
  unfold lX11_drop
  refine q_fa (ok_aload_n (by decide +kernel : decode cX11_drop 0 = .ok (.aload_n 0, 1)) rfl rfl) ?_
  refine q_fa (ok_iload_n (by decide +kernel : decode cX11_drop 1 = .ok (.iload_n 1, 1)) rfl rfl) ?_
  refine q_fa (ok_callV (by decide +kernel : decode cX11_drop 2 = .ok (.invokevirtual 92, 3)) rfl kX11_patternAt.1 kX11_patternAt.2.1 kX11_patternAt.2.2.1 kX11_patternAt.2.2.2.1 kX11_patternAt.2.2.2.2 (rfl : vwCl[11]? = some (RX11, TX11, 11)) g345 gs11 g343) ?_
  refine q_fa (ok_astore_n (by decide +kernel : decode cX11_drop 5 = .ok (.astore_n 2, 1)) rfl rfl (by decide)) ?_
  refine q_fa (ok_aload_n (by decide +kernel : decode cX11_drop 6 = .ok (.aload_n 2, 1)) rfl rfl) ?_
  refine q_fa (ok_ifnonnull (by decide +kernel : decode cX11_drop 7 = .ok (.ifnonnull 5, 3)) (by decide) rfl) ?_
  refine q_fa (ok_iconst (by decide +kernel : decode cX11_drop 10 = .ok (.iconst (-1), 1)) rfl (by decide +kernel)) ?_
  refine q_fa (ok_iret (by decide +kernel : decode cX11_drop 11 = .ok (.ireturn, 1)) rfl) ?_
  refine q_fa (ok_aload_n (by decide +kernel : decode cX11_drop 12 = .ok (.aload_n 2, 1)) rfl rfl) ?_
  refine q_fa (ok_callV (by decide +kernel : decode cX11_drop 13 = .ok (.invokevirtual 106, 3)) rfl kX4_clear.1 kX4_clear.2.1 kX4_clear.2.2.1 kX4_clear.2.2.2.1 kX4_clear.2.2.2.2 (rfl : vwCl[4]? = some (RX4, TX4, 4)) g237 g238 g382) ?_
  refine q_fa (ok_iconst (by decide +kernel : decode cX11_drop 16 = .ok (.iconst 1, 1)) rfl (by decide +kernel)) ?_
  refine q_fa (ok_iret (by decide +kernel : decode cX11_drop 17 = .ok (.ireturn, 1)) rfl) ?_
  exact q_fa0
theorem exX11_drop : ∃ t : Nat → qP, t = uX11_drop := ⟨_, rfl⟩
noncomputable def tX11_drop : Nat → qP := Classical.choose exX11_drop
theorem teX11_drop : tX11_drop = uX11_drop := Classical.choose_spec exX11_drop
theorem sX11_drop : q_Snd mX11_drop tX11_drop := by rw [teX11_drop]; exact suX11_drop
theorem tX11_drop_0 : tX11_drop 0 = oAl 0 1 := (congrFun teX11_drop 0).trans rfl
theorem tX11_drop_1 : tX11_drop 1 = oIl 1 2 := (congrFun teX11_drop 1).trans rfl
theorem tX11_drop_2 : tX11_drop 2 = oCallV 11 mX11_patternAt 1 5 := (congrFun teX11_drop 2).trans rfl
theorem tX11_drop_5 : tX11_drop 5 = oAs 2 6 := (congrFun teX11_drop 5).trans rfl
theorem tX11_drop_6 : tX11_drop 6 = oAl 2 7 := (congrFun teX11_drop 6).trans rfl
theorem tX11_drop_7 : tX11_drop 7 = oIfnn 12 10 := (congrFun teX11_drop 7).trans rfl
theorem tX11_drop_10 : tX11_drop 10 = oK (.int (-1)) 11 := (congrFun teX11_drop 10).trans rfl
theorem tX11_drop_11 : tX11_drop 11 = oIret := (congrFun teX11_drop 11).trans rfl
theorem tX11_drop_12 : tX11_drop 12 = oAl 2 13 := (congrFun teX11_drop 12).trans rfl
theorem tX11_drop_13 : tX11_drop 13 = oCallV 4 mX4_clear 0 16 := (congrFun teX11_drop 13).trans rfl
theorem tX11_drop_16 : tX11_drop 16 = oK (.int (nI 1)) 17 := (congrFun teX11_drop 16).trans rfl
theorem tX11_drop_17 : tX11_drop 17 = oIret := (congrFun teX11_drop 17).trans rfl
def lX11_about : List (Nat × qP) := [(0, oAl 0 1), (1, oIl 1 2), (2, oCallV 11 mX11_patternAt 1 5), (5, oAs 3 6), (6, oAl 3 7), (7, oIfn 19 10), (10, oIl 2 11), (11, oIf1lt 19 14), (14, oIl 2 15), (15, oK (.int (nI 3)) 16), (16, oIf2le 21 19), (19, oK (.int (-1)) 20), (20, oIret), (21, oIl 2 22), (22, oK (.int (nI 1)) 23), (23, oIf2ne 31 26), (26, oAl 3 27), (27, oCallV 4 mX4_size 0 30), (30, oIret), (31, oAl 3 32), (32, oCallV 4 mX4_cost 0 35), (35, oIs 4 37), (37, oIl 2 38), (38, oIf1ne 44 41), (41, oIl 4 43), (43, oIret), (44, oIl 4 46), (46, oK (.int (nI 10)) 48), (48, oIf2le 54 51), (51, oK (.int (-2)) 53), (53, oIret), (54, oAl 0 55), (55, oCallVA 11 mX11_theCatalogue 0 58), (58, oAs 5 60), (60, oIl 2 61), (61, oK (.int (nI 2)) 62), (62, oIf2ne 75 65), (65, oAl 5 67), (67, oIl 4 69), (69, oCallV 1 mX1_size 1 72), (72, oGo 89), (75, oAl 5 77), (77, oAl 3 78), (78, oCallV 1 mX1_numberOf 1 81), (81, oAl 5 83), (83, oIl 4 85), (85, oCallV 1 mX1_begin 1 88), (88, oSub 89), (89, oIret)]
def uX11_about : Nat → qP := q_tb lX11_about
set_option maxRecDepth 20000 in
theorem suX11_about : q_Snd mX11_about uX11_about := by
  refine q_tb_ok ?_
  unfold lX11_about
  refine q_fa (ok_aload_n (by decide +kernel : decode cX11_about 0 = .ok (.aload_n 0, 1)) rfl rfl) ?_
  refine q_fa (ok_iload_n (by decide +kernel : decode cX11_about 1 = .ok (.iload_n 1, 1)) rfl rfl) ?_
  refine q_fa (ok_callV (by decide +kernel : decode cX11_about 2 = .ok (.invokevirtual 92, 3)) rfl kX11_patternAt.1 kX11_patternAt.2.1 kX11_patternAt.2.2.1 kX11_patternAt.2.2.2.1 kX11_patternAt.2.2.2.2 (rfl : vwCl[11]? = some (RX11, TX11, 11)) g345 gs11 g343) ?_
  refine q_fa (ok_astore_n (by decide +kernel : decode cX11_about 5 = .ok (.astore_n 3, 1)) rfl rfl (by decide)) ?_
  refine q_fa (ok_aload_n (by decide +kernel : decode cX11_about 6 = .ok (.aload_n 3, 1)) rfl rfl) ?_
  refine q_fa (ok_ifnull (by decide +kernel : decode cX11_about 7 = .ok (.ifnull 12, 3)) (by decide) rfl) ?_
  refine q_fa (ok_iload_n (by decide +kernel : decode cX11_about 10 = .ok (.iload_n 2, 1)) rfl rfl) ?_
  refine q_fa (ok_if1lt (by decide +kernel : decode cX11_about 11 = .ok (.ifCond .lt 8, 3)) (by decide) rfl) ?_
  refine q_fa (ok_iload_n (by decide +kernel : decode cX11_about 14 = .ok (.iload_n 2, 1)) rfl rfl) ?_
  refine q_fa (ok_iconst (by decide +kernel : decode cX11_about 15 = .ok (.iconst 3, 1)) rfl (by decide +kernel)) ?_
  refine q_fa (ok_if2le (by decide +kernel : decode cX11_about 16 = .ok (.if_icmp .le 5, 3)) (by decide) rfl) ?_
  refine q_fa (ok_iconst (by decide +kernel : decode cX11_about 19 = .ok (.iconst (-1), 1)) rfl (by decide +kernel)) ?_
  refine q_fa (ok_iret (by decide +kernel : decode cX11_about 20 = .ok (.ireturn, 1)) rfl) ?_
  refine q_fa (ok_iload_n (by decide +kernel : decode cX11_about 21 = .ok (.iload_n 2, 1)) rfl rfl) ?_
  refine q_fa (ok_iconst (by decide +kernel : decode cX11_about 22 = .ok (.iconst 1, 1)) rfl (by decide +kernel)) ?_
  refine q_fa (ok_if2ne (by decide +kernel : decode cX11_about 23 = .ok (.if_icmp .ne 8, 3)) (by decide) rfl) ?_
  refine q_fa (ok_aload_n (by decide +kernel : decode cX11_about 26 = .ok (.aload_n 3, 1)) rfl rfl) ?_
  refine q_fa (ok_callV (by decide +kernel : decode cX11_about 27 = .ok (.invokevirtual 82, 3)) rfl kX4_size.1 kX4_size.2.1 kX4_size.2.2.1 kX4_size.2.2.2.1 kX4_size.2.2.2.2 (rfl : vwCl[4]? = some (RX4, TX4, 4)) g307 g308 g306) ?_
  refine q_fa (ok_iret (by decide +kernel : decode cX11_about 30 = .ok (.ireturn, 1)) rfl) ?_
  refine q_fa (ok_aload_n (by decide +kernel : decode cX11_about 31 = .ok (.aload_n 3, 1)) rfl rfl) ?_
  refine q_fa (ok_callV (by decide +kernel : decode cX11_about 32 = .ok (.invokevirtual 89, 3)) rfl kX4_cost.1 kX4_cost.2.1 kX4_cost.2.2.1 kX4_cost.2.2.2.1 kX4_cost.2.2.2.2 (rfl : vwCl[4]? = some (RX4, TX4, 4)) g331 g332 g330) ?_
  refine q_fa (ok_istore (by decide +kernel : decode cX11_about 35 = .ok (.istore 4, 2)) rfl (by decide)) ?_
  refine q_fa (ok_iload_n (by decide +kernel : decode cX11_about 37 = .ok (.iload_n 2, 1)) rfl rfl) ?_
  refine q_fa (ok_if1ne (by decide +kernel : decode cX11_about 38 = .ok (.ifCond .ne 6, 3)) (by decide) rfl) ?_
  refine q_fa (ok_iload (by decide +kernel : decode cX11_about 41 = .ok (.iload 4, 2)) rfl) ?_
  refine q_fa (ok_iret (by decide +kernel : decode cX11_about 43 = .ok (.ireturn, 1)) rfl) ?_
  refine q_fa (ok_iload (by decide +kernel : decode cX11_about 44 = .ok (.iload 4, 2)) rfl) ?_
  refine q_fa (ok_bipush (by decide +kernel : decode cX11_about 46 = .ok (.bipush 10, 2)) rfl (by decide +kernel)) ?_
  refine q_fa (ok_if2le (by decide +kernel : decode cX11_about 48 = .ok (.if_icmp .le 6, 3)) (by decide) rfl) ?_
  refine q_fa (ok_bipush (by decide +kernel : decode cX11_about 51 = .ok (.bipush (-2), 2)) rfl (by decide +kernel)) ?_
  refine q_fa (ok_iret (by decide +kernel : decode cX11_about 53 = .ok (.ireturn, 1)) rfl) ?_
  refine q_fa (ok_aload_n (by decide +kernel : decode cX11_about 54 = .ok (.aload_n 0, 1)) rfl rfl) ?_
  refine q_fa (ok_callVA (by decide +kernel : decode cX11_about 55 = .ok (.invokevirtual 109, 3)) rfl kX11_theCatalogue.1 kX11_theCatalogue.2.1 kX11_theCatalogue.2.2.1 kX11_theCatalogue.2.2.2.1 kX11_theCatalogue.2.2.2.2 (rfl : vwCl[11]? = some (RX11, TX11, 11)) g389 gs14 g387) ?_
  refine q_fa (ok_astore (by decide +kernel : decode cX11_about 58 = .ok (.astore 5, 2)) rfl (by decide)) ?_
  refine q_fa (ok_iload_n (by decide +kernel : decode cX11_about 60 = .ok (.iload_n 2, 1)) rfl rfl) ?_
  refine q_fa (ok_iconst (by decide +kernel : decode cX11_about 61 = .ok (.iconst 2, 1)) rfl (by decide +kernel)) ?_
  refine q_fa (ok_if2ne (by decide +kernel : decode cX11_about 62 = .ok (.if_icmp .ne 13, 3)) (by decide) rfl) ?_
  refine q_fa (ok_aload (by decide +kernel : decode cX11_about 65 = .ok (.aload 5, 2)) rfl) ?_
  refine q_fa (ok_iload (by decide +kernel : decode cX11_about 67 = .ok (.iload 4, 2)) rfl) ?_
  refine q_fa (ok_callV (by decide +kernel : decode cX11_about 69 = .ok (.invokevirtual 113, 3)) rfl kX1_size.1 kX1_size.2.1 kX1_size.2.2.1 kX1_size.2.2.2.1 kX1_size.2.2.2.2 (rfl : vwCl[1]? = some (RX1, TX1, 5)) g448 g449 g447) ?_
  refine q_fa (ok_goto (by decide +kernel : decode cX11_about 72 = .ok (.goto 17, 3)) (by decide)) ?_
  refine q_fa (ok_aload (by decide +kernel : decode cX11_about 75 = .ok (.aload 5, 2)) rfl) ?_
  refine q_fa (ok_aload_n (by decide +kernel : decode cX11_about 77 = .ok (.aload_n 3, 1)) rfl rfl) ?_
  refine q_fa (ok_callV (by decide +kernel : decode cX11_about 78 = .ok (.invokevirtual 117, 3)) rfl kX1_numberOf.1 kX1_numberOf.2.1 kX1_numberOf.2.2.1 kX1_numberOf.2.2.2.1 kX1_numberOf.2.2.2.2 (rfl : vwCl[1]? = some (RX1, TX1, 5)) g452 g453 g451) ?_
  refine q_fa (ok_aload (by decide +kernel : decode cX11_about 81 = .ok (.aload 5, 2)) rfl) ?_
  refine q_fa (ok_iload (by decide +kernel : decode cX11_about 83 = .ok (.iload 4, 2)) rfl) ?_
  refine q_fa (ok_callV (by decide +kernel : decode cX11_about 85 = .ok (.invokevirtual 121, 3)) rfl kX1_begin.1 kX1_begin.2.1 kX1_begin.2.2.1 kX1_begin.2.2.2.1 kX1_begin.2.2.2.2 (rfl : vwCl[1]? = some (RX1, TX1, 5)) g415 g416 g470) ?_
  refine q_fa (ok_isub (by decide +kernel : decode cX11_about 88 = .ok (.isub, 1)) rfl) ?_
  refine q_fa (ok_iret (by decide +kernel : decode cX11_about 89 = .ok (.ireturn, 1)) rfl) ?_
  exact q_fa0
theorem exX11_about : ∃ t : Nat → qP, t = uX11_about := ⟨_, rfl⟩
noncomputable def tX11_about : Nat → qP := Classical.choose exX11_about
theorem teX11_about : tX11_about = uX11_about := Classical.choose_spec exX11_about
theorem sX11_about : q_Snd mX11_about tX11_about := by rw [teX11_about]; exact suX11_about
theorem tX11_about_0 : tX11_about 0 = oAl 0 1 := (congrFun teX11_about 0).trans rfl
theorem tX11_about_1 : tX11_about 1 = oIl 1 2 := (congrFun teX11_about 1).trans rfl
theorem tX11_about_2 : tX11_about 2 = oCallV 11 mX11_patternAt 1 5 := (congrFun teX11_about 2).trans rfl
theorem tX11_about_5 : tX11_about 5 = oAs 3 6 := (congrFun teX11_about 5).trans rfl
theorem tX11_about_6 : tX11_about 6 = oAl 3 7 := (congrFun teX11_about 6).trans rfl
theorem tX11_about_7 : tX11_about 7 = oIfn 19 10 := (congrFun teX11_about 7).trans rfl
theorem tX11_about_10 : tX11_about 10 = oIl 2 11 := (congrFun teX11_about 10).trans rfl
theorem tX11_about_11 : tX11_about 11 = oIf1lt 19 14 := (congrFun teX11_about 11).trans rfl
theorem tX11_about_14 : tX11_about 14 = oIl 2 15 := (congrFun teX11_about 14).trans rfl
theorem tX11_about_15 : tX11_about 15 = oK (.int (nI 3)) 16 := (congrFun teX11_about 15).trans rfl
theorem tX11_about_16 : tX11_about 16 = oIf2le 21 19 := (congrFun teX11_about 16).trans rfl
theorem tX11_about_19 : tX11_about 19 = oK (.int (-1)) 20 := (congrFun teX11_about 19).trans rfl
theorem tX11_about_20 : tX11_about 20 = oIret := (congrFun teX11_about 20).trans rfl
theorem tX11_about_21 : tX11_about 21 = oIl 2 22 := (congrFun teX11_about 21).trans rfl
theorem tX11_about_22 : tX11_about 22 = oK (.int (nI 1)) 23 := (congrFun teX11_about 22).trans rfl
theorem tX11_about_23 : tX11_about 23 = oIf2ne 31 26 := (congrFun teX11_about 23).trans rfl
theorem tX11_about_26 : tX11_about 26 = oAl 3 27 := (congrFun teX11_about 26).trans rfl
theorem tX11_about_27 : tX11_about 27 = oCallV 4 mX4_size 0 30 := (congrFun teX11_about 27).trans rfl
theorem tX11_about_30 : tX11_about 30 = oIret := (congrFun teX11_about 30).trans rfl
theorem tX11_about_31 : tX11_about 31 = oAl 3 32 := (congrFun teX11_about 31).trans rfl
theorem tX11_about_32 : tX11_about 32 = oCallV 4 mX4_cost 0 35 := (congrFun teX11_about 32).trans rfl
theorem tX11_about_35 : tX11_about 35 = oIs 4 37 := (congrFun teX11_about 35).trans rfl
theorem tX11_about_37 : tX11_about 37 = oIl 2 38 := (congrFun teX11_about 37).trans rfl
theorem tX11_about_38 : tX11_about 38 = oIf1ne 44 41 := (congrFun teX11_about 38).trans rfl
theorem tX11_about_41 : tX11_about 41 = oIl 4 43 := (congrFun teX11_about 41).trans rfl
theorem tX11_about_43 : tX11_about 43 = oIret := (congrFun teX11_about 43).trans rfl
theorem tX11_about_44 : tX11_about 44 = oIl 4 46 := (congrFun teX11_about 44).trans rfl
theorem tX11_about_46 : tX11_about 46 = oK (.int (nI 10)) 48 := (congrFun teX11_about 46).trans rfl
theorem tX11_about_48 : tX11_about 48 = oIf2le 54 51 := (congrFun teX11_about 48).trans rfl
theorem tX11_about_51 : tX11_about 51 = oK (.int (-2)) 53 := (congrFun teX11_about 51).trans rfl
theorem tX11_about_53 : tX11_about 53 = oIret := (congrFun teX11_about 53).trans rfl
theorem tX11_about_54 : tX11_about 54 = oAl 0 55 := (congrFun teX11_about 54).trans rfl
theorem tX11_about_55 : tX11_about 55 = oCallVA 11 mX11_theCatalogue 0 58 := (congrFun teX11_about 55).trans rfl
theorem tX11_about_58 : tX11_about 58 = oAs 5 60 := (congrFun teX11_about 58).trans rfl
theorem tX11_about_60 : tX11_about 60 = oIl 2 61 := (congrFun teX11_about 60).trans rfl
theorem tX11_about_61 : tX11_about 61 = oK (.int (nI 2)) 62 := (congrFun teX11_about 61).trans rfl
theorem tX11_about_62 : tX11_about 62 = oIf2ne 75 65 := (congrFun teX11_about 62).trans rfl
theorem tX11_about_65 : tX11_about 65 = oAl 5 67 := (congrFun teX11_about 65).trans rfl
theorem tX11_about_67 : tX11_about 67 = oIl 4 69 := (congrFun teX11_about 67).trans rfl
theorem tX11_about_69 : tX11_about 69 = oCallV 1 mX1_size 1 72 := (congrFun teX11_about 69).trans rfl
theorem tX11_about_72 : tX11_about 72 = oGo 89 := (congrFun teX11_about 72).trans rfl
theorem tX11_about_75 : tX11_about 75 = oAl 5 77 := (congrFun teX11_about 75).trans rfl
theorem tX11_about_77 : tX11_about 77 = oAl 3 78 := (congrFun teX11_about 77).trans rfl
theorem tX11_about_78 : tX11_about 78 = oCallV 1 mX1_numberOf 1 81 := (congrFun teX11_about 78).trans rfl
theorem tX11_about_81 : tX11_about 81 = oAl 5 83 := (congrFun teX11_about 81).trans rfl
theorem tX11_about_83 : tX11_about 83 = oIl 4 85 := (congrFun teX11_about 83).trans rfl
theorem tX11_about_85 : tX11_about 85 = oCallV 1 mX1_begin 1 88 := (congrFun teX11_about 85).trans rfl
theorem tX11_about_88 : tX11_about 88 = oSub 89 := (congrFun teX11_about 88).trans rfl
theorem tX11_about_89 : tX11_about 89 = oIret := (congrFun teX11_about 89).trans rfl
def lX11_nth : List (Nat × qP) := [(0, oAl 0 1), (1, oIl 1 2), (2, oCallV 11 mX11_placeAt 1 5), (5, oAs 4 7), (7, oAl 4 9), (9, oIfn 23 12), (12, oIl 2 13), (13, oCallS mX11_isCost 1 16), (16, oIf1eq 23 19), (19, oIl 3 20), (20, oIf1ge 25 23), (23, oK (.int (-1)) 24), (24, oIret), (25, oAl 0 26), (26, oCallVA 11 mX11_theCatalogue 0 29), (29, oAs 5 31), (31, oIl 3 32), (32, oAl 5 34), (34, oIl 2 35), (35, oCallV 1 mX1_size 1 38), (38, oIf2lt 43 41), (41, oK (.int (-1)) 42), (42, oIret), (43, oAl 4 45), (45, oAl 5 47), (47, oCallV 1 mX1_nodes 0 50), (50, oAl 5 52), (52, oIl 2 53), (53, oCallV 1 mX1_begin 1 56), (56, oIl 3 57), (57, oAdd 58), (58, oCallV 4 mX4_become 2 61), (61, oAl 4 63), (63, oCallV 4 mX4_size 0 66), (66, oIret)]
def uX11_nth : Nat → qP := q_tb lX11_nth
set_option maxRecDepth 20000 in
theorem suX11_nth : q_Snd mX11_nth uX11_nth := by
  refine q_tb_ok ?_
  unfold lX11_nth
  refine q_fa (ok_aload_n (by decide +kernel : decode cX11_nth 0 = .ok (.aload_n 0, 1)) rfl rfl) ?_
  refine q_fa (ok_iload_n (by decide +kernel : decode cX11_nth 1 = .ok (.iload_n 1, 1)) rfl rfl) ?_
  refine q_fa (ok_callV (by decide +kernel : decode cX11_nth 2 = .ok (.invokevirtual 67, 3)) rfl kX11_placeAt.1 kX11_placeAt.2.1 kX11_placeAt.2.2.1 kX11_placeAt.2.2.2.1 kX11_placeAt.2.2.2.2 (rfl : vwCl[11]? = some (RX11, TX11, 11)) g230 gs1 g228) ?_
  refine q_fa (ok_astore (by decide +kernel : decode cX11_nth 5 = .ok (.astore 4, 2)) rfl (by decide)) ?_
  refine q_fa (ok_aload (by decide +kernel : decode cX11_nth 7 = .ok (.aload 4, 2)) rfl) ?_
  refine q_fa (ok_ifnull (by decide +kernel : decode cX11_nth 9 = .ok (.ifnull 14, 3)) (by decide) rfl) ?_
  refine q_fa (ok_iload_n (by decide +kernel : decode cX11_nth 12 = .ok (.iload_n 2, 1)) rfl rfl) ?_
  refine q_fa (ok_callS (by decide +kernel : decode cX11_nth 13 = .ok (.invokestatic 124, 3)) rfl kX11_isCost.1 kX11_isCost.2.1 kX11_isCost.2.2.1 kX11_isCost.2.2.2.1 kX11_isCost.2.2.2.2 g476 g475) ?_
  refine q_fa (ok_if1eq (by decide +kernel : decode cX11_nth 16 = .ok (.ifCond .eq 7, 3)) (by decide) rfl) ?_
  refine q_fa (ok_iload_n (by decide +kernel : decode cX11_nth 19 = .ok (.iload_n 3, 1)) rfl rfl) ?_
  refine q_fa (ok_if1ge (by decide +kernel : decode cX11_nth 20 = .ok (.ifCond .ge 5, 3)) (by decide) rfl) ?_
  refine q_fa (ok_iconst (by decide +kernel : decode cX11_nth 23 = .ok (.iconst (-1), 1)) rfl (by decide +kernel)) ?_
  refine q_fa (ok_iret (by decide +kernel : decode cX11_nth 24 = .ok (.ireturn, 1)) rfl) ?_
  refine q_fa (ok_aload_n (by decide +kernel : decode cX11_nth 25 = .ok (.aload_n 0, 1)) rfl rfl) ?_
  refine q_fa (ok_callVA (by decide +kernel : decode cX11_nth 26 = .ok (.invokevirtual 109, 3)) rfl kX11_theCatalogue.1 kX11_theCatalogue.2.1 kX11_theCatalogue.2.2.1 kX11_theCatalogue.2.2.2.1 kX11_theCatalogue.2.2.2.2 (rfl : vwCl[11]? = some (RX11, TX11, 11)) g389 gs14 g387) ?_
  refine q_fa (ok_astore (by decide +kernel : decode cX11_nth 29 = .ok (.astore 5, 2)) rfl (by decide)) ?_
  refine q_fa (ok_iload_n (by decide +kernel : decode cX11_nth 31 = .ok (.iload_n 3, 1)) rfl rfl) ?_
  refine q_fa (ok_aload (by decide +kernel : decode cX11_nth 32 = .ok (.aload 5, 2)) rfl) ?_
  refine q_fa (ok_iload_n (by decide +kernel : decode cX11_nth 34 = .ok (.iload_n 2, 1)) rfl rfl) ?_
  refine q_fa (ok_callV (by decide +kernel : decode cX11_nth 35 = .ok (.invokevirtual 113, 3)) rfl kX1_size.1 kX1_size.2.1 kX1_size.2.2.1 kX1_size.2.2.2.1 kX1_size.2.2.2.2 (rfl : vwCl[1]? = some (RX1, TX1, 5)) g448 g449 g447) ?_
  refine q_fa (ok_if2lt (by decide +kernel : decode cX11_nth 38 = .ok (.if_icmp .lt 5, 3)) (by decide) rfl) ?_
  refine q_fa (ok_iconst (by decide +kernel : decode cX11_nth 41 = .ok (.iconst (-1), 1)) rfl (by decide +kernel)) ?_
  refine q_fa (ok_iret (by decide +kernel : decode cX11_nth 42 = .ok (.ireturn, 1)) rfl) ?_
  refine q_fa (ok_aload (by decide +kernel : decode cX11_nth 43 = .ok (.aload 4, 2)) rfl) ?_
  refine q_fa (ok_aload (by decide +kernel : decode cX11_nth 45 = .ok (.aload 5, 2)) rfl) ?_
  refine q_fa (ok_callV (by decide +kernel : decode cX11_nth 47 = .ok (.invokevirtual 128, 3)) rfl kX1_nodes.1 kX1_nodes.2.1 kX1_nodes.2.2.1 kX1_nodes.2.2.2.1 kX1_nodes.2.2.2.2 (rfl : vwCl[1]? = some (RX1, TX1, 5)) g479 g480 g478) ?_
  refine q_fa (ok_aload (by decide +kernel : decode cX11_nth 50 = .ok (.aload 5, 2)) rfl) ?_
  refine q_fa (ok_iload_n (by decide +kernel : decode cX11_nth 52 = .ok (.iload_n 2, 1)) rfl rfl) ?_
  refine q_fa (ok_callV (by decide +kernel : decode cX11_nth 53 = .ok (.invokevirtual 121, 3)) rfl kX1_begin.1 kX1_begin.2.1 kX1_begin.2.2.1 kX1_begin.2.2.2.1 kX1_begin.2.2.2.2 (rfl : vwCl[1]? = some (RX1, TX1, 5)) g415 g416 g470) ?_
  refine q_fa (ok_iload_n (by decide +kernel : decode cX11_nth 56 = .ok (.iload_n 3, 1)) rfl rfl) ?_
  refine q_fa (ok_iadd (by decide +kernel : decode cX11_nth 57 = .ok (.iadd, 1)) rfl) ?_
  refine q_fa (ok_callV (by decide +kernel : decode cX11_nth 58 = .ok (.invokevirtual 85, 3)) rfl kX4_become.1 kX4_become.2.1 kX4_become.2.2.1 kX4_become.2.2.2.1 kX4_become.2.2.2.2 (rfl : vwCl[4]? = some (RX4, TX4, 4)) g311 g312 g310) ?_
  refine q_fa (ok_aload (by decide +kernel : decode cX11_nth 61 = .ok (.aload 4, 2)) rfl) ?_
  refine q_fa (ok_callV (by decide +kernel : decode cX11_nth 63 = .ok (.invokevirtual 82, 3)) rfl kX4_size.1 kX4_size.2.1 kX4_size.2.2.1 kX4_size.2.2.2.1 kX4_size.2.2.2.2 (rfl : vwCl[4]? = some (RX4, TX4, 4)) g307 g308 g306) ?_
  refine q_fa (ok_iret (by decide +kernel : decode cX11_nth 66 = .ok (.ireturn, 1)) rfl) ?_
  exact q_fa0
theorem exX11_nth : ∃ t : Nat → qP, t = uX11_nth := ⟨_, rfl⟩
noncomputable def tX11_nth : Nat → qP := Classical.choose exX11_nth
theorem teX11_nth : tX11_nth = uX11_nth := Classical.choose_spec exX11_nth
theorem sX11_nth : q_Snd mX11_nth tX11_nth := by rw [teX11_nth]; exact suX11_nth
theorem tX11_nth_0 : tX11_nth 0 = oAl 0 1 := (congrFun teX11_nth 0).trans rfl
theorem tX11_nth_1 : tX11_nth 1 = oIl 1 2 := (congrFun teX11_nth 1).trans rfl
theorem tX11_nth_2 : tX11_nth 2 = oCallV 11 mX11_placeAt 1 5 := (congrFun teX11_nth 2).trans rfl
theorem tX11_nth_5 : tX11_nth 5 = oAs 4 7 := (congrFun teX11_nth 5).trans rfl
theorem tX11_nth_7 : tX11_nth 7 = oAl 4 9 := (congrFun teX11_nth 7).trans rfl
theorem tX11_nth_9 : tX11_nth 9 = oIfn 23 12 := (congrFun teX11_nth 9).trans rfl
theorem tX11_nth_12 : tX11_nth 12 = oIl 2 13 := (congrFun teX11_nth 12).trans rfl
theorem tX11_nth_13 : tX11_nth 13 = oCallS mX11_isCost 1 16 := (congrFun teX11_nth 13).trans rfl
theorem tX11_nth_16 : tX11_nth 16 = oIf1eq 23 19 := (congrFun teX11_nth 16).trans rfl
theorem tX11_nth_19 : tX11_nth 19 = oIl 3 20 := (congrFun teX11_nth 19).trans rfl
theorem tX11_nth_20 : tX11_nth 20 = oIf1ge 25 23 := (congrFun teX11_nth 20).trans rfl
theorem tX11_nth_23 : tX11_nth 23 = oK (.int (-1)) 24 := (congrFun teX11_nth 23).trans rfl
theorem tX11_nth_24 : tX11_nth 24 = oIret := (congrFun teX11_nth 24).trans rfl
theorem tX11_nth_25 : tX11_nth 25 = oAl 0 26 := (congrFun teX11_nth 25).trans rfl
theorem tX11_nth_26 : tX11_nth 26 = oCallVA 11 mX11_theCatalogue 0 29 := (congrFun teX11_nth 26).trans rfl
theorem tX11_nth_29 : tX11_nth 29 = oAs 5 31 := (congrFun teX11_nth 29).trans rfl
theorem tX11_nth_31 : tX11_nth 31 = oIl 3 32 := (congrFun teX11_nth 31).trans rfl
theorem tX11_nth_32 : tX11_nth 32 = oAl 5 34 := (congrFun teX11_nth 32).trans rfl
theorem tX11_nth_34 : tX11_nth 34 = oIl 2 35 := (congrFun teX11_nth 34).trans rfl
theorem tX11_nth_35 : tX11_nth 35 = oCallV 1 mX1_size 1 38 := (congrFun teX11_nth 35).trans rfl
theorem tX11_nth_38 : tX11_nth 38 = oIf2lt 43 41 := (congrFun teX11_nth 38).trans rfl
theorem tX11_nth_41 : tX11_nth 41 = oK (.int (-1)) 42 := (congrFun teX11_nth 41).trans rfl
theorem tX11_nth_42 : tX11_nth 42 = oIret := (congrFun teX11_nth 42).trans rfl
theorem tX11_nth_43 : tX11_nth 43 = oAl 4 45 := (congrFun teX11_nth 43).trans rfl
theorem tX11_nth_45 : tX11_nth 45 = oAl 5 47 := (congrFun teX11_nth 45).trans rfl
theorem tX11_nth_47 : tX11_nth 47 = oCallV 1 mX1_nodes 0 50 := (congrFun teX11_nth 47).trans rfl
theorem tX11_nth_50 : tX11_nth 50 = oAl 5 52 := (congrFun teX11_nth 50).trans rfl
theorem tX11_nth_52 : tX11_nth 52 = oIl 2 53 := (congrFun teX11_nth 52).trans rfl
theorem tX11_nth_53 : tX11_nth 53 = oCallV 1 mX1_begin 1 56 := (congrFun teX11_nth 53).trans rfl
theorem tX11_nth_56 : tX11_nth 56 = oIl 3 57 := (congrFun teX11_nth 56).trans rfl
theorem tX11_nth_57 : tX11_nth 57 = oAdd 58 := (congrFun teX11_nth 57).trans rfl
theorem tX11_nth_58 : tX11_nth 58 = oCallV 4 mX4_become 2 61 := (congrFun teX11_nth 58).trans rfl
theorem tX11_nth_61 : tX11_nth 61 = oAl 4 63 := (congrFun teX11_nth 61).trans rfl
theorem tX11_nth_63 : tX11_nth 63 = oCallV 4 mX4_size 0 66 := (congrFun teX11_nth 63).trans rfl
theorem tX11_nth_66 : tX11_nth 66 = oIret := (congrFun teX11_nth 66).trans rfl
def lX11_fits : List (Nat × qP) := [(0, oAl 0 1), (1, oIl 1 2), (2, oCallV 11 mX11_patternAt 1 5), (5, oAs 3 6), (6, oIl 2 7), (7, oCallS mX11_lengthOf 1 10), (10, oIs 4 12), (12, oAl 3 13), (13, oIfn 21 16), (16, oIl 4 18), (18, oIf1ge 23 21), (21, oK (.int (-1)) 22), (22, oIret), (23, oAl 0 24), (24, oGet 11 3 27), (27, oAl 3 28), (28, oCallV 0 mX0_build 1 31), (31, oAl 0 32), (32, oGet 11 3 35), (35, oIl 2 36), (36, oIl 4 38), (38, oK (.int (nI 0)) 39), (39, oCallV 0 mX0_longestFit 3 42), (42, oIl 4 44), (44, oIf2ne 51 47), (47, oK (.int (nI 1)) 48), (48, oGo 52), (51, oK (.int (nI 0)) 52), (52, oIret)]
def uX11_fits : Nat → qP := q_tb lX11_fits
set_option maxRecDepth 20000 in
theorem suX11_fits : q_Snd mX11_fits uX11_fits := by
  refine q_tb_ok ?_
  unfold lX11_fits
  refine q_fa (ok_aload_n (by decide +kernel : decode cX11_fits 0 = .ok (.aload_n 0, 1)) rfl rfl) ?_
  refine q_fa (ok_iload_n (by decide +kernel : decode cX11_fits 1 = .ok (.iload_n 1, 1)) rfl rfl) ?_
  refine q_fa (ok_callV (by decide +kernel : decode cX11_fits 2 = .ok (.invokevirtual 92, 3)) rfl kX11_patternAt.1 kX11_patternAt.2.1 kX11_patternAt.2.2.1 kX11_patternAt.2.2.2.1 kX11_patternAt.2.2.2.2 (rfl : vwCl[11]? = some (RX11, TX11, 11)) g345 gs11 g343) ?_
  refine q_fa (ok_astore_n (by decide +kernel : decode cX11_fits 5 = .ok (.astore_n 3, 1)) rfl rfl (by decide)) ?_
  refine q_fa (ok_iload_n (by decide +kernel : decode cX11_fits 6 = .ok (.iload_n 2, 1)) rfl rfl) ?_
  refine q_fa (ok_callS (by decide +kernel : decode cX11_fits 7 = .ok (.invokestatic 129, 3)) rfl kX11_lengthOf.1 kX11_lengthOf.2.1 kX11_lengthOf.2.2.1 kX11_lengthOf.2.2.2.1 kX11_lengthOf.2.2.2.2 g487 g486) ?_
  refine q_fa (ok_istore (by decide +kernel : decode cX11_fits 10 = .ok (.istore 4, 2)) rfl (by decide)) ?_
  refine q_fa (ok_aload_n (by decide +kernel : decode cX11_fits 12 = .ok (.aload_n 3, 1)) rfl rfl) ?_
  refine q_fa (ok_ifnull (by decide +kernel : decode cX11_fits 13 = .ok (.ifnull 8, 3)) (by decide) rfl) ?_
  refine q_fa (ok_iload (by decide +kernel : decode cX11_fits 16 = .ok (.iload 4, 2)) rfl) ?_
  refine q_fa (ok_if1ge (by decide +kernel : decode cX11_fits 18 = .ok (.ifCond .ge 5, 3)) (by decide) rfl) ?_
  refine q_fa (ok_iconst (by decide +kernel : decode cX11_fits 21 = .ok (.iconst (-1), 1)) rfl (by decide +kernel)) ?_
  refine q_fa (ok_iret (by decide +kernel : decode cX11_fits 22 = .ok (.ireturn, 1)) rfl) ?_
  refine q_fa (ok_aload_n (by decide +kernel : decode cX11_fits 23 = .ok (.aload_n 0, 1)) rfl rfl) ?_
  refine q_fa (ok_get (by decide +kernel : decode cX11_fits 24 = .ok (.getfield 32, 3)) rfl (rfl : vwCl[11]? = some (RX11, TX11, 11)) inX11 (by decide) g181) ?_
  refine q_fa (ok_aload_n (by decide +kernel : decode cX11_fits 27 = .ok (.aload_n 3, 1)) rfl rfl) ?_
  refine q_fa (ok_callV (by decide +kernel : decode cX11_fits 28 = .ok (.invokevirtual 132, 3)) rfl kX0_build.1 kX0_build.2.1 kX0_build.2.2.1 kX0_build.2.2.2.1 kX0_build.2.2.2.2 (rfl : vwCl[0]? = some (RX0, TX0, 9)) g492 g493 g491) ?_
  refine q_fa (ok_aload_n (by decide +kernel : decode cX11_fits 31 = .ok (.aload_n 0, 1)) rfl rfl) ?_
  refine q_fa (ok_get (by decide +kernel : decode cX11_fits 32 = .ok (.getfield 32, 3)) rfl (rfl : vwCl[11]? = some (RX11, TX11, 11)) inX11 (by decide) g181) ?_
  refine q_fa (ok_iload_n (by decide +kernel : decode cX11_fits 35 = .ok (.iload_n 2, 1)) rfl rfl) ?_
  refine q_fa (ok_iload (by decide +kernel : decode cX11_fits 36 = .ok (.iload 4, 2)) rfl) ?_
  refine q_fa (ok_iconst (by decide +kernel : decode cX11_fits 38 = .ok (.iconst 0, 1)) rfl (by decide +kernel)) ?_
  refine q_fa (ok_callV (by decide +kernel : decode cX11_fits 39 = .ok (.invokevirtual 135, 3)) rfl kX0_longestFit.1 kX0_longestFit.2.1 kX0_longestFit.2.2.1 kX0_longestFit.2.2.2.1 kX0_longestFit.2.2.2.2 (rfl : vwCl[0]? = some (RX0, TX0, 9)) g522 g523 g521) ?_
  refine q_fa (ok_iload (by decide +kernel : decode cX11_fits 42 = .ok (.iload 4, 2)) rfl) ?_
  refine q_fa (ok_if2ne (by decide +kernel : decode cX11_fits 44 = .ok (.if_icmp .ne 7, 3)) (by decide) rfl) ?_
  refine q_fa (ok_iconst (by decide +kernel : decode cX11_fits 47 = .ok (.iconst 1, 1)) rfl (by decide +kernel)) ?_
  refine q_fa (ok_goto (by decide +kernel : decode cX11_fits 48 = .ok (.goto 4, 3)) (by decide)) ?_
  refine q_fa (ok_iconst (by decide +kernel : decode cX11_fits 51 = .ok (.iconst 0, 1)) rfl (by decide +kernel)) ?_
  refine q_fa (ok_iret (by decide +kernel : decode cX11_fits 52 = .ok (.ireturn, 1)) rfl) ?_
  exact q_fa0
theorem exX11_fits : ∃ t : Nat → qP, t = uX11_fits := ⟨_, rfl⟩
noncomputable def tX11_fits : Nat → qP := Classical.choose exX11_fits
theorem teX11_fits : tX11_fits = uX11_fits := Classical.choose_spec exX11_fits
theorem sX11_fits : q_Snd mX11_fits tX11_fits := by rw [teX11_fits]; exact suX11_fits
theorem tX11_fits_0 : tX11_fits 0 = oAl 0 1 := (congrFun teX11_fits 0).trans rfl
theorem tX11_fits_1 : tX11_fits 1 = oIl 1 2 := (congrFun teX11_fits 1).trans rfl
theorem tX11_fits_2 : tX11_fits 2 = oCallV 11 mX11_patternAt 1 5 := (congrFun teX11_fits 2).trans rfl
theorem tX11_fits_5 : tX11_fits 5 = oAs 3 6 := (congrFun teX11_fits 5).trans rfl
theorem tX11_fits_6 : tX11_fits 6 = oIl 2 7 := (congrFun teX11_fits 6).trans rfl
theorem tX11_fits_7 : tX11_fits 7 = oCallS mX11_lengthOf 1 10 := (congrFun teX11_fits 7).trans rfl
theorem tX11_fits_10 : tX11_fits 10 = oIs 4 12 := (congrFun teX11_fits 10).trans rfl
theorem tX11_fits_12 : tX11_fits 12 = oAl 3 13 := (congrFun teX11_fits 12).trans rfl
theorem tX11_fits_13 : tX11_fits 13 = oIfn 21 16 := (congrFun teX11_fits 13).trans rfl
theorem tX11_fits_16 : tX11_fits 16 = oIl 4 18 := (congrFun teX11_fits 16).trans rfl
theorem tX11_fits_18 : tX11_fits 18 = oIf1ge 23 21 := (congrFun teX11_fits 18).trans rfl
theorem tX11_fits_21 : tX11_fits 21 = oK (.int (-1)) 22 := (congrFun teX11_fits 21).trans rfl
theorem tX11_fits_22 : tX11_fits 22 = oIret := (congrFun teX11_fits 22).trans rfl
theorem tX11_fits_23 : tX11_fits 23 = oAl 0 24 := (congrFun teX11_fits 23).trans rfl
theorem tX11_fits_24 : tX11_fits 24 = oGet 11 3 27 := (congrFun teX11_fits 24).trans rfl
theorem tX11_fits_27 : tX11_fits 27 = oAl 3 28 := (congrFun teX11_fits 27).trans rfl
theorem tX11_fits_28 : tX11_fits 28 = oCallV 0 mX0_build 1 31 := (congrFun teX11_fits 28).trans rfl
theorem tX11_fits_31 : tX11_fits 31 = oAl 0 32 := (congrFun teX11_fits 31).trans rfl
theorem tX11_fits_32 : tX11_fits 32 = oGet 11 3 35 := (congrFun teX11_fits 32).trans rfl
theorem tX11_fits_35 : tX11_fits 35 = oIl 2 36 := (congrFun teX11_fits 35).trans rfl
theorem tX11_fits_36 : tX11_fits 36 = oIl 4 38 := (congrFun teX11_fits 36).trans rfl
theorem tX11_fits_38 : tX11_fits 38 = oK (.int (nI 0)) 39 := (congrFun teX11_fits 38).trans rfl
theorem tX11_fits_39 : tX11_fits 39 = oCallV 0 mX0_longestFit 3 42 := (congrFun teX11_fits 39).trans rfl
theorem tX11_fits_42 : tX11_fits 42 = oIl 4 44 := (congrFun teX11_fits 42).trans rfl
theorem tX11_fits_44 : tX11_fits 44 = oIf2ne 51 47 := (congrFun teX11_fits 44).trans rfl
theorem tX11_fits_47 : tX11_fits 47 = oK (.int (nI 1)) 48 := (congrFun teX11_fits 47).trans rfl
theorem tX11_fits_48 : tX11_fits 48 = oGo 52 := (congrFun teX11_fits 48).trans rfl
theorem tX11_fits_51 : tX11_fits 51 = oK (.int (nI 0)) 52 := (congrFun teX11_fits 51).trans rfl
theorem tX11_fits_52 : tX11_fits 52 = oIret := (congrFun teX11_fits 52).trans rfl
def lX11_out : List (Nat × qP) := [(0, oAl 0 1), (1, oIl 1 2), (2, oCallV 11 mX11_patternAt 1 5), (5, oAs 3 6), (6, oIl 2 7), (7, oCallS mX11_lengthOf 1 10), (10, oIs 4 12), (12, oAl 3 13), (13, oIfn 21 16), (16, oIl 4 18), (18, oIf1ge 23 21), (21, oK (.int (-1)) 22), (22, oIret), (23, oAl 0 24), (24, oGet 11 3 27), (27, oAl 3 28), (28, oCallV 0 mX0_build 1 31), (31, oK (.int (nI 0)) 32), (32, oIs 5 34), (34, oIl 5 36), (36, oIl 4 38), (38, oIf2ge 80 41), (41, oAl 0 42), (42, oGet 11 3 45), (45, oIl 2 46), (46, oIl 4 48), (48, oIl 5 50), (50, oCallV 0 mX0_longestFit 3 53), (53, oIs 6 55), (55, oIl 6 57), (57, oIl 5 59), (59, oIf2le 74 62), (62, oK (.int (nI 100)) 64), (64, oIl 5 66), (66, oMul 67), (67, oIl 6 69), (69, oAdd 70), (70, oIl 5 72), (72, oSub 73), (73, oIret), (74, oInc 5 (nI 1) 77), (77, oGo 34), (80, oK (.int (-2)) 82), (82, oIret)]
def uX11_out : Nat → qP := q_tb lX11_out
set_option maxRecDepth 20000 in
theorem suX11_out : q_Snd mX11_out uX11_out := by
  refine q_tb_ok ?_
  unfold lX11_out
  refine q_fa (ok_aload_n (by decide +kernel : decode cX11_out 0 = .ok (.aload_n 0, 1)) rfl rfl) ?_
  refine q_fa (ok_iload_n (by decide +kernel : decode cX11_out 1 = .ok (.iload_n 1, 1)) rfl rfl) ?_
  refine q_fa (ok_callV (by decide +kernel : decode cX11_out 2 = .ok (.invokevirtual 92, 3)) rfl kX11_patternAt.1 kX11_patternAt.2.1 kX11_patternAt.2.2.1 kX11_patternAt.2.2.2.1 kX11_patternAt.2.2.2.2 (rfl : vwCl[11]? = some (RX11, TX11, 11)) g345 gs11 g343) ?_
  refine q_fa (ok_astore_n (by decide +kernel : decode cX11_out 5 = .ok (.astore_n 3, 1)) rfl rfl (by decide)) ?_
  refine q_fa (ok_iload_n (by decide +kernel : decode cX11_out 6 = .ok (.iload_n 2, 1)) rfl rfl) ?_
  refine q_fa (ok_callS (by decide +kernel : decode cX11_out 7 = .ok (.invokestatic 129, 3)) rfl kX11_lengthOf.1 kX11_lengthOf.2.1 kX11_lengthOf.2.2.1 kX11_lengthOf.2.2.2.1 kX11_lengthOf.2.2.2.2 g487 g486) ?_
  refine q_fa (ok_istore (by decide +kernel : decode cX11_out 10 = .ok (.istore 4, 2)) rfl (by decide)) ?_
  refine q_fa (ok_aload_n (by decide +kernel : decode cX11_out 12 = .ok (.aload_n 3, 1)) rfl rfl) ?_
  refine q_fa (ok_ifnull (by decide +kernel : decode cX11_out 13 = .ok (.ifnull 8, 3)) (by decide) rfl) ?_
  refine q_fa (ok_iload (by decide +kernel : decode cX11_out 16 = .ok (.iload 4, 2)) rfl) ?_
  refine q_fa (ok_if1ge (by decide +kernel : decode cX11_out 18 = .ok (.ifCond .ge 5, 3)) (by decide) rfl) ?_
  refine q_fa (ok_iconst (by decide +kernel : decode cX11_out 21 = .ok (.iconst (-1), 1)) rfl (by decide +kernel)) ?_
  refine q_fa (ok_iret (by decide +kernel : decode cX11_out 22 = .ok (.ireturn, 1)) rfl) ?_
  refine q_fa (ok_aload_n (by decide +kernel : decode cX11_out 23 = .ok (.aload_n 0, 1)) rfl rfl) ?_
  refine q_fa (ok_get (by decide +kernel : decode cX11_out 24 = .ok (.getfield 32, 3)) rfl (rfl : vwCl[11]? = some (RX11, TX11, 11)) inX11 (by decide) g181) ?_
  refine q_fa (ok_aload_n (by decide +kernel : decode cX11_out 27 = .ok (.aload_n 3, 1)) rfl rfl) ?_
  refine q_fa (ok_callV (by decide +kernel : decode cX11_out 28 = .ok (.invokevirtual 132, 3)) rfl kX0_build.1 kX0_build.2.1 kX0_build.2.2.1 kX0_build.2.2.2.1 kX0_build.2.2.2.2 (rfl : vwCl[0]? = some (RX0, TX0, 9)) g492 g493 g491) ?_
  refine q_fa (ok_iconst (by decide +kernel : decode cX11_out 31 = .ok (.iconst 0, 1)) rfl (by decide +kernel)) ?_
  refine q_fa (ok_istore (by decide +kernel : decode cX11_out 32 = .ok (.istore 5, 2)) rfl (by decide)) ?_
  refine q_fa (ok_iload (by decide +kernel : decode cX11_out 34 = .ok (.iload 5, 2)) rfl) ?_
  refine q_fa (ok_iload (by decide +kernel : decode cX11_out 36 = .ok (.iload 4, 2)) rfl) ?_
  refine q_fa (ok_if2ge (by decide +kernel : decode cX11_out 38 = .ok (.if_icmp .ge 42, 3)) (by decide) rfl) ?_
  refine q_fa (ok_aload_n (by decide +kernel : decode cX11_out 41 = .ok (.aload_n 0, 1)) rfl rfl) ?_
  refine q_fa (ok_get (by decide +kernel : decode cX11_out 42 = .ok (.getfield 32, 3)) rfl (rfl : vwCl[11]? = some (RX11, TX11, 11)) inX11 (by decide) g181) ?_
  refine q_fa (ok_iload_n (by decide +kernel : decode cX11_out 45 = .ok (.iload_n 2, 1)) rfl rfl) ?_
  refine q_fa (ok_iload (by decide +kernel : decode cX11_out 46 = .ok (.iload 4, 2)) rfl) ?_
  refine q_fa (ok_iload (by decide +kernel : decode cX11_out 48 = .ok (.iload 5, 2)) rfl) ?_
  refine q_fa (ok_callV (by decide +kernel : decode cX11_out 50 = .ok (.invokevirtual 135, 3)) rfl kX0_longestFit.1 kX0_longestFit.2.1 kX0_longestFit.2.2.1 kX0_longestFit.2.2.2.1 kX0_longestFit.2.2.2.2 (rfl : vwCl[0]? = some (RX0, TX0, 9)) g522 g523 g521) ?_
  refine q_fa (ok_istore (by decide +kernel : decode cX11_out 53 = .ok (.istore 6, 2)) rfl (by decide)) ?_
  refine q_fa (ok_iload (by decide +kernel : decode cX11_out 55 = .ok (.iload 6, 2)) rfl) ?_
  refine q_fa (ok_iload (by decide +kernel : decode cX11_out 57 = .ok (.iload 5, 2)) rfl) ?_
  refine q_fa (ok_if2le (by decide +kernel : decode cX11_out 59 = .ok (.if_icmp .le 15, 3)) (by decide) rfl) ?_
  refine q_fa (ok_bipush (by decide +kernel : decode cX11_out 62 = .ok (.bipush 100, 2)) rfl (by decide +kernel)) ?_
  refine q_fa (ok_iload (by decide +kernel : decode cX11_out 64 = .ok (.iload 5, 2)) rfl) ?_
  refine q_fa (ok_imul (by decide +kernel : decode cX11_out 66 = .ok (.imul, 1)) rfl) ?_
  refine q_fa (ok_iload (by decide +kernel : decode cX11_out 67 = .ok (.iload 6, 2)) rfl) ?_
  refine q_fa (ok_iadd (by decide +kernel : decode cX11_out 69 = .ok (.iadd, 1)) rfl) ?_
  refine q_fa (ok_iload (by decide +kernel : decode cX11_out 70 = .ok (.iload 5, 2)) rfl) ?_
  refine q_fa (ok_isub (by decide +kernel : decode cX11_out 72 = .ok (.isub, 1)) rfl) ?_
  refine q_fa (ok_iret (by decide +kernel : decode cX11_out 73 = .ok (.ireturn, 1)) rfl) ?_
  refine q_fa (ok_iinc (by decide +kernel : decode cX11_out 74 = .ok (.iinc 5 1, 3)) rfl (by decide +kernel) (by decide)) ?_
  refine q_fa (ok_goto (by decide +kernel : decode cX11_out 77 = .ok (.goto (-43), 3)) (by decide)) ?_
  refine q_fa (ok_bipush (by decide +kernel : decode cX11_out 80 = .ok (.bipush (-2), 2)) rfl (by decide +kernel)) ?_
  refine q_fa (ok_iret (by decide +kernel : decode cX11_out 82 = .ok (.ireturn, 1)) rfl) ?_
  exact q_fa0
theorem exX11_out : ∃ t : Nat → qP, t = uX11_out := ⟨_, rfl⟩
noncomputable def tX11_out : Nat → qP := Classical.choose exX11_out
theorem teX11_out : tX11_out = uX11_out := Classical.choose_spec exX11_out
theorem sX11_out : q_Snd mX11_out tX11_out := by rw [teX11_out]; exact suX11_out
theorem tX11_out_0 : tX11_out 0 = oAl 0 1 := (congrFun teX11_out 0).trans rfl
theorem tX11_out_1 : tX11_out 1 = oIl 1 2 := (congrFun teX11_out 1).trans rfl
theorem tX11_out_2 : tX11_out 2 = oCallV 11 mX11_patternAt 1 5 := (congrFun teX11_out 2).trans rfl
theorem tX11_out_5 : tX11_out 5 = oAs 3 6 := (congrFun teX11_out 5).trans rfl
theorem tX11_out_6 : tX11_out 6 = oIl 2 7 := (congrFun teX11_out 6).trans rfl
theorem tX11_out_7 : tX11_out 7 = oCallS mX11_lengthOf 1 10 := (congrFun teX11_out 7).trans rfl
theorem tX11_out_10 : tX11_out 10 = oIs 4 12 := (congrFun teX11_out 10).trans rfl
theorem tX11_out_12 : tX11_out 12 = oAl 3 13 := (congrFun teX11_out 12).trans rfl
theorem tX11_out_13 : tX11_out 13 = oIfn 21 16 := (congrFun teX11_out 13).trans rfl
theorem tX11_out_16 : tX11_out 16 = oIl 4 18 := (congrFun teX11_out 16).trans rfl
theorem tX11_out_18 : tX11_out 18 = oIf1ge 23 21 := (congrFun teX11_out 18).trans rfl
theorem tX11_out_21 : tX11_out 21 = oK (.int (-1)) 22 := (congrFun teX11_out 21).trans rfl
theorem tX11_out_22 : tX11_out 22 = oIret := (congrFun teX11_out 22).trans rfl
theorem tX11_out_23 : tX11_out 23 = oAl 0 24 := (congrFun teX11_out 23).trans rfl
theorem tX11_out_24 : tX11_out 24 = oGet 11 3 27 := (congrFun teX11_out 24).trans rfl
theorem tX11_out_27 : tX11_out 27 = oAl 3 28 := (congrFun teX11_out 27).trans rfl
theorem tX11_out_28 : tX11_out 28 = oCallV 0 mX0_build 1 31 := (congrFun teX11_out 28).trans rfl
theorem tX11_out_31 : tX11_out 31 = oK (.int (nI 0)) 32 := (congrFun teX11_out 31).trans rfl
theorem tX11_out_32 : tX11_out 32 = oIs 5 34 := (congrFun teX11_out 32).trans rfl
theorem tX11_out_34 : tX11_out 34 = oIl 5 36 := (congrFun teX11_out 34).trans rfl
theorem tX11_out_36 : tX11_out 36 = oIl 4 38 := (congrFun teX11_out 36).trans rfl
theorem tX11_out_38 : tX11_out 38 = oIf2ge 80 41 := (congrFun teX11_out 38).trans rfl
theorem tX11_out_41 : tX11_out 41 = oAl 0 42 := (congrFun teX11_out 41).trans rfl
theorem tX11_out_42 : tX11_out 42 = oGet 11 3 45 := (congrFun teX11_out 42).trans rfl
theorem tX11_out_45 : tX11_out 45 = oIl 2 46 := (congrFun teX11_out 45).trans rfl
theorem tX11_out_46 : tX11_out 46 = oIl 4 48 := (congrFun teX11_out 46).trans rfl
theorem tX11_out_48 : tX11_out 48 = oIl 5 50 := (congrFun teX11_out 48).trans rfl
theorem tX11_out_50 : tX11_out 50 = oCallV 0 mX0_longestFit 3 53 := (congrFun teX11_out 50).trans rfl
theorem tX11_out_53 : tX11_out 53 = oIs 6 55 := (congrFun teX11_out 53).trans rfl
theorem tX11_out_55 : tX11_out 55 = oIl 6 57 := (congrFun teX11_out 55).trans rfl
theorem tX11_out_57 : tX11_out 57 = oIl 5 59 := (congrFun teX11_out 57).trans rfl
theorem tX11_out_59 : tX11_out 59 = oIf2le 74 62 := (congrFun teX11_out 59).trans rfl
theorem tX11_out_62 : tX11_out 62 = oK (.int (nI 100)) 64 := (congrFun teX11_out 62).trans rfl
theorem tX11_out_64 : tX11_out 64 = oIl 5 66 := (congrFun teX11_out 64).trans rfl
theorem tX11_out_66 : tX11_out 66 = oMul 67 := (congrFun teX11_out 66).trans rfl
theorem tX11_out_67 : tX11_out 67 = oIl 6 69 := (congrFun teX11_out 67).trans rfl
theorem tX11_out_69 : tX11_out 69 = oAdd 70 := (congrFun teX11_out 69).trans rfl
theorem tX11_out_70 : tX11_out 70 = oIl 5 72 := (congrFun teX11_out 70).trans rfl
theorem tX11_out_72 : tX11_out 72 = oSub 73 := (congrFun teX11_out 72).trans rfl
theorem tX11_out_73 : tX11_out 73 = oIret := (congrFun teX11_out 73).trans rfl
theorem tX11_out_74 : tX11_out 74 = oInc 5 (nI 1) 77 := (congrFun teX11_out 74).trans rfl
theorem tX11_out_77 : tX11_out 77 = oGo 34 := (congrFun teX11_out 77).trans rfl
theorem tX11_out_80 : tX11_out 80 = oK (.int (-2)) 82 := (congrFun teX11_out 80).trans rfl
theorem tX11_out_82 : tX11_out 82 = oIret := (congrFun teX11_out 82).trans rfl
def lX11_many : List (Nat × qP) := [(0, oAl 0 1), (1, oIl 1 2), (2, oCallV 11 mX11_patternAt 1 5), (5, oAs 3 6), (6, oAl 3 7), (7, oIfn 20 10), (10, oIl 2 11), (11, oIf1lt 20 14), (14, oIl 2 15), (15, oK (.int (nI 12)) 17), (17, oIf2le 22 20), (20, oK (.int (-1)) 21), (21, oIret), (22, oAl 0 23), (23, oGet 11 3 26), (26, oAl 3 27), (27, oCallV 0 mX0_build 1 30), (30, oAl 0 31), (31, oGet 11 5 34), (34, oAl 0 35), (35, oGet 11 3 38), (38, oIl 2 39), (39, oCallV 9 mX9_fill 2 42), (42, oAl 0 43), (43, oGet 11 5 46), (46, oK (.int (nI 64)) 48), (48, oIl 2 49), (49, oCallV 9 mX9_from 2 52), (52, oIret)]
def uX11_many : Nat → qP := q_tb lX11_many
set_option maxRecDepth 20000 in
theorem suX11_many : q_Snd mX11_many uX11_many := by
  refine q_tb_ok ?_
  unfold lX11_many
  refine q_fa (ok_aload_n (by decide +kernel : decode cX11_many 0 = .ok (.aload_n 0, 1)) rfl rfl) ?_
  refine q_fa (ok_iload_n (by decide +kernel : decode cX11_many 1 = .ok (.iload_n 1, 1)) rfl rfl) ?_
  refine q_fa (ok_callV (by decide +kernel : decode cX11_many 2 = .ok (.invokevirtual 92, 3)) rfl kX11_patternAt.1 kX11_patternAt.2.1 kX11_patternAt.2.2.1 kX11_patternAt.2.2.2.1 kX11_patternAt.2.2.2.2 (rfl : vwCl[11]? = some (RX11, TX11, 11)) g345 gs11 g343) ?_
  refine q_fa (ok_astore_n (by decide +kernel : decode cX11_many 5 = .ok (.astore_n 3, 1)) rfl rfl (by decide)) ?_
  refine q_fa (ok_aload_n (by decide +kernel : decode cX11_many 6 = .ok (.aload_n 3, 1)) rfl rfl) ?_
  refine q_fa (ok_ifnull (by decide +kernel : decode cX11_many 7 = .ok (.ifnull 13, 3)) (by decide) rfl) ?_
  refine q_fa (ok_iload_n (by decide +kernel : decode cX11_many 10 = .ok (.iload_n 2, 1)) rfl rfl) ?_
  refine q_fa (ok_if1lt (by decide +kernel : decode cX11_many 11 = .ok (.ifCond .lt 9, 3)) (by decide) rfl) ?_
  refine q_fa (ok_iload_n (by decide +kernel : decode cX11_many 14 = .ok (.iload_n 2, 1)) rfl rfl) ?_
  refine q_fa (ok_bipush (by decide +kernel : decode cX11_many 15 = .ok (.bipush 12, 2)) rfl (by decide +kernel)) ?_
  refine q_fa (ok_if2le (by decide +kernel : decode cX11_many 17 = .ok (.if_icmp .le 5, 3)) (by decide) rfl) ?_
  refine q_fa (ok_iconst (by decide +kernel : decode cX11_many 20 = .ok (.iconst (-1), 1)) rfl (by decide +kernel)) ?_
  refine q_fa (ok_iret (by decide +kernel : decode cX11_many 21 = .ok (.ireturn, 1)) rfl) ?_
  refine q_fa (ok_aload_n (by decide +kernel : decode cX11_many 22 = .ok (.aload_n 0, 1)) rfl rfl) ?_
  refine q_fa (ok_get (by decide +kernel : decode cX11_many 23 = .ok (.getfield 32, 3)) rfl (rfl : vwCl[11]? = some (RX11, TX11, 11)) inX11 (by decide) g181) ?_
  refine q_fa (ok_aload_n (by decide +kernel : decode cX11_many 26 = .ok (.aload_n 3, 1)) rfl rfl) ?_
  refine q_fa (ok_callV (by decide +kernel : decode cX11_many 27 = .ok (.invokevirtual 132, 3)) rfl kX0_build.1 kX0_build.2.1 kX0_build.2.2.1 kX0_build.2.2.2.1 kX0_build.2.2.2.2 (rfl : vwCl[0]? = some (RX0, TX0, 9)) g492 g493 g491) ?_
  refine q_fa (ok_aload_n (by decide +kernel : decode cX11_many 30 = .ok (.aload_n 0, 1)) rfl rfl) ?_
  refine q_fa (ok_get (by decide +kernel : decode cX11_many 31 = .ok (.getfield 42, 3)) rfl (rfl : vwCl[11]? = some (RX11, TX11, 11)) inX11 (by decide) g183) ?_
  refine q_fa (ok_aload_n (by decide +kernel : decode cX11_many 34 = .ok (.aload_n 0, 1)) rfl rfl) ?_
  refine q_fa (ok_get (by decide +kernel : decode cX11_many 35 = .ok (.getfield 32, 3)) rfl (rfl : vwCl[11]? = some (RX11, TX11, 11)) inX11 (by decide) g181) ?_
  refine q_fa (ok_iload_n (by decide +kernel : decode cX11_many 38 = .ok (.iload_n 2, 1)) rfl rfl) ?_
  refine q_fa (ok_callV (by decide +kernel : decode cX11_many 39 = .ok (.invokevirtual 139, 3)) rfl kX9_fill.1 kX9_fill.2.1 kX9_fill.2.2.1 kX9_fill.2.2.2.1 kX9_fill.2.2.2.2 (rfl : vwCl[9]? = some (RX9, TX9, 1)) g545 g546 g544) ?_
  refine q_fa (ok_aload_n (by decide +kernel : decode cX11_many 42 = .ok (.aload_n 0, 1)) rfl rfl) ?_
  refine q_fa (ok_get (by decide +kernel : decode cX11_many 43 = .ok (.getfield 42, 3)) rfl (rfl : vwCl[11]? = some (RX11, TX11, 11)) inX11 (by decide) g183) ?_
  refine q_fa (ok_bipush (by decide +kernel : decode cX11_many 46 = .ok (.bipush 64, 2)) rfl (by decide +kernel)) ?_
  refine q_fa (ok_iload_n (by decide +kernel : decode cX11_many 48 = .ok (.iload_n 2, 1)) rfl rfl) ?_
  refine q_fa (ok_callV (by decide +kernel : decode cX11_many 49 = .ok (.invokevirtual 143, 3)) rfl kX9_from.1 kX9_from.2.1 kX9_from.2.2.1 kX9_from.2.2.2.1 kX9_from.2.2.2.2 (rfl : vwCl[9]? = some (RX9, TX9, 1)) g552 g553 g555) ?_
  refine q_fa (ok_iret (by decide +kernel : decode cX11_many 52 = .ok (.ireturn, 1)) rfl) ?_
  exact q_fa0
theorem exX11_many : ∃ t : Nat → qP, t = uX11_many := ⟨_, rfl⟩
noncomputable def tX11_many : Nat → qP := Classical.choose exX11_many
theorem teX11_many : tX11_many = uX11_many := Classical.choose_spec exX11_many
theorem sX11_many : q_Snd mX11_many tX11_many := by rw [teX11_many]; exact suX11_many
theorem tX11_many_0 : tX11_many 0 = oAl 0 1 := (congrFun teX11_many 0).trans rfl
theorem tX11_many_1 : tX11_many 1 = oIl 1 2 := (congrFun teX11_many 1).trans rfl
theorem tX11_many_2 : tX11_many 2 = oCallV 11 mX11_patternAt 1 5 := (congrFun teX11_many 2).trans rfl
theorem tX11_many_5 : tX11_many 5 = oAs 3 6 := (congrFun teX11_many 5).trans rfl
theorem tX11_many_6 : tX11_many 6 = oAl 3 7 := (congrFun teX11_many 6).trans rfl
theorem tX11_many_7 : tX11_many 7 = oIfn 20 10 := (congrFun teX11_many 7).trans rfl
theorem tX11_many_10 : tX11_many 10 = oIl 2 11 := (congrFun teX11_many 10).trans rfl
theorem tX11_many_11 : tX11_many 11 = oIf1lt 20 14 := (congrFun teX11_many 11).trans rfl
theorem tX11_many_14 : tX11_many 14 = oIl 2 15 := (congrFun teX11_many 14).trans rfl
theorem tX11_many_15 : tX11_many 15 = oK (.int (nI 12)) 17 := (congrFun teX11_many 15).trans rfl
theorem tX11_many_17 : tX11_many 17 = oIf2le 22 20 := (congrFun teX11_many 17).trans rfl
theorem tX11_many_20 : tX11_many 20 = oK (.int (-1)) 21 := (congrFun teX11_many 20).trans rfl
theorem tX11_many_21 : tX11_many 21 = oIret := (congrFun teX11_many 21).trans rfl
theorem tX11_many_22 : tX11_many 22 = oAl 0 23 := (congrFun teX11_many 22).trans rfl
theorem tX11_many_23 : tX11_many 23 = oGet 11 3 26 := (congrFun teX11_many 23).trans rfl
theorem tX11_many_26 : tX11_many 26 = oAl 3 27 := (congrFun teX11_many 26).trans rfl
theorem tX11_many_27 : tX11_many 27 = oCallV 0 mX0_build 1 30 := (congrFun teX11_many 27).trans rfl
theorem tX11_many_30 : tX11_many 30 = oAl 0 31 := (congrFun teX11_many 30).trans rfl
theorem tX11_many_31 : tX11_many 31 = oGet 11 5 34 := (congrFun teX11_many 31).trans rfl
theorem tX11_many_34 : tX11_many 34 = oAl 0 35 := (congrFun teX11_many 34).trans rfl
theorem tX11_many_35 : tX11_many 35 = oGet 11 3 38 := (congrFun teX11_many 35).trans rfl
theorem tX11_many_38 : tX11_many 38 = oIl 2 39 := (congrFun teX11_many 38).trans rfl
theorem tX11_many_39 : tX11_many 39 = oCallV 9 mX9_fill 2 42 := (congrFun teX11_many 39).trans rfl
theorem tX11_many_42 : tX11_many 42 = oAl 0 43 := (congrFun teX11_many 42).trans rfl
theorem tX11_many_43 : tX11_many 43 = oGet 11 5 46 := (congrFun teX11_many 43).trans rfl
theorem tX11_many_46 : tX11_many 46 = oK (.int (nI 64)) 48 := (congrFun teX11_many 46).trans rfl
theorem tX11_many_48 : tX11_many 48 = oIl 2 49 := (congrFun teX11_many 48).trans rfl
theorem tX11_many_49 : tX11_many 49 = oCallV 9 mX9_from 2 52 := (congrFun teX11_many 49).trans rfl
theorem tX11_many_52 : tX11_many 52 = oIret := (congrFun teX11_many 52).trans rfl
def lX11_row : List (Nat × qP) := [(0, oAl 0 1), (1, oIl 1 2), (2, oIl 2 3), (3, oCallV 11 mX11_many 2 6), (6, oIs 4 8), (8, oIl 3 9), (9, oIf1lt 18 12), (12, oIl 3 13), (13, oIl 4 15), (15, oIf2lt 20 18), (18, oK (.int (-1)) 19), (19, oIret), (20, oAl 0 21), (21, oGet 11 5 24), (24, oAl 0 25), (25, oGet 11 3 28), (28, oIl 2 29), (29, oIl 3 30), (30, oCallV 9 mX9_rowAt 3 33), (33, oIret)]
def uX11_row : Nat → qP := q_tb lX11_row
set_option maxRecDepth 20000 in
theorem suX11_row : q_Snd mX11_row uX11_row := by
  refine q_tb_ok ?_
  unfold lX11_row
  refine q_fa (ok_aload_n (by decide +kernel : decode cX11_row 0 = .ok (.aload_n 0, 1)) rfl rfl) ?_
  refine q_fa (ok_iload_n (by decide +kernel : decode cX11_row 1 = .ok (.iload_n 1, 1)) rfl rfl) ?_
  refine q_fa (ok_iload_n (by decide +kernel : decode cX11_row 2 = .ok (.iload_n 2, 1)) rfl rfl) ?_
  refine q_fa (ok_callV (by decide +kernel : decode cX11_row 3 = .ok (.invokevirtual 146, 3)) rfl kX11_many.1 kX11_many.2.1 kX11_many.2.2.1 kX11_many.2.2.2.1 kX11_many.2.2.2.2 (rfl : vwCl[11]? = some (RX11, TX11, 11)) g541 g542 g560) ?_
  refine q_fa (ok_istore (by decide +kernel : decode cX11_row 6 = .ok (.istore 4, 2)) rfl (by decide)) ?_
  refine q_fa (ok_iload_n (by decide +kernel : decode cX11_row 8 = .ok (.iload_n 3, 1)) rfl rfl) ?_
  refine q_fa (ok_if1lt (by decide +kernel : decode cX11_row 9 = .ok (.ifCond .lt 9, 3)) (by decide) rfl) ?_
  refine q_fa (ok_iload_n (by decide +kernel : decode cX11_row 12 = .ok (.iload_n 3, 1)) rfl rfl) ?_
  refine q_fa (ok_iload (by decide +kernel : decode cX11_row 13 = .ok (.iload 4, 2)) rfl) ?_
  refine q_fa (ok_if2lt (by decide +kernel : decode cX11_row 15 = .ok (.if_icmp .lt 5, 3)) (by decide) rfl) ?_
  refine q_fa (ok_iconst (by decide +kernel : decode cX11_row 18 = .ok (.iconst (-1), 1)) rfl (by decide +kernel)) ?_
  refine q_fa (ok_iret (by decide +kernel : decode cX11_row 19 = .ok (.ireturn, 1)) rfl) ?_
  refine q_fa (ok_aload_n (by decide +kernel : decode cX11_row 20 = .ok (.aload_n 0, 1)) rfl rfl) ?_
  refine q_fa (ok_get (by decide +kernel : decode cX11_row 21 = .ok (.getfield 42, 3)) rfl (rfl : vwCl[11]? = some (RX11, TX11, 11)) inX11 (by decide) g183) ?_
  refine q_fa (ok_aload_n (by decide +kernel : decode cX11_row 24 = .ok (.aload_n 0, 1)) rfl rfl) ?_
  refine q_fa (ok_get (by decide +kernel : decode cX11_row 25 = .ok (.getfield 32, 3)) rfl (rfl : vwCl[11]? = some (RX11, TX11, 11)) inX11 (by decide) g181) ?_
  refine q_fa (ok_iload_n (by decide +kernel : decode cX11_row 28 = .ok (.iload_n 2, 1)) rfl rfl) ?_
  refine q_fa (ok_iload_n (by decide +kernel : decode cX11_row 29 = .ok (.iload_n 3, 1)) rfl rfl) ?_
  refine q_fa (ok_callV (by decide +kernel : decode cX11_row 30 = .ok (.invokevirtual 149, 3)) rfl kX9_rowAt.1 kX9_rowAt.2.1 kX9_rowAt.2.2.1 kX9_rowAt.2.2.2.1 kX9_rowAt.2.2.2.2 (rfl : vwCl[9]? = some (RX9, TX9, 1)) g562 g563 g561) ?_
  refine q_fa (ok_iret (by decide +kernel : decode cX11_row 33 = .ok (.ireturn, 1)) rfl) ?_
  exact q_fa0
theorem exX11_row : ∃ t : Nat → qP, t = uX11_row := ⟨_, rfl⟩
noncomputable def tX11_row : Nat → qP := Classical.choose exX11_row
theorem teX11_row : tX11_row = uX11_row := Classical.choose_spec exX11_row
theorem sX11_row : q_Snd mX11_row tX11_row := by rw [teX11_row]; exact suX11_row
theorem tX11_row_0 : tX11_row 0 = oAl 0 1 := (congrFun teX11_row 0).trans rfl
theorem tX11_row_1 : tX11_row 1 = oIl 1 2 := (congrFun teX11_row 1).trans rfl
theorem tX11_row_2 : tX11_row 2 = oIl 2 3 := (congrFun teX11_row 2).trans rfl
theorem tX11_row_3 : tX11_row 3 = oCallV 11 mX11_many 2 6 := (congrFun teX11_row 3).trans rfl
theorem tX11_row_6 : tX11_row 6 = oIs 4 8 := (congrFun teX11_row 6).trans rfl
theorem tX11_row_8 : tX11_row 8 = oIl 3 9 := (congrFun teX11_row 8).trans rfl
theorem tX11_row_9 : tX11_row 9 = oIf1lt 18 12 := (congrFun teX11_row 9).trans rfl
theorem tX11_row_12 : tX11_row 12 = oIl 3 13 := (congrFun teX11_row 12).trans rfl
theorem tX11_row_13 : tX11_row 13 = oIl 4 15 := (congrFun teX11_row 13).trans rfl
theorem tX11_row_15 : tX11_row 15 = oIf2lt 20 18 := (congrFun teX11_row 15).trans rfl
theorem tX11_row_18 : tX11_row 18 = oK (.int (-1)) 19 := (congrFun teX11_row 18).trans rfl
theorem tX11_row_19 : tX11_row 19 = oIret := (congrFun teX11_row 19).trans rfl
theorem tX11_row_20 : tX11_row 20 = oAl 0 21 := (congrFun teX11_row 20).trans rfl
theorem tX11_row_21 : tX11_row 21 = oGet 11 5 24 := (congrFun teX11_row 21).trans rfl
theorem tX11_row_24 : tX11_row 24 = oAl 0 25 := (congrFun teX11_row 24).trans rfl
theorem tX11_row_25 : tX11_row 25 = oGet 11 3 28 := (congrFun teX11_row 25).trans rfl
theorem tX11_row_28 : tX11_row 28 = oIl 2 29 := (congrFun teX11_row 28).trans rfl
theorem tX11_row_29 : tX11_row 29 = oIl 3 30 := (congrFun teX11_row 29).trans rfl
theorem tX11_row_30 : tX11_row 30 = oCallV 9 mX9_rowAt 3 33 := (congrFun teX11_row 30).trans rfl
theorem tX11_row_33 : tX11_row 33 = oIret := (congrFun teX11_row 33).trans rfl
def lX11_alike : List (Nat × qP) := [(0, oAl 0 1), (1, oIl 1 2), (2, oIl 2 3), (3, oK (.int (nI 0)) 4), (4, oCallVA 11 mX11_partingRow 3 7), (7, oIs 3 8), (8, oIl 3 9), (9, oK (.int (-1)) 10), (10, oIf2ne 15 13), (13, oK (.int (-1)) 14), (14, oIret), (15, oIl 3 16), (16, oK (.int (-2)) 18), (18, oIf2ne 25 21), (21, oK (.int (nI 1)) 22), (22, oGo 26), (25, oK (.int (nI 0)) 26), (26, oIret)]
def uX11_alike : Nat → qP := q_tb lX11_alike
set_option maxRecDepth 20000 in
theorem suX11_alike : q_Snd mX11_alike uX11_alike := by
  refine q_tb_ok ?_
  unfold lX11_alike
  refine q_fa (ok_aload_n (by decide +kernel : decode cX11_alike 0 = .ok (.aload_n 0, 1)) rfl rfl) ?_
  refine q_fa (ok_iload_n (by decide +kernel : decode cX11_alike 1 = .ok (.iload_n 1, 1)) rfl rfl) ?_
  refine q_fa (ok_iload_n (by decide +kernel : decode cX11_alike 2 = .ok (.iload_n 2, 1)) rfl rfl) ?_
  refine q_fa (ok_iconst (by decide +kernel : decode cX11_alike 3 = .ok (.iconst 0, 1)) rfl (by decide +kernel)) ?_
  refine q_fa (ok_callVA (by decide +kernel : decode cX11_alike 4 = .ok (.invokevirtual 153, 3)) rfl kX11_partingRow.1 kX11_partingRow.2.1 kX11_partingRow.2.2.1 kX11_partingRow.2.2.2.1 kX11_partingRow.2.2.2.2 (rfl : vwCl[11]? = some (RX11, TX11, 11)) g571 gs25 g569) ?_
  refine q_fa (ok_istore_n (by decide +kernel : decode cX11_alike 7 = .ok (.istore_n 3, 1)) rfl rfl (by decide)) ?_
  refine q_fa (ok_iload_n (by decide +kernel : decode cX11_alike 8 = .ok (.iload_n 3, 1)) rfl rfl) ?_
  refine q_fa (ok_iconst (by decide +kernel : decode cX11_alike 9 = .ok (.iconst (-1), 1)) rfl (by decide +kernel)) ?_
  refine q_fa (ok_if2ne (by decide +kernel : decode cX11_alike 10 = .ok (.if_icmp .ne 5, 3)) (by decide) rfl) ?_
  refine q_fa (ok_iconst (by decide +kernel : decode cX11_alike 13 = .ok (.iconst (-1), 1)) rfl (by decide +kernel)) ?_
  refine q_fa (ok_iret (by decide +kernel : decode cX11_alike 14 = .ok (.ireturn, 1)) rfl) ?_
  refine q_fa (ok_iload_n (by decide +kernel : decode cX11_alike 15 = .ok (.iload_n 3, 1)) rfl rfl) ?_
  refine q_fa (ok_bipush (by decide +kernel : decode cX11_alike 16 = .ok (.bipush (-2), 2)) rfl (by decide +kernel)) ?_
  refine q_fa (ok_if2ne (by decide +kernel : decode cX11_alike 18 = .ok (.if_icmp .ne 7, 3)) (by decide) rfl) ?_
  refine q_fa (ok_iconst (by decide +kernel : decode cX11_alike 21 = .ok (.iconst 1, 1)) rfl (by decide +kernel)) ?_
  refine q_fa (ok_goto (by decide +kernel : decode cX11_alike 22 = .ok (.goto 4, 3)) (by decide)) ?_
  refine q_fa (ok_iconst (by decide +kernel : decode cX11_alike 25 = .ok (.iconst 0, 1)) rfl (by decide +kernel)) ?_
  refine q_fa (ok_iret (by decide +kernel : decode cX11_alike 26 = .ok (.ireturn, 1)) rfl) ?_
  exact q_fa0
theorem exX11_alike : ∃ t : Nat → qP, t = uX11_alike := ⟨_, rfl⟩
noncomputable def tX11_alike : Nat → qP := Classical.choose exX11_alike
theorem teX11_alike : tX11_alike = uX11_alike := Classical.choose_spec exX11_alike
theorem sX11_alike : q_Snd mX11_alike tX11_alike := by rw [teX11_alike]; exact suX11_alike
theorem tX11_alike_0 : tX11_alike 0 = oAl 0 1 := (congrFun teX11_alike 0).trans rfl
theorem tX11_alike_1 : tX11_alike 1 = oIl 1 2 := (congrFun teX11_alike 1).trans rfl
theorem tX11_alike_2 : tX11_alike 2 = oIl 2 3 := (congrFun teX11_alike 2).trans rfl
theorem tX11_alike_3 : tX11_alike 3 = oK (.int (nI 0)) 4 := (congrFun teX11_alike 3).trans rfl
theorem tX11_alike_4 : tX11_alike 4 = oCallVA 11 mX11_partingRow 3 7 := (congrFun teX11_alike 4).trans rfl
theorem tX11_alike_7 : tX11_alike 7 = oIs 3 8 := (congrFun teX11_alike 7).trans rfl
theorem tX11_alike_8 : tX11_alike 8 = oIl 3 9 := (congrFun teX11_alike 8).trans rfl
theorem tX11_alike_9 : tX11_alike 9 = oK (.int (-1)) 10 := (congrFun teX11_alike 9).trans rfl
theorem tX11_alike_10 : tX11_alike 10 = oIf2ne 15 13 := (congrFun teX11_alike 10).trans rfl
theorem tX11_alike_13 : tX11_alike 13 = oK (.int (-1)) 14 := (congrFun teX11_alike 13).trans rfl
theorem tX11_alike_14 : tX11_alike 14 = oIret := (congrFun teX11_alike 14).trans rfl
theorem tX11_alike_15 : tX11_alike 15 = oIl 3 16 := (congrFun teX11_alike 15).trans rfl
theorem tX11_alike_16 : tX11_alike 16 = oK (.int (-2)) 18 := (congrFun teX11_alike 16).trans rfl
theorem tX11_alike_18 : tX11_alike 18 = oIf2ne 25 21 := (congrFun teX11_alike 18).trans rfl
theorem tX11_alike_21 : tX11_alike 21 = oK (.int (nI 1)) 22 := (congrFun teX11_alike 21).trans rfl
theorem tX11_alike_22 : tX11_alike 22 = oGo 26 := (congrFun teX11_alike 22).trans rfl
theorem tX11_alike_25 : tX11_alike 25 = oK (.int (nI 0)) 26 := (congrFun teX11_alike 25).trans rfl
theorem tX11_alike_26 : tX11_alike 26 = oIret := (congrFun teX11_alike 26).trans rfl
def lX11_parted : List (Nat × qP) := [(0, oAl 0 1), (1, oIl 1 2), (2, oIl 2 3), (3, oK (.int (nI 0)) 4), (4, oCallVA 11 mX11_partingRow 3 7), (7, oIret)]
def uX11_parted : Nat → qP := q_tb lX11_parted
set_option maxRecDepth 20000 in
theorem suX11_parted : q_Snd mX11_parted uX11_parted := by
  refine q_tb_ok ?_
  unfold lX11_parted
  refine q_fa (ok_aload_n (by decide +kernel : decode cX11_parted 0 = .ok (.aload_n 0, 1)) rfl rfl) ?_
  refine q_fa (ok_iload_n (by decide +kernel : decode cX11_parted 1 = .ok (.iload_n 1, 1)) rfl rfl) ?_
  refine q_fa (ok_iload_n (by decide +kernel : decode cX11_parted 2 = .ok (.iload_n 2, 1)) rfl rfl) ?_
  refine q_fa (ok_iconst (by decide +kernel : decode cX11_parted 3 = .ok (.iconst 0, 1)) rfl (by decide +kernel)) ?_
  refine q_fa (ok_callVA (by decide +kernel : decode cX11_parted 4 = .ok (.invokevirtual 153, 3)) rfl kX11_partingRow.1 kX11_partingRow.2.1 kX11_partingRow.2.2.1 kX11_partingRow.2.2.2.1 kX11_partingRow.2.2.2.2 (rfl : vwCl[11]? = some (RX11, TX11, 11)) g571 gs25 g569) ?_
  refine q_fa (ok_iret (by decide +kernel : decode cX11_parted 7 = .ok (.ireturn, 1)) rfl) ?_
  exact q_fa0
theorem exX11_parted : ∃ t : Nat → qP, t = uX11_parted := ⟨_, rfl⟩
noncomputable def tX11_parted : Nat → qP := Classical.choose exX11_parted
theorem teX11_parted : tX11_parted = uX11_parted := Classical.choose_spec exX11_parted
theorem sX11_parted : q_Snd mX11_parted tX11_parted := by rw [teX11_parted]; exact suX11_parted
theorem tX11_parted_0 : tX11_parted 0 = oAl 0 1 := (congrFun teX11_parted 0).trans rfl
theorem tX11_parted_1 : tX11_parted 1 = oIl 1 2 := (congrFun teX11_parted 1).trans rfl
theorem tX11_parted_2 : tX11_parted 2 = oIl 2 3 := (congrFun teX11_parted 2).trans rfl
theorem tX11_parted_3 : tX11_parted 3 = oK (.int (nI 0)) 4 := (congrFun teX11_parted 3).trans rfl
theorem tX11_parted_4 : tX11_parted 4 = oCallVA 11 mX11_partingRow 3 7 := (congrFun teX11_parted 4).trans rfl
theorem tX11_parted_7 : tX11_parted 7 = oIret := (congrFun teX11_parted 7).trans rfl
def lX11_inside : List (Nat × qP) := [(0, oAl 0 1), (1, oIl 1 2), (2, oIl 2 3), (3, oK (.int (nI 1)) 4), (4, oCallVA 11 mX11_partingRow 3 7), (7, oIs 3 8), (8, oIl 3 9), (9, oK (.int (-1)) 10), (10, oIf2ne 15 13), (13, oK (.int (-1)) 14), (14, oIret), (15, oIl 3 16), (16, oK (.int (-2)) 18), (18, oIf2ne 25 21), (21, oK (.int (nI 1)) 22), (22, oGo 26), (25, oK (.int (nI 0)) 26), (26, oIret)]
def uX11_inside : Nat → qP := q_tb lX11_inside
set_option maxRecDepth 20000 in
theorem suX11_inside : q_Snd mX11_inside uX11_inside := by
  refine q_tb_ok ?_
  unfold lX11_inside
  refine q_fa (ok_aload_n (by decide +kernel : decode cX11_inside 0 = .ok (.aload_n 0, 1)) rfl rfl) ?_
  refine q_fa (ok_iload_n (by decide +kernel : decode cX11_inside 1 = .ok (.iload_n 1, 1)) rfl rfl) ?_
  refine q_fa (ok_iload_n (by decide +kernel : decode cX11_inside 2 = .ok (.iload_n 2, 1)) rfl rfl) ?_
  refine q_fa (ok_iconst (by decide +kernel : decode cX11_inside 3 = .ok (.iconst 1, 1)) rfl (by decide +kernel)) ?_
  refine q_fa (ok_callVA (by decide +kernel : decode cX11_inside 4 = .ok (.invokevirtual 153, 3)) rfl kX11_partingRow.1 kX11_partingRow.2.1 kX11_partingRow.2.2.1 kX11_partingRow.2.2.2.1 kX11_partingRow.2.2.2.2 (rfl : vwCl[11]? = some (RX11, TX11, 11)) g571 gs25 g569) ?_
  refine q_fa (ok_istore_n (by decide +kernel : decode cX11_inside 7 = .ok (.istore_n 3, 1)) rfl rfl (by decide)) ?_
  refine q_fa (ok_iload_n (by decide +kernel : decode cX11_inside 8 = .ok (.iload_n 3, 1)) rfl rfl) ?_
  refine q_fa (ok_iconst (by decide +kernel : decode cX11_inside 9 = .ok (.iconst (-1), 1)) rfl (by decide +kernel)) ?_
  refine q_fa (ok_if2ne (by decide +kernel : decode cX11_inside 10 = .ok (.if_icmp .ne 5, 3)) (by decide) rfl) ?_
  refine q_fa (ok_iconst (by decide +kernel : decode cX11_inside 13 = .ok (.iconst (-1), 1)) rfl (by decide +kernel)) ?_
  refine q_fa (ok_iret (by decide +kernel : decode cX11_inside 14 = .ok (.ireturn, 1)) rfl) ?_
  refine q_fa (ok_iload_n (by decide +kernel : decode cX11_inside 15 = .ok (.iload_n 3, 1)) rfl rfl) ?_
  refine q_fa (ok_bipush (by decide +kernel : decode cX11_inside 16 = .ok (.bipush (-2), 2)) rfl (by decide +kernel)) ?_
  refine q_fa (ok_if2ne (by decide +kernel : decode cX11_inside 18 = .ok (.if_icmp .ne 7, 3)) (by decide) rfl) ?_
  refine q_fa (ok_iconst (by decide +kernel : decode cX11_inside 21 = .ok (.iconst 1, 1)) rfl (by decide +kernel)) ?_
  refine q_fa (ok_goto (by decide +kernel : decode cX11_inside 22 = .ok (.goto 4, 3)) (by decide)) ?_
  refine q_fa (ok_iconst (by decide +kernel : decode cX11_inside 25 = .ok (.iconst 0, 1)) rfl (by decide +kernel)) ?_
  refine q_fa (ok_iret (by decide +kernel : decode cX11_inside 26 = .ok (.ireturn, 1)) rfl) ?_
  exact q_fa0
theorem exX11_inside : ∃ t : Nat → qP, t = uX11_inside := ⟨_, rfl⟩
noncomputable def tX11_inside : Nat → qP := Classical.choose exX11_inside
theorem teX11_inside : tX11_inside = uX11_inside := Classical.choose_spec exX11_inside
theorem sX11_inside : q_Snd mX11_inside tX11_inside := by rw [teX11_inside]; exact suX11_inside
theorem tX11_inside_0 : tX11_inside 0 = oAl 0 1 := (congrFun teX11_inside 0).trans rfl
theorem tX11_inside_1 : tX11_inside 1 = oIl 1 2 := (congrFun teX11_inside 1).trans rfl
theorem tX11_inside_2 : tX11_inside 2 = oIl 2 3 := (congrFun teX11_inside 2).trans rfl
theorem tX11_inside_3 : tX11_inside 3 = oK (.int (nI 1)) 4 := (congrFun teX11_inside 3).trans rfl
theorem tX11_inside_4 : tX11_inside 4 = oCallVA 11 mX11_partingRow 3 7 := (congrFun teX11_inside 4).trans rfl
theorem tX11_inside_7 : tX11_inside 7 = oIs 3 8 := (congrFun teX11_inside 7).trans rfl
theorem tX11_inside_8 : tX11_inside 8 = oIl 3 9 := (congrFun teX11_inside 8).trans rfl
theorem tX11_inside_9 : tX11_inside 9 = oK (.int (-1)) 10 := (congrFun teX11_inside 9).trans rfl
theorem tX11_inside_10 : tX11_inside 10 = oIf2ne 15 13 := (congrFun teX11_inside 10).trans rfl
theorem tX11_inside_13 : tX11_inside 13 = oK (.int (-1)) 14 := (congrFun teX11_inside 13).trans rfl
theorem tX11_inside_14 : tX11_inside 14 = oIret := (congrFun teX11_inside 14).trans rfl
theorem tX11_inside_15 : tX11_inside 15 = oIl 3 16 := (congrFun teX11_inside 15).trans rfl
theorem tX11_inside_16 : tX11_inside 16 = oK (.int (-2)) 18 := (congrFun teX11_inside 16).trans rfl
theorem tX11_inside_18 : tX11_inside 18 = oIf2ne 25 21 := (congrFun teX11_inside 18).trans rfl
theorem tX11_inside_21 : tX11_inside 21 = oK (.int (nI 1)) 22 := (congrFun teX11_inside 21).trans rfl
theorem tX11_inside_22 : tX11_inside 22 = oGo 26 := (congrFun teX11_inside 22).trans rfl
theorem tX11_inside_25 : tX11_inside 25 = oK (.int (nI 0)) 26 := (congrFun teX11_inside 25).trans rfl
theorem tX11_inside_26 : tX11_inside 26 = oIret := (congrFun teX11_inside 26).trans rfl
def lX11_show : List (Nat × qP) := [(0, oIl 1 1), (1, oCallS mX11_lengthOf 1 4), (4, oIs 5 6), (6, oIl 5 8), (8, oIf1lt 31 11), (11, oIl 5 13), (13, oK (.int (nI 6)) 15), (15, oIf2gt 31 18), (18, oIl 4 20), (20, oK (.int (nI 1)) 21), (21, oIf2lt 31 24), (24, oIl 4 26), (26, oK (.int (nI 99)) 28), (28, oIf2le 33 31), (31, oK (.int (-1)) 32), (32, oIret), (33, oIl 2 34), (34, oIl 3 35), (35, oIl 5 37), (37, oCallS mX11_isPart 3 40), (40, oIf1ne 45 43), (43, oK (.int (-1)) 44), (44, oIret), (45, oAl 0 46), (46, oGet 11 7 49), (49, oIl 1 50), (50, oIl 2 51), (51, oIl 3 52), (52, oIl 4 54), (54, oCallV 7 mX7_add 4 57), (57, oIret)]
def uX11_show : Nat → qP := q_tb lX11_show
set_option maxRecDepth 20000 in
theorem suX11_show : q_Snd mX11_show uX11_show := by
  refine q_tb_ok ?_
  unfold lX11_show
  refine q_fa (ok_iload_n (by decide +kernel : decode cX11_show 0 = .ok (.iload_n 1, 1)) rfl rfl) ?_
  refine q_fa (ok_callS (by decide +kernel : decode cX11_show 1 = .ok (.invokestatic 129, 3)) rfl kX11_lengthOf.1 kX11_lengthOf.2.1 kX11_lengthOf.2.2.1 kX11_lengthOf.2.2.2.1 kX11_lengthOf.2.2.2.2 g487 g486) ?_
  refine q_fa (ok_istore (by decide +kernel : decode cX11_show 4 = .ok (.istore 5, 2)) rfl (by decide)) ?_
  refine q_fa (ok_iload (by decide +kernel : decode cX11_show 6 = .ok (.iload 5, 2)) rfl) ?_
  refine q_fa (ok_if1lt (by decide +kernel : decode cX11_show 8 = .ok (.ifCond .lt 23, 3)) (by decide) rfl) ?_
  refine q_fa (ok_iload (by decide +kernel : decode cX11_show 11 = .ok (.iload 5, 2)) rfl) ?_
  refine q_fa (ok_bipush (by decide +kernel : decode cX11_show 13 = .ok (.bipush 6, 2)) rfl (by decide +kernel)) ?_
  refine q_fa (ok_if2gt (by decide +kernel : decode cX11_show 15 = .ok (.if_icmp .gt 16, 3)) (by decide) rfl) ?_
  refine q_fa (ok_iload (by decide +kernel : decode cX11_show 18 = .ok (.iload 4, 2)) rfl) ?_
  refine q_fa (ok_iconst (by decide +kernel : decode cX11_show 20 = .ok (.iconst 1, 1)) rfl (by decide +kernel)) ?_
  refine q_fa (ok_if2lt (by decide +kernel : decode cX11_show 21 = .ok (.if_icmp .lt 10, 3)) (by decide) rfl) ?_
  refine q_fa (ok_iload (by decide +kernel : decode cX11_show 24 = .ok (.iload 4, 2)) rfl) ?_
  refine q_fa (ok_bipush (by decide +kernel : decode cX11_show 26 = .ok (.bipush 99, 2)) rfl (by decide +kernel)) ?_
  refine q_fa (ok_if2le (by decide +kernel : decode cX11_show 28 = .ok (.if_icmp .le 5, 3)) (by decide) rfl) ?_
  refine q_fa (ok_iconst (by decide +kernel : decode cX11_show 31 = .ok (.iconst (-1), 1)) rfl (by decide +kernel)) ?_
  refine q_fa (ok_iret (by decide +kernel : decode cX11_show 32 = .ok (.ireturn, 1)) rfl) ?_
  refine q_fa (ok_iload_n (by decide +kernel : decode cX11_show 33 = .ok (.iload_n 2, 1)) rfl rfl) ?_
  refine q_fa (ok_iload_n (by decide +kernel : decode cX11_show 34 = .ok (.iload_n 3, 1)) rfl rfl) ?_
  refine q_fa (ok_iload (by decide +kernel : decode cX11_show 35 = .ok (.iload 5, 2)) rfl) ?_
  refine q_fa (ok_callS (by decide +kernel : decode cX11_show 37 = .ok (.invokestatic 157, 3)) rfl kX11_isPart.1 kX11_isPart.2.1 kX11_isPart.2.2.1 kX11_isPart.2.2.2.1 kX11_isPart.2.2.2.2 g621 g620) ?_
  refine q_fa (ok_if1ne (by decide +kernel : decode cX11_show 40 = .ok (.ifCond .ne 5, 3)) (by decide) rfl) ?_
  refine q_fa (ok_iconst (by decide +kernel : decode cX11_show 43 = .ok (.iconst (-1), 1)) rfl (by decide +kernel)) ?_
  refine q_fa (ok_iret (by decide +kernel : decode cX11_show 44 = .ok (.ireturn, 1)) rfl) ?_
  refine q_fa (ok_aload_n (by decide +kernel : decode cX11_show 45 = .ok (.aload_n 0, 1)) rfl rfl) ?_
  refine q_fa (ok_get (by decide +kernel : decode cX11_show 46 = .ok (.getfield 58, 3)) rfl (rfl : vwCl[11]? = some (RX11, TX11, 11)) inX11 (by decide) g185) ?_
  refine q_fa (ok_iload_n (by decide +kernel : decode cX11_show 49 = .ok (.iload_n 1, 1)) rfl rfl) ?_
  refine q_fa (ok_iload_n (by decide +kernel : decode cX11_show 50 = .ok (.iload_n 2, 1)) rfl rfl) ?_
  refine q_fa (ok_iload_n (by decide +kernel : decode cX11_show 51 = .ok (.iload_n 3, 1)) rfl rfl) ?_
  refine q_fa (ok_iload (by decide +kernel : decode cX11_show 52 = .ok (.iload 4, 2)) rfl) ?_
  refine q_fa (ok_callV (by decide +kernel : decode cX11_show 54 = .ok (.invokevirtual 161, 3)) rfl kX7_add.1 kX7_add.2.1 kX7_add.2.2.1 kX7_add.2.2.2.1 kX7_add.2.2.2.2 (rfl : vwCl[7]? = some (RX7, TX7, 6)) g624 g625 g623) ?_
  refine q_fa (ok_iret (by decide +kernel : decode cX11_show 57 = .ok (.ireturn, 1)) rfl) ?_
  exact q_fa0
theorem exX11_show : ∃ t : Nat → qP, t = uX11_show := ⟨_, rfl⟩
noncomputable def tX11_show : Nat → qP := Classical.choose exX11_show
theorem teX11_show : tX11_show = uX11_show := Classical.choose_spec exX11_show
theorem sX11_show : q_Snd mX11_show tX11_show := by rw [teX11_show]; exact suX11_show
theorem tX11_show_0 : tX11_show 0 = oIl 1 1 := (congrFun teX11_show 0).trans rfl
theorem tX11_show_1 : tX11_show 1 = oCallS mX11_lengthOf 1 4 := (congrFun teX11_show 1).trans rfl
theorem tX11_show_4 : tX11_show 4 = oIs 5 6 := (congrFun teX11_show 4).trans rfl
theorem tX11_show_6 : tX11_show 6 = oIl 5 8 := (congrFun teX11_show 6).trans rfl
theorem tX11_show_8 : tX11_show 8 = oIf1lt 31 11 := (congrFun teX11_show 8).trans rfl
theorem tX11_show_11 : tX11_show 11 = oIl 5 13 := (congrFun teX11_show 11).trans rfl
theorem tX11_show_13 : tX11_show 13 = oK (.int (nI 6)) 15 := (congrFun teX11_show 13).trans rfl
theorem tX11_show_15 : tX11_show 15 = oIf2gt 31 18 := (congrFun teX11_show 15).trans rfl
theorem tX11_show_18 : tX11_show 18 = oIl 4 20 := (congrFun teX11_show 18).trans rfl
theorem tX11_show_20 : tX11_show 20 = oK (.int (nI 1)) 21 := (congrFun teX11_show 20).trans rfl
theorem tX11_show_21 : tX11_show 21 = oIf2lt 31 24 := (congrFun teX11_show 21).trans rfl
theorem tX11_show_24 : tX11_show 24 = oIl 4 26 := (congrFun teX11_show 24).trans rfl
theorem tX11_show_26 : tX11_show 26 = oK (.int (nI 99)) 28 := (congrFun teX11_show 26).trans rfl
theorem tX11_show_28 : tX11_show 28 = oIf2le 33 31 := (congrFun teX11_show 28).trans rfl
theorem tX11_show_31 : tX11_show 31 = oK (.int (-1)) 32 := (congrFun teX11_show 31).trans rfl
theorem tX11_show_32 : tX11_show 32 = oIret := (congrFun teX11_show 32).trans rfl
theorem tX11_show_33 : tX11_show 33 = oIl 2 34 := (congrFun teX11_show 33).trans rfl
theorem tX11_show_34 : tX11_show 34 = oIl 3 35 := (congrFun teX11_show 34).trans rfl
theorem tX11_show_35 : tX11_show 35 = oIl 5 37 := (congrFun teX11_show 35).trans rfl
theorem tX11_show_37 : tX11_show 37 = oCallS mX11_isPart 3 40 := (congrFun teX11_show 37).trans rfl
theorem tX11_show_40 : tX11_show 40 = oIf1ne 45 43 := (congrFun teX11_show 40).trans rfl
theorem tX11_show_43 : tX11_show 43 = oK (.int (-1)) 44 := (congrFun teX11_show 43).trans rfl
theorem tX11_show_44 : tX11_show 44 = oIret := (congrFun teX11_show 44).trans rfl
theorem tX11_show_45 : tX11_show 45 = oAl 0 46 := (congrFun teX11_show 45).trans rfl
theorem tX11_show_46 : tX11_show 46 = oGet 11 7 49 := (congrFun teX11_show 46).trans rfl
theorem tX11_show_49 : tX11_show 49 = oIl 1 50 := (congrFun teX11_show 49).trans rfl
theorem tX11_show_50 : tX11_show 50 = oIl 2 51 := (congrFun teX11_show 50).trans rfl
theorem tX11_show_51 : tX11_show 51 = oIl 3 52 := (congrFun teX11_show 51).trans rfl
theorem tX11_show_52 : tX11_show 52 = oIl 4 54 := (congrFun teX11_show 52).trans rfl
theorem tX11_show_54 : tX11_show 54 = oCallV 7 mX7_add 4 57 := (congrFun teX11_show 54).trans rfl
theorem tX11_show_57 : tX11_show 57 = oIret := (congrFun teX11_show 57).trans rfl
def lX11_back : List (Nat × qP) := [(0, oAl 0 1), (1, oGet 11 7 4), (4, oIl 1 5), (5, oCallV 7 mX7_has 1 8), (8, oIf1eq 20 11), (11, oIl 2 12), (12, oIf1lt 20 15), (15, oIl 2 16), (16, oK (.int (nI 1)) 17), (17, oIf2le 22 20), (20, oK (.int (-1)) 21), (21, oIret), (22, oAl 0 23), (23, oGet 11 7 26), (26, oIl 1 27), (27, oIl 2 28), (28, oCallV 7 mX7_takeBack 2 31), (31, oIret)]
def uX11_back : Nat → qP := q_tb lX11_back
set_option maxRecDepth 20000 in
theorem suX11_back : q_Snd mX11_back uX11_back := by
  refine q_tb_ok ?_
  unfold lX11_back
  refine q_fa (ok_aload_n (by decide +kernel : decode cX11_back 0 = .ok (.aload_n 0, 1)) rfl rfl) ?_
  refine q_fa (ok_get (by decide +kernel : decode cX11_back 1 = .ok (.getfield 58, 3)) rfl (rfl : vwCl[11]? = some (RX11, TX11, 11)) inX11 (by decide) g185) ?_
  refine q_fa (ok_iload_n (by decide +kernel : decode cX11_back 4 = .ok (.iload_n 1, 1)) rfl rfl) ?_
  refine q_fa (ok_callV (by decide +kernel : decode cX11_back 5 = .ok (.invokevirtual 165, 3)) rfl kX7_has.1 kX7_has.2.1 kX7_has.2.2.1 kX7_has.2.2.2.1 kX7_has.2.2.2.2 (rfl : vwCl[7]? = some (RX7, TX7, 6)) g632 g633 g631) ?_
  refine q_fa (ok_if1eq (by decide +kernel : decode cX11_back 8 = .ok (.ifCond .eq 12, 3)) (by decide) rfl) ?_
  refine q_fa (ok_iload_n (by decide +kernel : decode cX11_back 11 = .ok (.iload_n 2, 1)) rfl rfl) ?_
  refine q_fa (ok_if1lt (by decide +kernel : decode cX11_back 12 = .ok (.ifCond .lt 8, 3)) (by decide) rfl) ?_
  refine q_fa (ok_iload_n (by decide +kernel : decode cX11_back 15 = .ok (.iload_n 2, 1)) rfl rfl) ?_
  refine q_fa (ok_iconst (by decide +kernel : decode cX11_back 16 = .ok (.iconst 1, 1)) rfl (by decide +kernel)) ?_
  refine q_fa (ok_if2le (by decide +kernel : decode cX11_back 17 = .ok (.if_icmp .le 5, 3)) (by decide) rfl) ?_
  refine q_fa (ok_iconst (by decide +kernel : decode cX11_back 20 = .ok (.iconst (-1), 1)) rfl (by decide +kernel)) ?_
  refine q_fa (ok_iret (by decide +kernel : decode cX11_back 21 = .ok (.ireturn, 1)) rfl) ?_
  refine q_fa (ok_aload_n (by decide +kernel : decode cX11_back 22 = .ok (.aload_n 0, 1)) rfl rfl) ?_
  refine q_fa (ok_get (by decide +kernel : decode cX11_back 23 = .ok (.getfield 58, 3)) rfl (rfl : vwCl[11]? = some (RX11, TX11, 11)) inX11 (by decide) g185) ?_
  refine q_fa (ok_iload_n (by decide +kernel : decode cX11_back 26 = .ok (.iload_n 1, 1)) rfl rfl) ?_
  refine q_fa (ok_iload_n (by decide +kernel : decode cX11_back 27 = .ok (.iload_n 2, 1)) rfl rfl) ?_
  refine q_fa (ok_callV (by decide +kernel : decode cX11_back 28 = .ok (.invokevirtual 168, 3)) rfl kX7_takeBack.1 kX7_takeBack.2.1 kX7_takeBack.2.2.1 kX7_takeBack.2.2.2.1 kX7_takeBack.2.2.2.2 (rfl : vwCl[7]? = some (RX7, TX7, 6)) g636 g637 g635) ?_
  refine q_fa (ok_iret (by decide +kernel : decode cX11_back 31 = .ok (.ireturn, 1)) rfl) ?_
  exact q_fa0
theorem exX11_back : ∃ t : Nat → qP, t = uX11_back := ⟨_, rfl⟩
noncomputable def tX11_back : Nat → qP := Classical.choose exX11_back
theorem teX11_back : tX11_back = uX11_back := Classical.choose_spec exX11_back
theorem sX11_back : q_Snd mX11_back tX11_back := by rw [teX11_back]; exact suX11_back
theorem tX11_back_0 : tX11_back 0 = oAl 0 1 := (congrFun teX11_back 0).trans rfl
theorem tX11_back_1 : tX11_back 1 = oGet 11 7 4 := (congrFun teX11_back 1).trans rfl
theorem tX11_back_4 : tX11_back 4 = oIl 1 5 := (congrFun teX11_back 4).trans rfl
theorem tX11_back_5 : tX11_back 5 = oCallV 7 mX7_has 1 8 := (congrFun teX11_back 5).trans rfl
theorem tX11_back_8 : tX11_back 8 = oIf1eq 20 11 := (congrFun teX11_back 8).trans rfl
theorem tX11_back_11 : tX11_back 11 = oIl 2 12 := (congrFun teX11_back 11).trans rfl
theorem tX11_back_12 : tX11_back 12 = oIf1lt 20 15 := (congrFun teX11_back 12).trans rfl
theorem tX11_back_15 : tX11_back 15 = oIl 2 16 := (congrFun teX11_back 15).trans rfl
theorem tX11_back_16 : tX11_back 16 = oK (.int (nI 1)) 17 := (congrFun teX11_back 16).trans rfl
theorem tX11_back_17 : tX11_back 17 = oIf2le 22 20 := (congrFun teX11_back 17).trans rfl
theorem tX11_back_20 : tX11_back 20 = oK (.int (-1)) 21 := (congrFun teX11_back 20).trans rfl
theorem tX11_back_21 : tX11_back 21 = oIret := (congrFun teX11_back 21).trans rfl
theorem tX11_back_22 : tX11_back 22 = oAl 0 23 := (congrFun teX11_back 22).trans rfl
theorem tX11_back_23 : tX11_back 23 = oGet 11 7 26 := (congrFun teX11_back 23).trans rfl
theorem tX11_back_26 : tX11_back 26 = oIl 1 27 := (congrFun teX11_back 26).trans rfl
theorem tX11_back_27 : tX11_back 27 = oIl 2 28 := (congrFun teX11_back 27).trans rfl
theorem tX11_back_28 : tX11_back 28 = oCallV 7 mX7_takeBack 2 31 := (congrFun teX11_back 28).trans rfl
theorem tX11_back_31 : tX11_back 31 = oIret := (congrFun teX11_back 31).trans rfl
def lX11_agrees : List (Nat × qP) := [(0, oAl 0 1), (1, oIl 1 2), (2, oCallV 11 mX11_patternAt 1 5), (5, oAs 3 6), (6, oAl 3 7), (7, oIfn 21 10), (10, oAl 0 11), (11, oGet 11 7 14), (14, oIl 2 15), (15, oCallV 7 mX7_has 1 18), (18, oIf1ne 23 21), (21, oK (.int (-1)) 22), (22, oIret), (23, oAl 0 24), (24, oAl 3 25), (25, oIl 2 26), (26, oCallV 11 mX11_agreesWith 2 29), (29, oIf1eq 36 32), (32, oK (.int (nI 1)) 33), (33, oGo 37), (36, oK (.int (nI 0)) 37), (37, oIret)]
def uX11_agrees : Nat → qP := q_tb lX11_agrees
set_option maxRecDepth 20000 in
theorem suX11_agrees : q_Snd mX11_agrees uX11_agrees := by
  refine q_tb_ok ?_
  unfold lX11_agrees
  refine q_fa (ok_aload_n (by decide +kernel : decode cX11_agrees 0 = .ok (.aload_n 0, 1)) rfl rfl) ?_
  refine q_fa (ok_iload_n (by decide +kernel : decode cX11_agrees 1 = .ok (.iload_n 1, 1)) rfl rfl) ?_
  refine q_fa (ok_callV (by decide +kernel : decode cX11_agrees 2 = .ok (.invokevirtual 92, 3)) rfl kX11_patternAt.1 kX11_patternAt.2.1 kX11_patternAt.2.2.1 kX11_patternAt.2.2.2.1 kX11_patternAt.2.2.2.2 (rfl : vwCl[11]? = some (RX11, TX11, 11)) g345 gs11 g343) ?_
  refine q_fa (ok_astore_n (by decide +kernel : decode cX11_agrees 5 = .ok (.astore_n 3, 1)) rfl rfl (by decide)) ?_
  refine q_fa (ok_aload_n (by decide +kernel : decode cX11_agrees 6 = .ok (.aload_n 3, 1)) rfl rfl) ?_
  refine q_fa (ok_ifnull (by decide +kernel : decode cX11_agrees 7 = .ok (.ifnull 14, 3)) (by decide) rfl) ?_
  refine q_fa (ok_aload_n (by decide +kernel : decode cX11_agrees 10 = .ok (.aload_n 0, 1)) rfl rfl) ?_
  refine q_fa (ok_get (by decide +kernel : decode cX11_agrees 11 = .ok (.getfield 58, 3)) rfl (rfl : vwCl[11]? = some (RX11, TX11, 11)) inX11 (by decide) g185) ?_
  refine q_fa (ok_iload_n (by decide +kernel : decode cX11_agrees 14 = .ok (.iload_n 2, 1)) rfl rfl) ?_
  refine q_fa (ok_callV (by decide +kernel : decode cX11_agrees 15 = .ok (.invokevirtual 165, 3)) rfl kX7_has.1 kX7_has.2.1 kX7_has.2.2.1 kX7_has.2.2.2.1 kX7_has.2.2.2.2 (rfl : vwCl[7]? = some (RX7, TX7, 6)) g632 g633 g631) ?_
  refine q_fa (ok_if1ne (by decide +kernel : decode cX11_agrees 18 = .ok (.ifCond .ne 5, 3)) (by decide) rfl) ?_
  refine q_fa (ok_iconst (by decide +kernel : decode cX11_agrees 21 = .ok (.iconst (-1), 1)) rfl (by decide +kernel)) ?_
  refine q_fa (ok_iret (by decide +kernel : decode cX11_agrees 22 = .ok (.ireturn, 1)) rfl) ?_
  refine q_fa (ok_aload_n (by decide +kernel : decode cX11_agrees 23 = .ok (.aload_n 0, 1)) rfl rfl) ?_
  refine q_fa (ok_aload_n (by decide +kernel : decode cX11_agrees 24 = .ok (.aload_n 3, 1)) rfl rfl) ?_
  refine q_fa (ok_iload_n (by decide +kernel : decode cX11_agrees 25 = .ok (.iload_n 2, 1)) rfl rfl) ?_
  refine q_fa (ok_callV (by decide +kernel : decode cX11_agrees 26 = .ok (.invokevirtual 171, 3)) rfl kX11_agreesWith.1 kX11_agreesWith.2.1 kX11_agreesWith.2.2.1 kX11_agreesWith.2.2.2.1 kX11_agreesWith.2.2.2.2 (rfl : vwCl[11]? = some (RX11, TX11, 11)) g645 gs28 g643) ?_
  refine q_fa (ok_if1eq (by decide +kernel : decode cX11_agrees 29 = .ok (.ifCond .eq 7, 3)) (by decide) rfl) ?_
  refine q_fa (ok_iconst (by decide +kernel : decode cX11_agrees 32 = .ok (.iconst 1, 1)) rfl (by decide +kernel)) ?_
  refine q_fa (ok_goto (by decide +kernel : decode cX11_agrees 33 = .ok (.goto 4, 3)) (by decide)) ?_
  refine q_fa (ok_iconst (by decide +kernel : decode cX11_agrees 36 = .ok (.iconst 0, 1)) rfl (by decide +kernel)) ?_
  refine q_fa (ok_iret (by decide +kernel : decode cX11_agrees 37 = .ok (.ireturn, 1)) rfl) ?_
  exact q_fa0
theorem exX11_agrees : ∃ t : Nat → qP, t = uX11_agrees := ⟨_, rfl⟩
noncomputable def tX11_agrees : Nat → qP := Classical.choose exX11_agrees
theorem teX11_agrees : tX11_agrees = uX11_agrees := Classical.choose_spec exX11_agrees
theorem sX11_agrees : q_Snd mX11_agrees tX11_agrees := by rw [teX11_agrees]; exact suX11_agrees
theorem tX11_agrees_0 : tX11_agrees 0 = oAl 0 1 := (congrFun teX11_agrees 0).trans rfl
theorem tX11_agrees_1 : tX11_agrees 1 = oIl 1 2 := (congrFun teX11_agrees 1).trans rfl
theorem tX11_agrees_2 : tX11_agrees 2 = oCallV 11 mX11_patternAt 1 5 := (congrFun teX11_agrees 2).trans rfl
theorem tX11_agrees_5 : tX11_agrees 5 = oAs 3 6 := (congrFun teX11_agrees 5).trans rfl
theorem tX11_agrees_6 : tX11_agrees 6 = oAl 3 7 := (congrFun teX11_agrees 6).trans rfl
theorem tX11_agrees_7 : tX11_agrees 7 = oIfn 21 10 := (congrFun teX11_agrees 7).trans rfl
theorem tX11_agrees_10 : tX11_agrees 10 = oAl 0 11 := (congrFun teX11_agrees 10).trans rfl
theorem tX11_agrees_11 : tX11_agrees 11 = oGet 11 7 14 := (congrFun teX11_agrees 11).trans rfl
theorem tX11_agrees_14 : tX11_agrees 14 = oIl 2 15 := (congrFun teX11_agrees 14).trans rfl
theorem tX11_agrees_15 : tX11_agrees 15 = oCallV 7 mX7_has 1 18 := (congrFun teX11_agrees 15).trans rfl
theorem tX11_agrees_18 : tX11_agrees 18 = oIf1ne 23 21 := (congrFun teX11_agrees 18).trans rfl
theorem tX11_agrees_21 : tX11_agrees 21 = oK (.int (-1)) 22 := (congrFun teX11_agrees 21).trans rfl
theorem tX11_agrees_22 : tX11_agrees 22 = oIret := (congrFun teX11_agrees 22).trans rfl
theorem tX11_agrees_23 : tX11_agrees 23 = oAl 0 24 := (congrFun teX11_agrees 23).trans rfl
theorem tX11_agrees_24 : tX11_agrees 24 = oAl 3 25 := (congrFun teX11_agrees 24).trans rfl
theorem tX11_agrees_25 : tX11_agrees 25 = oIl 2 26 := (congrFun teX11_agrees 25).trans rfl
theorem tX11_agrees_26 : tX11_agrees 26 = oCallV 11 mX11_agreesWith 2 29 := (congrFun teX11_agrees 26).trans rfl
theorem tX11_agrees_29 : tX11_agrees 29 = oIf1eq 36 32 := (congrFun teX11_agrees 29).trans rfl
theorem tX11_agrees_32 : tX11_agrees 32 = oK (.int (nI 1)) 33 := (congrFun teX11_agrees 32).trans rfl
theorem tX11_agrees_33 : tX11_agrees 33 = oGo 37 := (congrFun teX11_agrees 33).trans rfl
theorem tX11_agrees_36 : tX11_agrees 36 = oK (.int (nI 0)) 37 := (congrFun teX11_agrees 36).trans rfl
theorem tX11_agrees_37 : tX11_agrees 37 = oIret := (congrFun teX11_agrees 37).trans rfl
def lX11_paid : List (Nat × qP) := [(0, oAl 0 1), (1, oIl 1 2), (2, oCallV 11 mX11_patternAt 1 5), (5, oAs 2 6), (6, oAl 2 7), (7, oIfnn 12 10), (10, oK (.int (-1)) 11), (11, oIret), (12, oK (.int (nI 0)) 13), (13, oIs 3 14), (14, oK (.int (nI 0)) 15), (15, oIs 4 17), (17, oIl 4 19), (19, oAl 0 20), (20, oGet 11 7 23), (23, oCallV 7 mX7_size 0 26), (26, oIf2ge 52 29), (29, oAl 0 30), (30, oAl 2 31), (31, oIl 4 33), (33, oCallV 11 mX11_agreesWith 2 36), (36, oIf1ne 46 39), (39, oIl 3 40), (40, oK (.int (nI 1)) 41), (41, oIl 4 43), (43, oShl 44), (44, oOr 45), (45, oIs 3 46), (46, oInc 4 (nI 1) 49), (49, oGo 17), (52, oAl 0 53), (53, oGet 11 7 56), (56, oIl 3 57), (57, oAl 0 58), (58, oGet 11 7 61), (61, oCallV 7 mX7_standing 0 64), (64, oAnd 65), (65, oCallV 7 mX7_priceOf 1 68), (68, oIret)]
def uX11_paid : Nat → qP := q_tb lX11_paid
set_option maxRecDepth 20000 in
theorem suX11_paid : q_Snd mX11_paid uX11_paid := by
  refine q_tb_ok ?_
  unfold lX11_paid
  refine q_fa (ok_aload_n (by decide +kernel : decode cX11_paid 0 = .ok (.aload_n 0, 1)) rfl rfl) ?_
  refine q_fa (ok_iload_n (by decide +kernel : decode cX11_paid 1 = .ok (.iload_n 1, 1)) rfl rfl) ?_
  refine q_fa (ok_callV (by decide +kernel : decode cX11_paid 2 = .ok (.invokevirtual 92, 3)) rfl kX11_patternAt.1 kX11_patternAt.2.1 kX11_patternAt.2.2.1 kX11_patternAt.2.2.2.1 kX11_patternAt.2.2.2.2 (rfl : vwCl[11]? = some (RX11, TX11, 11)) g345 gs11 g343) ?_
  refine q_fa (ok_astore_n (by decide +kernel : decode cX11_paid 5 = .ok (.astore_n 2, 1)) rfl rfl (by decide)) ?_
  refine q_fa (ok_aload_n (by decide +kernel : decode cX11_paid 6 = .ok (.aload_n 2, 1)) rfl rfl) ?_
  refine q_fa (ok_ifnonnull (by decide +kernel : decode cX11_paid 7 = .ok (.ifnonnull 5, 3)) (by decide) rfl) ?_
  refine q_fa (ok_iconst (by decide +kernel : decode cX11_paid 10 = .ok (.iconst (-1), 1)) rfl (by decide +kernel)) ?_
  refine q_fa (ok_iret (by decide +kernel : decode cX11_paid 11 = .ok (.ireturn, 1)) rfl) ?_
  refine q_fa (ok_iconst (by decide +kernel : decode cX11_paid 12 = .ok (.iconst 0, 1)) rfl (by decide +kernel)) ?_
  refine q_fa (ok_istore_n (by decide +kernel : decode cX11_paid 13 = .ok (.istore_n 3, 1)) rfl rfl (by decide)) ?_
  refine q_fa (ok_iconst (by decide +kernel : decode cX11_paid 14 = .ok (.iconst 0, 1)) rfl (by decide +kernel)) ?_
  refine q_fa (ok_istore (by decide +kernel : decode cX11_paid 15 = .ok (.istore 4, 2)) rfl (by decide)) ?_
  refine q_fa (ok_iload (by decide +kernel : decode cX11_paid 17 = .ok (.iload 4, 2)) rfl) ?_
  refine q_fa (ok_aload_n (by decide +kernel : decode cX11_paid 19 = .ok (.aload_n 0, 1)) rfl rfl) ?_
  refine q_fa (ok_get (by decide +kernel : decode cX11_paid 20 = .ok (.getfield 58, 3)) rfl (rfl : vwCl[11]? = some (RX11, TX11, 11)) inX11 (by decide) g185) ?_
  refine q_fa (ok_callV (by decide +kernel : decode cX11_paid 23 = .ok (.invokevirtual 175, 3)) rfl kX7_size.1 kX7_size.2.1 kX7_size.2.2.1 kX7_size.2.2.2.1 kX7_size.2.2.2.2 (rfl : vwCl[7]? = some (RX7, TX7, 6)) g708 g709 g707) ?_
  refine q_fa (ok_if2ge (by decide +kernel : decode cX11_paid 26 = .ok (.if_icmp .ge 26, 3)) (by decide) rfl) ?_
  refine q_fa (ok_aload_n (by decide +kernel : decode cX11_paid 29 = .ok (.aload_n 0, 1)) rfl rfl) ?_
  refine q_fa (ok_aload_n (by decide +kernel : decode cX11_paid 30 = .ok (.aload_n 2, 1)) rfl rfl) ?_
  refine q_fa (ok_iload (by decide +kernel : decode cX11_paid 31 = .ok (.iload 4, 2)) rfl) ?_
  refine q_fa (ok_callV (by decide +kernel : decode cX11_paid 33 = .ok (.invokevirtual 171, 3)) rfl kX11_agreesWith.1 kX11_agreesWith.2.1 kX11_agreesWith.2.2.1 kX11_agreesWith.2.2.2.1 kX11_agreesWith.2.2.2.2 (rfl : vwCl[11]? = some (RX11, TX11, 11)) g645 gs28 g643) ?_
  refine q_fa (ok_if1ne (by decide +kernel : decode cX11_paid 36 = .ok (.ifCond .ne 10, 3)) (by decide) rfl) ?_
  refine q_fa (ok_iload_n (by decide +kernel : decode cX11_paid 39 = .ok (.iload_n 3, 1)) rfl rfl) ?_
  refine q_fa (ok_iconst (by decide +kernel : decode cX11_paid 40 = .ok (.iconst 1, 1)) rfl (by decide +kernel)) ?_
  refine q_fa (ok_iload (by decide +kernel : decode cX11_paid 41 = .ok (.iload 4, 2)) rfl) ?_
  refine q_fa (ok_ishl (by decide +kernel : decode cX11_paid 43 = .ok (.ishl, 1)) rfl) ?_
  refine q_fa (ok_ior (by decide +kernel : decode cX11_paid 44 = .ok (.ior, 1)) rfl) ?_
  refine q_fa (ok_istore_n (by decide +kernel : decode cX11_paid 45 = .ok (.istore_n 3, 1)) rfl rfl (by decide)) ?_
  refine q_fa (ok_iinc (by decide +kernel : decode cX11_paid 46 = .ok (.iinc 4 1, 3)) rfl (by decide +kernel) (by decide)) ?_
  refine q_fa (ok_goto (by decide +kernel : decode cX11_paid 49 = .ok (.goto (-32), 3)) (by decide)) ?_
  refine q_fa (ok_aload_n (by decide +kernel : decode cX11_paid 52 = .ok (.aload_n 0, 1)) rfl rfl) ?_
  refine q_fa (ok_get (by decide +kernel : decode cX11_paid 53 = .ok (.getfield 58, 3)) rfl (rfl : vwCl[11]? = some (RX11, TX11, 11)) inX11 (by decide) g185) ?_
  refine q_fa (ok_iload_n (by decide +kernel : decode cX11_paid 56 = .ok (.iload_n 3, 1)) rfl rfl) ?_
  refine q_fa (ok_aload_n (by decide +kernel : decode cX11_paid 57 = .ok (.aload_n 0, 1)) rfl rfl) ?_
  refine q_fa (ok_get (by decide +kernel : decode cX11_paid 58 = .ok (.getfield 58, 3)) rfl (rfl : vwCl[11]? = some (RX11, TX11, 11)) inX11 (by decide) g185) ?_
  refine q_fa (ok_callV (by decide +kernel : decode cX11_paid 61 = .ok (.invokevirtual 176, 3)) rfl kX7_standing.1 kX7_standing.2.1 kX7_standing.2.2.1 kX7_standing.2.2.2.1 kX7_standing.2.2.2.2 (rfl : vwCl[7]? = some (RX7, TX7, 6)) g712 g713 g711) ?_
  refine q_fa (ok_iand (by decide +kernel : decode cX11_paid 64 = .ok (.iand, 1)) rfl) ?_
  refine q_fa (ok_callV (by decide +kernel : decode cX11_paid 65 = .ok (.invokevirtual 179, 3)) rfl kX7_priceOf.1 kX7_priceOf.2.1 kX7_priceOf.2.2.1 kX7_priceOf.2.2.2.1 kX7_priceOf.2.2.2.2 (rfl : vwCl[7]? = some (RX7, TX7, 6)) g716 g717 g715) ?_
  refine q_fa (ok_iret (by decide +kernel : decode cX11_paid 68 = .ok (.ireturn, 1)) rfl) ?_
  exact q_fa0
theorem exX11_paid : ∃ t : Nat → qP, t = uX11_paid := ⟨_, rfl⟩
noncomputable def tX11_paid : Nat → qP := Classical.choose exX11_paid
theorem teX11_paid : tX11_paid = uX11_paid := Classical.choose_spec exX11_paid
theorem sX11_paid : q_Snd mX11_paid tX11_paid := by rw [teX11_paid]; exact suX11_paid
theorem tX11_paid_0 : tX11_paid 0 = oAl 0 1 := (congrFun teX11_paid 0).trans rfl
theorem tX11_paid_1 : tX11_paid 1 = oIl 1 2 := (congrFun teX11_paid 1).trans rfl
theorem tX11_paid_2 : tX11_paid 2 = oCallV 11 mX11_patternAt 1 5 := (congrFun teX11_paid 2).trans rfl
theorem tX11_paid_5 : tX11_paid 5 = oAs 2 6 := (congrFun teX11_paid 5).trans rfl
theorem tX11_paid_6 : tX11_paid 6 = oAl 2 7 := (congrFun teX11_paid 6).trans rfl
theorem tX11_paid_7 : tX11_paid 7 = oIfnn 12 10 := (congrFun teX11_paid 7).trans rfl
theorem tX11_paid_10 : tX11_paid 10 = oK (.int (-1)) 11 := (congrFun teX11_paid 10).trans rfl
theorem tX11_paid_11 : tX11_paid 11 = oIret := (congrFun teX11_paid 11).trans rfl
theorem tX11_paid_12 : tX11_paid 12 = oK (.int (nI 0)) 13 := (congrFun teX11_paid 12).trans rfl
theorem tX11_paid_13 : tX11_paid 13 = oIs 3 14 := (congrFun teX11_paid 13).trans rfl
theorem tX11_paid_14 : tX11_paid 14 = oK (.int (nI 0)) 15 := (congrFun teX11_paid 14).trans rfl
theorem tX11_paid_15 : tX11_paid 15 = oIs 4 17 := (congrFun teX11_paid 15).trans rfl
theorem tX11_paid_17 : tX11_paid 17 = oIl 4 19 := (congrFun teX11_paid 17).trans rfl
theorem tX11_paid_19 : tX11_paid 19 = oAl 0 20 := (congrFun teX11_paid 19).trans rfl
theorem tX11_paid_20 : tX11_paid 20 = oGet 11 7 23 := (congrFun teX11_paid 20).trans rfl
theorem tX11_paid_23 : tX11_paid 23 = oCallV 7 mX7_size 0 26 := (congrFun teX11_paid 23).trans rfl
theorem tX11_paid_26 : tX11_paid 26 = oIf2ge 52 29 := (congrFun teX11_paid 26).trans rfl
theorem tX11_paid_29 : tX11_paid 29 = oAl 0 30 := (congrFun teX11_paid 29).trans rfl
theorem tX11_paid_30 : tX11_paid 30 = oAl 2 31 := (congrFun teX11_paid 30).trans rfl
theorem tX11_paid_31 : tX11_paid 31 = oIl 4 33 := (congrFun teX11_paid 31).trans rfl
theorem tX11_paid_33 : tX11_paid 33 = oCallV 11 mX11_agreesWith 2 36 := (congrFun teX11_paid 33).trans rfl
theorem tX11_paid_36 : tX11_paid 36 = oIf1ne 46 39 := (congrFun teX11_paid 36).trans rfl
theorem tX11_paid_39 : tX11_paid 39 = oIl 3 40 := (congrFun teX11_paid 39).trans rfl
theorem tX11_paid_40 : tX11_paid 40 = oK (.int (nI 1)) 41 := (congrFun teX11_paid 40).trans rfl
theorem tX11_paid_41 : tX11_paid 41 = oIl 4 43 := (congrFun teX11_paid 41).trans rfl
theorem tX11_paid_43 : tX11_paid 43 = oShl 44 := (congrFun teX11_paid 43).trans rfl
theorem tX11_paid_44 : tX11_paid 44 = oOr 45 := (congrFun teX11_paid 44).trans rfl
theorem tX11_paid_45 : tX11_paid 45 = oIs 3 46 := (congrFun teX11_paid 45).trans rfl
theorem tX11_paid_46 : tX11_paid 46 = oInc 4 (nI 1) 49 := (congrFun teX11_paid 46).trans rfl
theorem tX11_paid_49 : tX11_paid 49 = oGo 17 := (congrFun teX11_paid 49).trans rfl
theorem tX11_paid_52 : tX11_paid 52 = oAl 0 53 := (congrFun teX11_paid 52).trans rfl
theorem tX11_paid_53 : tX11_paid 53 = oGet 11 7 56 := (congrFun teX11_paid 53).trans rfl
theorem tX11_paid_56 : tX11_paid 56 = oIl 3 57 := (congrFun teX11_paid 56).trans rfl
theorem tX11_paid_57 : tX11_paid 57 = oAl 0 58 := (congrFun teX11_paid 57).trans rfl
theorem tX11_paid_58 : tX11_paid 58 = oGet 11 7 61 := (congrFun teX11_paid 58).trans rfl
theorem tX11_paid_61 : tX11_paid 61 = oCallV 7 mX7_standing 0 64 := (congrFun teX11_paid 61).trans rfl
theorem tX11_paid_64 : tX11_paid 64 = oAnd 65 := (congrFun teX11_paid 64).trans rfl
theorem tX11_paid_65 : tX11_paid 65 = oCallV 7 mX7_priceOf 1 68 := (congrFun teX11_paid 65).trans rfl
theorem tX11_paid_68 : tX11_paid 68 = oIret := (congrFun teX11_paid 68).trans rfl
def lX11_find : List (Nat × qP) := [(0, oAl 0 1), (1, oIl 1 2), (2, oCallV 11 mX11_placeAt 1 5), (5, oAs 4 7), (7, oAl 4 9), (9, oIfn 26 12), (12, oIl 2 13), (13, oCallS mX11_isKinds 1 16), (16, oIf1eq 26 19), (19, oIl 3 20), (20, oCallS mX11_isCost 1 23), (23, oIf1ne 28 26), (26, oK (.int (-1)) 27), (27, oIret), (28, oAl 0 29), (29, oCallVA 11 mX11_theFinder 0 32), (32, oAs 5 34), (34, oAl 5 36), (36, oIl 2 37), (37, oIl 3 38), (38, oCallV 2 mX2_begin 2 41), (41, oAl 0 42), (42, oAl 4 44), (44, oAl 5 46), (46, oCallV 2 mX2_goOn 0 49), (49, oCallVA 11 mX11_putFound 2 52), (52, oIret)]
def uX11_find : Nat → qP := q_tb lX11_find
set_option maxRecDepth 20000 in
theorem suX11_find : q_Snd mX11_find uX11_find := by
  refine q_tb_ok ?_
  unfold lX11_find
  refine q_fa (ok_aload_n (by decide +kernel : decode cX11_find 0 = .ok (.aload_n 0, 1)) rfl rfl) ?_
  refine q_fa (ok_iload_n (by decide +kernel : decode cX11_find 1 = .ok (.iload_n 1, 1)) rfl rfl) ?_
  refine q_fa (ok_callV (by decide +kernel : decode cX11_find 2 = .ok (.invokevirtual 67, 3)) rfl kX11_placeAt.1 kX11_placeAt.2.1 kX11_placeAt.2.2.1 kX11_placeAt.2.2.2.1 kX11_placeAt.2.2.2.2 (rfl : vwCl[11]? = some (RX11, TX11, 11)) g230 gs1 g228) ?_
  refine q_fa (ok_astore (by decide +kernel : decode cX11_find 5 = .ok (.astore 4, 2)) rfl (by decide)) ?_
  refine q_fa (ok_aload (by decide +kernel : decode cX11_find 7 = .ok (.aload 4, 2)) rfl) ?_
  refine q_fa (ok_ifnull (by decide +kernel : decode cX11_find 9 = .ok (.ifnull 17, 3)) (by decide) rfl) ?_
  refine q_fa (ok_iload_n (by decide +kernel : decode cX11_find 12 = .ok (.iload_n 2, 1)) rfl rfl) ?_
  refine q_fa (ok_callS (by decide +kernel : decode cX11_find 13 = .ok (.invokestatic 182, 3)) rfl kX11_isKinds.1 kX11_isKinds.2.1 kX11_isKinds.2.2.1 kX11_isKinds.2.2.2.1 kX11_isKinds.2.2.2.2 g724 g723) ?_
  refine q_fa (ok_if1eq (by decide +kernel : decode cX11_find 16 = .ok (.ifCond .eq 10, 3)) (by decide) rfl) ?_
  refine q_fa (ok_iload_n (by decide +kernel : decode cX11_find 19 = .ok (.iload_n 3, 1)) rfl rfl) ?_
  refine q_fa (ok_callS (by decide +kernel : decode cX11_find 20 = .ok (.invokestatic 124, 3)) rfl kX11_isCost.1 kX11_isCost.2.1 kX11_isCost.2.2.1 kX11_isCost.2.2.2.1 kX11_isCost.2.2.2.2 g476 g475) ?_
  refine q_fa (ok_if1ne (by decide +kernel : decode cX11_find 23 = .ok (.ifCond .ne 5, 3)) (by decide) rfl) ?_
  refine q_fa (ok_iconst (by decide +kernel : decode cX11_find 26 = .ok (.iconst (-1), 1)) rfl (by decide +kernel)) ?_
  refine q_fa (ok_iret (by decide +kernel : decode cX11_find 27 = .ok (.ireturn, 1)) rfl) ?_
  refine q_fa (ok_aload_n (by decide +kernel : decode cX11_find 28 = .ok (.aload_n 0, 1)) rfl rfl) ?_
  refine q_fa (ok_callVA (by decide +kernel : decode cX11_find 29 = .ok (.invokevirtual 185, 3)) rfl kX11_theFinder.1 kX11_theFinder.2.1 kX11_theFinder.2.2.1 kX11_theFinder.2.2.2.1 kX11_theFinder.2.2.2.2 (rfl : vwCl[11]? = some (RX11, TX11, 11)) g728 gs31 g726) ?_
  refine q_fa (ok_astore (by decide +kernel : decode cX11_find 32 = .ok (.astore 5, 2)) rfl (by decide)) ?_
  refine q_fa (ok_aload (by decide +kernel : decode cX11_find 34 = .ok (.aload 5, 2)) rfl) ?_
  refine q_fa (ok_iload_n (by decide +kernel : decode cX11_find 36 = .ok (.iload_n 2, 1)) rfl rfl) ?_
  refine q_fa (ok_iload_n (by decide +kernel : decode cX11_find 37 = .ok (.iload_n 3, 1)) rfl rfl) ?_
  refine q_fa (ok_callV (by decide +kernel : decode cX11_find 38 = .ok (.invokevirtual 189, 3)) rfl kX2_begin.1 kX2_begin.2.1 kX2_begin.2.2.1 kX2_begin.2.2.2.1 kX2_begin.2.2.2.2 (rfl : vwCl[2]? = some (RX2, TX2, 17)) g867 g868 g866) ?_
  refine q_fa (ok_aload_n (by decide +kernel : decode cX11_find 41 = .ok (.aload_n 0, 1)) rfl rfl) ?_
  refine q_fa (ok_aload (by decide +kernel : decode cX11_find 42 = .ok (.aload 4, 2)) rfl) ?_
  refine q_fa (ok_aload (by decide +kernel : decode cX11_find 44 = .ok (.aload 5, 2)) rfl) ?_
  refine q_fa (ok_callV (by decide +kernel : decode cX11_find 46 = .ok (.invokevirtual 194, 3)) rfl kX2_goOn.1 kX2_goOn.2.1 kX2_goOn.2.2.1 kX2_goOn.2.2.2.1 kX2_goOn.2.2.2.2 (rfl : vwCl[2]? = some (RX2, TX2, 17)) g872 g873 g871) ?_
  refine q_fa (ok_callVA (by decide +kernel : decode cX11_find 49 = .ok (.invokevirtual 197, 3)) rfl kX11_putFound.1 kX11_putFound.2.1 kX11_putFound.2.2.1 kX11_putFound.2.2.2.1 kX11_putFound.2.2.2.2 (rfl : vwCl[11]? = some (RX11, TX11, 11)) g901 gs43 g899) ?_
  refine q_fa (ok_iret (by decide +kernel : decode cX11_find 52 = .ok (.ireturn, 1)) rfl) ?_
  exact q_fa0
theorem exX11_find : ∃ t : Nat → qP, t = uX11_find := ⟨_, rfl⟩
noncomputable def tX11_find : Nat → qP := Classical.choose exX11_find
theorem teX11_find : tX11_find = uX11_find := Classical.choose_spec exX11_find
theorem sX11_find : q_Snd mX11_find tX11_find := by rw [teX11_find]; exact suX11_find
theorem tX11_find_0 : tX11_find 0 = oAl 0 1 := (congrFun teX11_find 0).trans rfl
theorem tX11_find_1 : tX11_find 1 = oIl 1 2 := (congrFun teX11_find 1).trans rfl
theorem tX11_find_2 : tX11_find 2 = oCallV 11 mX11_placeAt 1 5 := (congrFun teX11_find 2).trans rfl
theorem tX11_find_5 : tX11_find 5 = oAs 4 7 := (congrFun teX11_find 5).trans rfl
theorem tX11_find_7 : tX11_find 7 = oAl 4 9 := (congrFun teX11_find 7).trans rfl
theorem tX11_find_9 : tX11_find 9 = oIfn 26 12 := (congrFun teX11_find 9).trans rfl
theorem tX11_find_12 : tX11_find 12 = oIl 2 13 := (congrFun teX11_find 12).trans rfl
theorem tX11_find_13 : tX11_find 13 = oCallS mX11_isKinds 1 16 := (congrFun teX11_find 13).trans rfl
theorem tX11_find_16 : tX11_find 16 = oIf1eq 26 19 := (congrFun teX11_find 16).trans rfl
theorem tX11_find_19 : tX11_find 19 = oIl 3 20 := (congrFun teX11_find 19).trans rfl
theorem tX11_find_20 : tX11_find 20 = oCallS mX11_isCost 1 23 := (congrFun teX11_find 20).trans rfl
theorem tX11_find_23 : tX11_find 23 = oIf1ne 28 26 := (congrFun teX11_find 23).trans rfl
theorem tX11_find_26 : tX11_find 26 = oK (.int (-1)) 27 := (congrFun teX11_find 26).trans rfl
theorem tX11_find_27 : tX11_find 27 = oIret := (congrFun teX11_find 27).trans rfl
theorem tX11_find_28 : tX11_find 28 = oAl 0 29 := (congrFun teX11_find 28).trans rfl
theorem tX11_find_29 : tX11_find 29 = oCallVA 11 mX11_theFinder 0 32 := (congrFun teX11_find 29).trans rfl
theorem tX11_find_32 : tX11_find 32 = oAs 5 34 := (congrFun teX11_find 32).trans rfl
theorem tX11_find_34 : tX11_find 34 = oAl 5 36 := (congrFun teX11_find 34).trans rfl
theorem tX11_find_36 : tX11_find 36 = oIl 2 37 := (congrFun teX11_find 36).trans rfl
theorem tX11_find_37 : tX11_find 37 = oIl 3 38 := (congrFun teX11_find 37).trans rfl
theorem tX11_find_38 : tX11_find 38 = oCallV 2 mX2_begin 2 41 := (congrFun teX11_find 38).trans rfl
theorem tX11_find_41 : tX11_find 41 = oAl 0 42 := (congrFun teX11_find 41).trans rfl
theorem tX11_find_42 : tX11_find 42 = oAl 4 44 := (congrFun teX11_find 42).trans rfl
theorem tX11_find_44 : tX11_find 44 = oAl 5 46 := (congrFun teX11_find 44).trans rfl
theorem tX11_find_46 : tX11_find 46 = oCallV 2 mX2_goOn 0 49 := (congrFun teX11_find 46).trans rfl
theorem tX11_find_49 : tX11_find 49 = oCallVA 11 mX11_putFound 2 52 := (congrFun teX11_find 49).trans rfl
theorem tX11_find_52 : tX11_find 52 = oIret := (congrFun teX11_find 52).trans rfl
def lX11_next : List (Nat × qP) := [(0, oAl 0 1), (1, oIl 1 2), (2, oCallV 11 mX11_placeAt 1 5), (5, oAs 2 6), (6, oAl 2 7), (7, oIfn 27 10), (10, oAl 0 11), (11, oGet 11 10 14), (14, oIfn 27 17), (17, oAl 0 18), (18, oGet 11 10 21), (21, oCallV 2 mX2_hasBegun 0 24), (24, oIf1ne 29 27), (27, oK (.int (-1)) 28), (28, oIret), (29, oAl 0 30), (30, oAl 2 31), (31, oAl 0 32), (32, oGet 11 10 35), (35, oCallV 2 mX2_goOn 0 38), (38, oCallVA 11 mX11_putFound 2 41), (41, oIret)]
def uX11_next : Nat → qP := q_tb lX11_next
set_option maxRecDepth 20000 in
theorem suX11_next : q_Snd mX11_next uX11_next := by
  refine q_tb_ok ?_
  unfold lX11_next
  refine q_fa (ok_aload_n (by decide +kernel : decode cX11_next 0 = .ok (.aload_n 0, 1)) rfl rfl) ?_
  refine q_fa (ok_iload_n (by decide +kernel : decode cX11_next 1 = .ok (.iload_n 1, 1)) rfl rfl) ?_
  refine q_fa (ok_callV (by decide +kernel : decode cX11_next 2 = .ok (.invokevirtual 67, 3)) rfl kX11_placeAt.1 kX11_placeAt.2.1 kX11_placeAt.2.2.1 kX11_placeAt.2.2.2.1 kX11_placeAt.2.2.2.2 (rfl : vwCl[11]? = some (RX11, TX11, 11)) g230 gs1 g228) ?_
  refine q_fa (ok_astore_n (by decide +kernel : decode cX11_next 5 = .ok (.astore_n 2, 1)) rfl rfl (by decide)) ?_
  refine q_fa (ok_aload_n (by decide +kernel : decode cX11_next 6 = .ok (.aload_n 2, 1)) rfl rfl) ?_
  refine q_fa (ok_ifnull (by decide +kernel : decode cX11_next 7 = .ok (.ifnull 20, 3)) (by decide) rfl) ?_
  refine q_fa (ok_aload_n (by decide +kernel : decode cX11_next 10 = .ok (.aload_n 0, 1)) rfl rfl) ?_
  refine q_fa (ok_get (by decide +kernel : decode cX11_next 11 = .ok (.getfield 201, 3)) rfl (rfl : vwCl[11]? = some (RX11, TX11, 11)) inX11 (by decide) g188) ?_
  refine q_fa (ok_ifnull (by decide +kernel : decode cX11_next 14 = .ok (.ifnull 13, 3)) (by decide) rfl) ?_
  refine q_fa (ok_aload_n (by decide +kernel : decode cX11_next 17 = .ok (.aload_n 0, 1)) rfl rfl) ?_
  refine q_fa (ok_get (by decide +kernel : decode cX11_next 18 = .ok (.getfield 201, 3)) rfl (rfl : vwCl[11]? = some (RX11, TX11, 11)) inX11 (by decide) g188) ?_
  refine q_fa (ok_callV (by decide +kernel : decode cX11_next 21 = .ok (.invokevirtual 205, 3)) rfl kX2_hasBegun.1 kX2_hasBegun.2.1 kX2_hasBegun.2.2.1 kX2_hasBegun.2.2.2.1 kX2_hasBegun.2.2.2.2 (rfl : vwCl[2]? = some (RX2, TX2, 17)) g908 g909 g907) ?_
  refine q_fa (ok_if1ne (by decide +kernel : decode cX11_next 24 = .ok (.ifCond .ne 5, 3)) (by decide) rfl) ?_
  refine q_fa (ok_iconst (by decide +kernel : decode cX11_next 27 = .ok (.iconst (-1), 1)) rfl (by decide +kernel)) ?_
  refine q_fa (ok_iret (by decide +kernel : decode cX11_next 28 = .ok (.ireturn, 1)) rfl) ?_
  refine q_fa (ok_aload_n (by decide +kernel : decode cX11_next 29 = .ok (.aload_n 0, 1)) rfl rfl) ?_
  refine q_fa (ok_aload_n (by decide +kernel : decode cX11_next 30 = .ok (.aload_n 2, 1)) rfl rfl) ?_
  refine q_fa (ok_aload_n (by decide +kernel : decode cX11_next 31 = .ok (.aload_n 0, 1)) rfl rfl) ?_
  refine q_fa (ok_get (by decide +kernel : decode cX11_next 32 = .ok (.getfield 201, 3)) rfl (rfl : vwCl[11]? = some (RX11, TX11, 11)) inX11 (by decide) g188) ?_
  refine q_fa (ok_callV (by decide +kernel : decode cX11_next 35 = .ok (.invokevirtual 194, 3)) rfl kX2_goOn.1 kX2_goOn.2.1 kX2_goOn.2.2.1 kX2_goOn.2.2.2.1 kX2_goOn.2.2.2.2 (rfl : vwCl[2]? = some (RX2, TX2, 17)) g872 g873 g871) ?_
  refine q_fa (ok_callVA (by decide +kernel : decode cX11_next 38 = .ok (.invokevirtual 197, 3)) rfl kX11_putFound.1 kX11_putFound.2.1 kX11_putFound.2.2.1 kX11_putFound.2.2.2.1 kX11_putFound.2.2.2.2 (rfl : vwCl[11]? = some (RX11, TX11, 11)) g901 gs43 g899) ?_
  refine q_fa (ok_iret (by decide +kernel : decode cX11_next 41 = .ok (.ireturn, 1)) rfl) ?_
  exact q_fa0
theorem exX11_next : ∃ t : Nat → qP, t = uX11_next := ⟨_, rfl⟩
noncomputable def tX11_next : Nat → qP := Classical.choose exX11_next
theorem teX11_next : tX11_next = uX11_next := Classical.choose_spec exX11_next
theorem sX11_next : q_Snd mX11_next tX11_next := by rw [teX11_next]; exact suX11_next
theorem tX11_next_0 : tX11_next 0 = oAl 0 1 := (congrFun teX11_next 0).trans rfl
theorem tX11_next_1 : tX11_next 1 = oIl 1 2 := (congrFun teX11_next 1).trans rfl
theorem tX11_next_2 : tX11_next 2 = oCallV 11 mX11_placeAt 1 5 := (congrFun teX11_next 2).trans rfl
theorem tX11_next_5 : tX11_next 5 = oAs 2 6 := (congrFun teX11_next 5).trans rfl
theorem tX11_next_6 : tX11_next 6 = oAl 2 7 := (congrFun teX11_next 6).trans rfl
theorem tX11_next_7 : tX11_next 7 = oIfn 27 10 := (congrFun teX11_next 7).trans rfl
theorem tX11_next_10 : tX11_next 10 = oAl 0 11 := (congrFun teX11_next 10).trans rfl
theorem tX11_next_11 : tX11_next 11 = oGet 11 10 14 := (congrFun teX11_next 11).trans rfl
theorem tX11_next_14 : tX11_next 14 = oIfn 27 17 := (congrFun teX11_next 14).trans rfl
theorem tX11_next_17 : tX11_next 17 = oAl 0 18 := (congrFun teX11_next 17).trans rfl
theorem tX11_next_18 : tX11_next 18 = oGet 11 10 21 := (congrFun teX11_next 18).trans rfl
theorem tX11_next_21 : tX11_next 21 = oCallV 2 mX2_hasBegun 0 24 := (congrFun teX11_next 21).trans rfl
theorem tX11_next_24 : tX11_next 24 = oIf1ne 29 27 := (congrFun teX11_next 24).trans rfl
theorem tX11_next_27 : tX11_next 27 = oK (.int (-1)) 28 := (congrFun teX11_next 27).trans rfl
theorem tX11_next_28 : tX11_next 28 = oIret := (congrFun teX11_next 28).trans rfl
theorem tX11_next_29 : tX11_next 29 = oAl 0 30 := (congrFun teX11_next 29).trans rfl
theorem tX11_next_30 : tX11_next 30 = oAl 2 31 := (congrFun teX11_next 30).trans rfl
theorem tX11_next_31 : tX11_next 31 = oAl 0 32 := (congrFun teX11_next 31).trans rfl
theorem tX11_next_32 : tX11_next 32 = oGet 11 10 35 := (congrFun teX11_next 32).trans rfl
theorem tX11_next_35 : tX11_next 35 = oCallV 2 mX2_goOn 0 38 := (congrFun teX11_next 35).trans rfl
theorem tX11_next_38 : tX11_next 38 = oCallVA 11 mX11_putFound 2 41 := (congrFun teX11_next 38).trans rfl
theorem tX11_next_41 : tX11_next 41 = oIret := (congrFun teX11_next 41).trans rfl
def lX11_found : List (Nat × qP) := [(0, oAl 0 1), (1, oGet 11 10 4), (4, oIfnn 11 7), (7, oK (.int (nI 0)) 8), (8, oGo 18), (11, oAl 0 12), (12, oGet 11 10 15), (15, oCallV 2 mX2_foundSoFar 0 18), (18, oIret)]
def uX11_found : Nat → qP := q_tb lX11_found
set_option maxRecDepth 20000 in
theorem suX11_found : q_Snd mX11_found uX11_found := by
  refine q_tb_ok ?_
  unfold lX11_found
  refine q_fa (ok_aload_n (by decide +kernel : decode cX11_found 0 = .ok (.aload_n 0, 1)) rfl rfl) ?_
  refine q_fa (ok_get (by decide +kernel : decode cX11_found 1 = .ok (.getfield 201, 3)) rfl (rfl : vwCl[11]? = some (RX11, TX11, 11)) inX11 (by decide) g188) ?_
  refine q_fa (ok_ifnonnull (by decide +kernel : decode cX11_found 4 = .ok (.ifnonnull 7, 3)) (by decide) rfl) ?_
  refine q_fa (ok_iconst (by decide +kernel : decode cX11_found 7 = .ok (.iconst 0, 1)) rfl (by decide +kernel)) ?_
  refine q_fa (ok_goto (by decide +kernel : decode cX11_found 8 = .ok (.goto 10, 3)) (by decide)) ?_
  refine q_fa (ok_aload_n (by decide +kernel : decode cX11_found 11 = .ok (.aload_n 0, 1)) rfl rfl) ?_
  refine q_fa (ok_get (by decide +kernel : decode cX11_found 12 = .ok (.getfield 201, 3)) rfl (rfl : vwCl[11]? = some (RX11, TX11, 11)) inX11 (by decide) g188) ?_
  refine q_fa (ok_callV (by decide +kernel : decode cX11_found 15 = .ok (.invokevirtual 209, 3)) rfl kX2_foundSoFar.1 kX2_foundSoFar.2.1 kX2_foundSoFar.2.2.1 kX2_foundSoFar.2.2.2.1 kX2_foundSoFar.2.2.2.2 (rfl : vwCl[2]? = some (RX2, TX2, 17)) g916 g917 g915) ?_
  refine q_fa (ok_iret (by decide +kernel : decode cX11_found 18 = .ok (.ireturn, 1)) rfl) ?_
  exact q_fa0
theorem exX11_found : ∃ t : Nat → qP, t = uX11_found := ⟨_, rfl⟩
noncomputable def tX11_found : Nat → qP := Classical.choose exX11_found
theorem teX11_found : tX11_found = uX11_found := Classical.choose_spec exX11_found
theorem sX11_found : q_Snd mX11_found tX11_found := by rw [teX11_found]; exact suX11_found
theorem tX11_found_0 : tX11_found 0 = oAl 0 1 := (congrFun teX11_found 0).trans rfl
theorem tX11_found_1 : tX11_found 1 = oGet 11 10 4 := (congrFun teX11_found 1).trans rfl
theorem tX11_found_4 : tX11_found 4 = oIfnn 11 7 := (congrFun teX11_found 4).trans rfl
theorem tX11_found_7 : tX11_found 7 = oK (.int (nI 0)) 8 := (congrFun teX11_found 7).trans rfl
theorem tX11_found_8 : tX11_found 8 = oGo 18 := (congrFun teX11_found 8).trans rfl
theorem tX11_found_11 : tX11_found 11 = oAl 0 12 := (congrFun teX11_found 11).trans rfl
theorem tX11_found_12 : tX11_found 12 = oGet 11 10 15 := (congrFun teX11_found 12).trans rfl
theorem tX11_found_15 : tX11_found 15 = oCallV 2 mX2_foundSoFar 0 18 := (congrFun teX11_found 15).trans rfl
theorem tX11_found_18 : tX11_found 18 = oIret := (congrFun teX11_found 18).trans rfl
def lX11_open : List (Nat × qP) := [(0, oIl 1 1), (1, oCallS mX11_isKinds 1 4), (4, oIf1eq 14 7), (7, oIl 2 8), (8, oCallS mX11_isCost 1 11), (11, oIf1ne 16 14), (14, oK (.int (-1)) 15), (15, oIret), (16, oAl 0 17), (17, oCallVA 11 mX11_theFinder 0 20), (20, oIl 1 21), (21, oIl 2 22), (22, oCallV 2 mX2_countOpen 2 25), (25, oIret)]
def uX11_open : Nat → qP := q_tb lX11_open
set_option maxRecDepth 20000 in
theorem suX11_open : q_Snd mX11_open uX11_open := by
  refine q_tb_ok ?_
  unfold lX11_open
  refine q_fa (ok_iload_n (by decide +kernel : decode cX11_open 0 = .ok (.iload_n 1, 1)) rfl rfl) ?_
  refine q_fa (ok_callS (by decide +kernel : decode cX11_open 1 = .ok (.invokestatic 182, 3)) rfl kX11_isKinds.1 kX11_isKinds.2.1 kX11_isKinds.2.2.1 kX11_isKinds.2.2.2.1 kX11_isKinds.2.2.2.2 g724 g723) ?_
  refine q_fa (ok_if1eq (by decide +kernel : decode cX11_open 4 = .ok (.ifCond .eq 10, 3)) (by decide) rfl) ?_
  refine q_fa (ok_iload_n (by decide +kernel : decode cX11_open 7 = .ok (.iload_n 2, 1)) rfl rfl) ?_
  refine q_fa (ok_callS (by decide +kernel : decode cX11_open 8 = .ok (.invokestatic 124, 3)) rfl kX11_isCost.1 kX11_isCost.2.1 kX11_isCost.2.2.1 kX11_isCost.2.2.2.1 kX11_isCost.2.2.2.2 g476 g475) ?_
  refine q_fa (ok_if1ne (by decide +kernel : decode cX11_open 11 = .ok (.ifCond .ne 5, 3)) (by decide) rfl) ?_
  refine q_fa (ok_iconst (by decide +kernel : decode cX11_open 14 = .ok (.iconst (-1), 1)) rfl (by decide +kernel)) ?_
  refine q_fa (ok_iret (by decide +kernel : decode cX11_open 15 = .ok (.ireturn, 1)) rfl) ?_
  refine q_fa (ok_aload_n (by decide +kernel : decode cX11_open 16 = .ok (.aload_n 0, 1)) rfl rfl) ?_
  refine q_fa (ok_callVA (by decide +kernel : decode cX11_open 17 = .ok (.invokevirtual 185, 3)) rfl kX11_theFinder.1 kX11_theFinder.2.1 kX11_theFinder.2.2.1 kX11_theFinder.2.2.2.1 kX11_theFinder.2.2.2.2 (rfl : vwCl[11]? = some (RX11, TX11, 11)) g728 gs31 g726) ?_
  refine q_fa (ok_iload_n (by decide +kernel : decode cX11_open 20 = .ok (.iload_n 1, 1)) rfl rfl) ?_
  refine q_fa (ok_iload_n (by decide +kernel : decode cX11_open 21 = .ok (.iload_n 2, 1)) rfl rfl) ?_
  refine q_fa (ok_callV (by decide +kernel : decode cX11_open 22 = .ok (.invokevirtual 212, 3)) rfl kX2_countOpen.1 kX2_countOpen.2.1 kX2_countOpen.2.2.1 kX2_countOpen.2.2.2.1 kX2_countOpen.2.2.2.2 (rfl : vwCl[2]? = some (RX2, TX2, 17)) g924 g925 g923) ?_
  refine q_fa (ok_iret (by decide +kernel : decode cX11_open 25 = .ok (.ireturn, 1)) rfl) ?_
  exact q_fa0
theorem exX11_open : ∃ t : Nat → qP, t = uX11_open := ⟨_, rfl⟩
noncomputable def tX11_open : Nat → qP := Classical.choose exX11_open
theorem teX11_open : tX11_open = uX11_open := Classical.choose_spec exX11_open
theorem sX11_open : q_Snd mX11_open tX11_open := by rw [teX11_open]; exact suX11_open
theorem tX11_open_0 : tX11_open 0 = oIl 1 1 := (congrFun teX11_open 0).trans rfl
theorem tX11_open_1 : tX11_open 1 = oCallS mX11_isKinds 1 4 := (congrFun teX11_open 1).trans rfl
theorem tX11_open_4 : tX11_open 4 = oIf1eq 14 7 := (congrFun teX11_open 4).trans rfl
theorem tX11_open_7 : tX11_open 7 = oIl 2 8 := (congrFun teX11_open 7).trans rfl
theorem tX11_open_8 : tX11_open 8 = oCallS mX11_isCost 1 11 := (congrFun teX11_open 8).trans rfl
theorem tX11_open_11 : tX11_open 11 = oIf1ne 16 14 := (congrFun teX11_open 11).trans rfl
theorem tX11_open_14 : tX11_open 14 = oK (.int (-1)) 15 := (congrFun teX11_open 14).trans rfl
theorem tX11_open_15 : tX11_open 15 = oIret := (congrFun teX11_open 15).trans rfl
theorem tX11_open_16 : tX11_open 16 = oAl 0 17 := (congrFun teX11_open 16).trans rfl
theorem tX11_open_17 : tX11_open 17 = oCallVA 11 mX11_theFinder 0 20 := (congrFun teX11_open 17).trans rfl
theorem tX11_open_20 : tX11_open 20 = oIl 1 21 := (congrFun teX11_open 20).trans rfl
theorem tX11_open_21 : tX11_open 21 = oIl 2 22 := (congrFun teX11_open 21).trans rfl
theorem tX11_open_22 : tX11_open 22 = oCallV 2 mX2_countOpen 2 25 := (congrFun teX11_open 22).trans rfl
theorem tX11_open_25 : tX11_open 25 = oIret := (congrFun teX11_open 25).trans rfl
def lX11_ask : List (Nat × qP) := [(0, oIl 1 1), (1, oCallS mX11_isKinds 1 4), (4, oIf1eq 14 7), (7, oIl 2 8), (8, oCallS mX11_isCost 1 11), (11, oIf1ne 16 14), (14, oK (.int (-1)) 15), (15, oIret), (16, oAl 0 17), (17, oCallVA 11 mX11_theFinder 0 20), (20, oIl 1 21), (21, oIl 2 22), (22, oCallV 2 mX2_evenestRow 2 25), (25, oIret)]
def uX11_ask : Nat → qP := q_tb lX11_ask
set_option maxRecDepth 20000 in
theorem suX11_ask : q_Snd mX11_ask uX11_ask := by
  refine q_tb_ok ?_
  unfold lX11_ask
  refine q_fa (ok_iload_n (by decide +kernel : decode cX11_ask 0 = .ok (.iload_n 1, 1)) rfl rfl) ?_
  refine q_fa (ok_callS (by decide +kernel : decode cX11_ask 1 = .ok (.invokestatic 182, 3)) rfl kX11_isKinds.1 kX11_isKinds.2.1 kX11_isKinds.2.2.1 kX11_isKinds.2.2.2.1 kX11_isKinds.2.2.2.2 g724 g723) ?_
  refine q_fa (ok_if1eq (by decide +kernel : decode cX11_ask 4 = .ok (.ifCond .eq 10, 3)) (by decide) rfl) ?_
  refine q_fa (ok_iload_n (by decide +kernel : decode cX11_ask 7 = .ok (.iload_n 2, 1)) rfl rfl) ?_
  refine q_fa (ok_callS (by decide +kernel : decode cX11_ask 8 = .ok (.invokestatic 124, 3)) rfl kX11_isCost.1 kX11_isCost.2.1 kX11_isCost.2.2.1 kX11_isCost.2.2.2.1 kX11_isCost.2.2.2.2 g476 g475) ?_
  refine q_fa (ok_if1ne (by decide +kernel : decode cX11_ask 11 = .ok (.ifCond .ne 5, 3)) (by decide) rfl) ?_
  refine q_fa (ok_iconst (by decide +kernel : decode cX11_ask 14 = .ok (.iconst (-1), 1)) rfl (by decide +kernel)) ?_
  refine q_fa (ok_iret (by decide +kernel : decode cX11_ask 15 = .ok (.ireturn, 1)) rfl) ?_
  refine q_fa (ok_aload_n (by decide +kernel : decode cX11_ask 16 = .ok (.aload_n 0, 1)) rfl rfl) ?_
  refine q_fa (ok_callVA (by decide +kernel : decode cX11_ask 17 = .ok (.invokevirtual 185, 3)) rfl kX11_theFinder.1 kX11_theFinder.2.1 kX11_theFinder.2.2.1 kX11_theFinder.2.2.2.1 kX11_theFinder.2.2.2.2 (rfl : vwCl[11]? = some (RX11, TX11, 11)) g728 gs31 g726) ?_
  refine q_fa (ok_iload_n (by decide +kernel : decode cX11_ask 20 = .ok (.iload_n 1, 1)) rfl rfl) ?_
  refine q_fa (ok_iload_n (by decide +kernel : decode cX11_ask 21 = .ok (.iload_n 2, 1)) rfl rfl) ?_
  refine q_fa (ok_callV (by decide +kernel : decode cX11_ask 22 = .ok (.invokevirtual 215, 3)) rfl kX2_evenestRow.1 kX2_evenestRow.2.1 kX2_evenestRow.2.2.1 kX2_evenestRow.2.2.2.1 kX2_evenestRow.2.2.2.2 (rfl : vwCl[2]? = some (RX2, TX2, 17)) g932 g933 g931) ?_
  refine q_fa (ok_iret (by decide +kernel : decode cX11_ask 25 = .ok (.ireturn, 1)) rfl) ?_
  exact q_fa0
theorem exX11_ask : ∃ t : Nat → qP, t = uX11_ask := ⟨_, rfl⟩
noncomputable def tX11_ask : Nat → qP := Classical.choose exX11_ask
theorem teX11_ask : tX11_ask = uX11_ask := Classical.choose_spec exX11_ask
theorem sX11_ask : q_Snd mX11_ask tX11_ask := by rw [teX11_ask]; exact suX11_ask
theorem tX11_ask_0 : tX11_ask 0 = oIl 1 1 := (congrFun teX11_ask 0).trans rfl
theorem tX11_ask_1 : tX11_ask 1 = oCallS mX11_isKinds 1 4 := (congrFun teX11_ask 1).trans rfl
theorem tX11_ask_4 : tX11_ask 4 = oIf1eq 14 7 := (congrFun teX11_ask 4).trans rfl
theorem tX11_ask_7 : tX11_ask 7 = oIl 2 8 := (congrFun teX11_ask 7).trans rfl
theorem tX11_ask_8 : tX11_ask 8 = oCallS mX11_isCost 1 11 := (congrFun teX11_ask 8).trans rfl
theorem tX11_ask_11 : tX11_ask 11 = oIf1ne 16 14 := (congrFun teX11_ask 11).trans rfl
theorem tX11_ask_14 : tX11_ask 14 = oK (.int (-1)) 15 := (congrFun teX11_ask 14).trans rfl
theorem tX11_ask_15 : tX11_ask 15 = oIret := (congrFun teX11_ask 15).trans rfl
theorem tX11_ask_16 : tX11_ask 16 = oAl 0 17 := (congrFun teX11_ask 16).trans rfl
theorem tX11_ask_17 : tX11_ask 17 = oCallVA 11 mX11_theFinder 0 20 := (congrFun teX11_ask 17).trans rfl
theorem tX11_ask_20 : tX11_ask 20 = oIl 1 21 := (congrFun teX11_ask 20).trans rfl
theorem tX11_ask_21 : tX11_ask 21 = oIl 2 22 := (congrFun teX11_ask 21).trans rfl
theorem tX11_ask_22 : tX11_ask 22 = oCallV 2 mX2_evenestRow 2 25 := (congrFun teX11_ask 22).trans rfl
theorem tX11_ask_25 : tX11_ask 25 = oIret := (congrFun teX11_ask 25).trans rfl
def lX11_asked : List (Nat × qP) := [(0, oAl 0 1), (1, oGet 11 10 4), (4, oIfnn 11 7), (7, oK (.int (nI 0)) 8), (8, oGo 18), (11, oAl 0 12), (12, oGet 11 10 15), (15, oCallV 2 mX2_haveAskedRow 0 18), (18, oIret)]
def uX11_asked : Nat → qP := q_tb lX11_asked
set_option maxRecDepth 20000 in
theorem suX11_asked : q_Snd mX11_asked uX11_asked := by
  refine q_tb_ok ?_
  unfold lX11_asked
  refine q_fa (ok_aload_n (by decide +kernel : decode cX11_asked 0 = .ok (.aload_n 0, 1)) rfl rfl) ?_
  refine q_fa (ok_get (by decide +kernel : decode cX11_asked 1 = .ok (.getfield 201, 3)) rfl (rfl : vwCl[11]? = some (RX11, TX11, 11)) inX11 (by decide) g188) ?_
  refine q_fa (ok_ifnonnull (by decide +kernel : decode cX11_asked 4 = .ok (.ifnonnull 7, 3)) (by decide) rfl) ?_
  refine q_fa (ok_iconst (by decide +kernel : decode cX11_asked 7 = .ok (.iconst 0, 1)) rfl (by decide +kernel)) ?_
  refine q_fa (ok_goto (by decide +kernel : decode cX11_asked 8 = .ok (.goto 10, 3)) (by decide)) ?_
  refine q_fa (ok_aload_n (by decide +kernel : decode cX11_asked 11 = .ok (.aload_n 0, 1)) rfl rfl) ?_
  refine q_fa (ok_get (by decide +kernel : decode cX11_asked 12 = .ok (.getfield 201, 3)) rfl (rfl : vwCl[11]? = some (RX11, TX11, 11)) inX11 (by decide) g188) ?_
  refine q_fa (ok_callV (by decide +kernel : decode cX11_asked 15 = .ok (.invokevirtual 218, 3)) rfl kX2_haveAskedRow.1 kX2_haveAskedRow.2.1 kX2_haveAskedRow.2.2.1 kX2_haveAskedRow.2.2.2.1 kX2_haveAskedRow.2.2.2.2 (rfl : vwCl[2]? = some (RX2, TX2, 17)) g962 g963 g961) ?_
  refine q_fa (ok_iret (by decide +kernel : decode cX11_asked 18 = .ok (.ireturn, 1)) rfl) ?_
  exact q_fa0
theorem exX11_asked : ∃ t : Nat → qP, t = uX11_asked := ⟨_, rfl⟩
noncomputable def tX11_asked : Nat → qP := Classical.choose exX11_asked
theorem teX11_asked : tX11_asked = uX11_asked := Classical.choose_spec exX11_asked
theorem sX11_asked : q_Snd mX11_asked tX11_asked := by rw [teX11_asked]; exact suX11_asked
theorem tX11_asked_0 : tX11_asked 0 = oAl 0 1 := (congrFun teX11_asked 0).trans rfl
theorem tX11_asked_1 : tX11_asked 1 = oGet 11 10 4 := (congrFun teX11_asked 1).trans rfl
theorem tX11_asked_4 : tX11_asked 4 = oIfnn 11 7 := (congrFun teX11_asked 4).trans rfl
theorem tX11_asked_7 : tX11_asked 7 = oK (.int (nI 0)) 8 := (congrFun teX11_asked 7).trans rfl
theorem tX11_asked_8 : tX11_asked 8 = oGo 18 := (congrFun teX11_asked 8).trans rfl
theorem tX11_asked_11 : tX11_asked 11 = oAl 0 12 := (congrFun teX11_asked 11).trans rfl
theorem tX11_asked_12 : tX11_asked 12 = oGet 11 10 15 := (congrFun teX11_asked 12).trans rfl
theorem tX11_asked_15 : tX11_asked 15 = oCallV 2 mX2_haveAskedRow 0 18 := (congrFun teX11_asked 15).trans rfl
theorem tX11_asked_18 : tX11_asked 18 = oIret := (congrFun teX11_asked 18).trans rfl
def lX11_noise : List (Nat × qP) := [(0, oAl 0 1), (1, oIl 1 2), (2, oCallV 11 mX11_placeAt 1 5), (5, oAs 4 7), (7, oAl 4 9), (9, oIfn 26 12), (12, oIl 2 13), (13, oCallS mX11_isKinds 1 16), (16, oIf1eq 26 19), (19, oIl 3 20), (20, oCallS mX11_isCost 1 23), (23, oIf1ne 28 26), (26, oK (.int (-1)) 27), (27, oIret), (28, oAl 0 29), (29, oCallVA 11 mX11_theFinder 0 32), (32, oAs 5 34), (34, oAl 5 36), (36, oIl 2 37), (37, oIl 3 38), (38, oCallV 2 mX2_cheapest 2 41), (41, oIs 6 43), (43, oIl 6 45), (45, oIf1ge 51 48), (48, oK (.int (-2)) 50), (50, oIret), (51, oAl 4 53), (53, oAl 0 54), (54, oCallVA 11 mX11_theCatalogue 0 57), (57, oCallV 1 mX1_nodes 0 60), (60, oIl 6 62), (62, oCallV 4 mX4_become 2 65), (65, oAl 5 67), (67, oIl 6 69), (69, oCallV 2 mX2_priceOf 1 72), (72, oAl 4 74), (74, oCallV 4 mX4_cost 0 77), (77, oAdd 78), (78, oIret)]
def uX11_noise : Nat → qP := q_tb lX11_noise
set_option maxRecDepth 20000 in
theorem suX11_noise : q_Snd mX11_noise uX11_noise := by
  refine q_tb_ok ?_
  unfold lX11_noise
  refine q_fa (ok_aload_n (by decide +kernel : decode cX11_noise 0 = .ok (.aload_n 0, 1)) rfl rfl) ?_
  refine q_fa (ok_iload_n (by decide +kernel : decode cX11_noise 1 = .ok (.iload_n 1, 1)) rfl rfl) ?_
  refine q_fa (ok_callV (by decide +kernel : decode cX11_noise 2 = .ok (.invokevirtual 67, 3)) rfl kX11_placeAt.1 kX11_placeAt.2.1 kX11_placeAt.2.2.1 kX11_placeAt.2.2.2.1 kX11_placeAt.2.2.2.2 (rfl : vwCl[11]? = some (RX11, TX11, 11)) g230 gs1 g228) ?_
  refine q_fa (ok_astore (by decide +kernel : decode cX11_noise 5 = .ok (.astore 4, 2)) rfl (by decide)) ?_
  refine q_fa (ok_aload (by decide +kernel : decode cX11_noise 7 = .ok (.aload 4, 2)) rfl) ?_
  refine q_fa (ok_ifnull (by decide +kernel : decode cX11_noise 9 = .ok (.ifnull 17, 3)) (by decide) rfl) ?_
  refine q_fa (ok_iload_n (by decide +kernel : decode cX11_noise 12 = .ok (.iload_n 2, 1)) rfl rfl) ?_
  refine q_fa (ok_callS (by decide +kernel : decode cX11_noise 13 = .ok (.invokestatic 182, 3)) rfl kX11_isKinds.1 kX11_isKinds.2.1 kX11_isKinds.2.2.1 kX11_isKinds.2.2.2.1 kX11_isKinds.2.2.2.2 g724 g723) ?_
  refine q_fa (ok_if1eq (by decide +kernel : decode cX11_noise 16 = .ok (.ifCond .eq 10, 3)) (by decide) rfl) ?_
  refine q_fa (ok_iload_n (by decide +kernel : decode cX11_noise 19 = .ok (.iload_n 3, 1)) rfl rfl) ?_
  refine q_fa (ok_callS (by decide +kernel : decode cX11_noise 20 = .ok (.invokestatic 124, 3)) rfl kX11_isCost.1 kX11_isCost.2.1 kX11_isCost.2.2.1 kX11_isCost.2.2.2.1 kX11_isCost.2.2.2.2 g476 g475) ?_
  refine q_fa (ok_if1ne (by decide +kernel : decode cX11_noise 23 = .ok (.ifCond .ne 5, 3)) (by decide) rfl) ?_
  refine q_fa (ok_iconst (by decide +kernel : decode cX11_noise 26 = .ok (.iconst (-1), 1)) rfl (by decide +kernel)) ?_
  refine q_fa (ok_iret (by decide +kernel : decode cX11_noise 27 = .ok (.ireturn, 1)) rfl) ?_
  refine q_fa (ok_aload_n (by decide +kernel : decode cX11_noise 28 = .ok (.aload_n 0, 1)) rfl rfl) ?_
  refine q_fa (ok_callVA (by decide +kernel : decode cX11_noise 29 = .ok (.invokevirtual 185, 3)) rfl kX11_theFinder.1 kX11_theFinder.2.1 kX11_theFinder.2.2.1 kX11_theFinder.2.2.2.1 kX11_theFinder.2.2.2.2 (rfl : vwCl[11]? = some (RX11, TX11, 11)) g728 gs31 g726) ?_
  refine q_fa (ok_astore (by decide +kernel : decode cX11_noise 32 = .ok (.astore 5, 2)) rfl (by decide)) ?_
  refine q_fa (ok_aload (by decide +kernel : decode cX11_noise 34 = .ok (.aload 5, 2)) rfl) ?_
  refine q_fa (ok_iload_n (by decide +kernel : decode cX11_noise 36 = .ok (.iload_n 2, 1)) rfl rfl) ?_
  refine q_fa (ok_iload_n (by decide +kernel : decode cX11_noise 37 = .ok (.iload_n 3, 1)) rfl rfl) ?_
  refine q_fa (ok_callV (by decide +kernel : decode cX11_noise 38 = .ok (.invokevirtual 221, 3)) rfl kX2_cheapest.1 kX2_cheapest.2.1 kX2_cheapest.2.2.1 kX2_cheapest.2.2.2.1 kX2_cheapest.2.2.2.2 (rfl : vwCl[2]? = some (RX2, TX2, 17)) g970 g971 g969) ?_
  refine q_fa (ok_istore (by decide +kernel : decode cX11_noise 41 = .ok (.istore 6, 2)) rfl (by decide)) ?_
  refine q_fa (ok_iload (by decide +kernel : decode cX11_noise 43 = .ok (.iload 6, 2)) rfl) ?_
  refine q_fa (ok_if1ge (by decide +kernel : decode cX11_noise 45 = .ok (.ifCond .ge 6, 3)) (by decide) rfl) ?_
  refine q_fa (ok_bipush (by decide +kernel : decode cX11_noise 48 = .ok (.bipush (-2), 2)) rfl (by decide +kernel)) ?_
  refine q_fa (ok_iret (by decide +kernel : decode cX11_noise 50 = .ok (.ireturn, 1)) rfl) ?_
  refine q_fa (ok_aload (by decide +kernel : decode cX11_noise 51 = .ok (.aload 4, 2)) rfl) ?_
  refine q_fa (ok_aload_n (by decide +kernel : decode cX11_noise 53 = .ok (.aload_n 0, 1)) rfl rfl) ?_
  refine q_fa (ok_callVA (by decide +kernel : decode cX11_noise 54 = .ok (.invokevirtual 109, 3)) rfl kX11_theCatalogue.1 kX11_theCatalogue.2.1 kX11_theCatalogue.2.2.1 kX11_theCatalogue.2.2.2.1 kX11_theCatalogue.2.2.2.2 (rfl : vwCl[11]? = some (RX11, TX11, 11)) g389 gs14 g387) ?_
  refine q_fa (ok_callV (by decide +kernel : decode cX11_noise 57 = .ok (.invokevirtual 128, 3)) rfl kX1_nodes.1 kX1_nodes.2.1 kX1_nodes.2.2.1 kX1_nodes.2.2.2.1 kX1_nodes.2.2.2.2 (rfl : vwCl[1]? = some (RX1, TX1, 5)) g479 g480 g478) ?_
  refine q_fa (ok_iload (by decide +kernel : decode cX11_noise 60 = .ok (.iload 6, 2)) rfl) ?_
  refine q_fa (ok_callV (by decide +kernel : decode cX11_noise 62 = .ok (.invokevirtual 85, 3)) rfl kX4_become.1 kX4_become.2.1 kX4_become.2.2.1 kX4_become.2.2.2.1 kX4_become.2.2.2.2 (rfl : vwCl[4]? = some (RX4, TX4, 4)) g311 g312 g310) ?_
  refine q_fa (ok_aload (by decide +kernel : decode cX11_noise 65 = .ok (.aload 5, 2)) rfl) ?_
  refine q_fa (ok_iload (by decide +kernel : decode cX11_noise 67 = .ok (.iload 6, 2)) rfl) ?_
  refine q_fa (ok_callV (by decide +kernel : decode cX11_noise 69 = .ok (.invokevirtual 224, 3)) rfl kX2_priceOf.1 kX2_priceOf.2.1 kX2_priceOf.2.2.1 kX2_priceOf.2.2.2.1 kX2_priceOf.2.2.2.2 (rfl : vwCl[2]? = some (RX2, TX2, 17)) g975 g976 g979) ?_
  refine q_fa (ok_aload (by decide +kernel : decode cX11_noise 72 = .ok (.aload 4, 2)) rfl) ?_
  refine q_fa (ok_callV (by decide +kernel : decode cX11_noise 74 = .ok (.invokevirtual 89, 3)) rfl kX4_cost.1 kX4_cost.2.1 kX4_cost.2.2.1 kX4_cost.2.2.2.1 kX4_cost.2.2.2.2 (rfl : vwCl[4]? = some (RX4, TX4, 4)) g331 g332 g330) ?_
  refine q_fa (ok_iadd (by decide +kernel : decode cX11_noise 77 = .ok (.iadd, 1)) rfl) ?_
  refine q_fa (ok_iret (by decide +kernel : decode cX11_noise 78 = .ok (.ireturn, 1)) rfl) ?_
  exact q_fa0
theorem exX11_noise : ∃ t : Nat → qP, t = uX11_noise := ⟨_, rfl⟩
noncomputable def tX11_noise : Nat → qP := Classical.choose exX11_noise
theorem teX11_noise : tX11_noise = uX11_noise := Classical.choose_spec exX11_noise
theorem sX11_noise : q_Snd mX11_noise tX11_noise := by rw [teX11_noise]; exact suX11_noise
theorem tX11_noise_0 : tX11_noise 0 = oAl 0 1 := (congrFun teX11_noise 0).trans rfl
theorem tX11_noise_1 : tX11_noise 1 = oIl 1 2 := (congrFun teX11_noise 1).trans rfl
theorem tX11_noise_2 : tX11_noise 2 = oCallV 11 mX11_placeAt 1 5 := (congrFun teX11_noise 2).trans rfl
theorem tX11_noise_5 : tX11_noise 5 = oAs 4 7 := (congrFun teX11_noise 5).trans rfl
theorem tX11_noise_7 : tX11_noise 7 = oAl 4 9 := (congrFun teX11_noise 7).trans rfl
theorem tX11_noise_9 : tX11_noise 9 = oIfn 26 12 := (congrFun teX11_noise 9).trans rfl
theorem tX11_noise_12 : tX11_noise 12 = oIl 2 13 := (congrFun teX11_noise 12).trans rfl
theorem tX11_noise_13 : tX11_noise 13 = oCallS mX11_isKinds 1 16 := (congrFun teX11_noise 13).trans rfl
theorem tX11_noise_16 : tX11_noise 16 = oIf1eq 26 19 := (congrFun teX11_noise 16).trans rfl
theorem tX11_noise_19 : tX11_noise 19 = oIl 3 20 := (congrFun teX11_noise 19).trans rfl
theorem tX11_noise_20 : tX11_noise 20 = oCallS mX11_isCost 1 23 := (congrFun teX11_noise 20).trans rfl
theorem tX11_noise_23 : tX11_noise 23 = oIf1ne 28 26 := (congrFun teX11_noise 23).trans rfl
theorem tX11_noise_26 : tX11_noise 26 = oK (.int (-1)) 27 := (congrFun teX11_noise 26).trans rfl
theorem tX11_noise_27 : tX11_noise 27 = oIret := (congrFun teX11_noise 27).trans rfl
theorem tX11_noise_28 : tX11_noise 28 = oAl 0 29 := (congrFun teX11_noise 28).trans rfl
theorem tX11_noise_29 : tX11_noise 29 = oCallVA 11 mX11_theFinder 0 32 := (congrFun teX11_noise 29).trans rfl
theorem tX11_noise_32 : tX11_noise 32 = oAs 5 34 := (congrFun teX11_noise 32).trans rfl
theorem tX11_noise_34 : tX11_noise 34 = oAl 5 36 := (congrFun teX11_noise 34).trans rfl
theorem tX11_noise_36 : tX11_noise 36 = oIl 2 37 := (congrFun teX11_noise 36).trans rfl
theorem tX11_noise_37 : tX11_noise 37 = oIl 3 38 := (congrFun teX11_noise 37).trans rfl
theorem tX11_noise_38 : tX11_noise 38 = oCallV 2 mX2_cheapest 2 41 := (congrFun teX11_noise 38).trans rfl
theorem tX11_noise_41 : tX11_noise 41 = oIs 6 43 := (congrFun teX11_noise 41).trans rfl
theorem tX11_noise_43 : tX11_noise 43 = oIl 6 45 := (congrFun teX11_noise 43).trans rfl
theorem tX11_noise_45 : tX11_noise 45 = oIf1ge 51 48 := (congrFun teX11_noise 45).trans rfl
theorem tX11_noise_48 : tX11_noise 48 = oK (.int (-2)) 50 := (congrFun teX11_noise 48).trans rfl
theorem tX11_noise_50 : tX11_noise 50 = oIret := (congrFun teX11_noise 50).trans rfl
theorem tX11_noise_51 : tX11_noise 51 = oAl 4 53 := (congrFun teX11_noise 51).trans rfl
theorem tX11_noise_53 : tX11_noise 53 = oAl 0 54 := (congrFun teX11_noise 53).trans rfl
theorem tX11_noise_54 : tX11_noise 54 = oCallVA 11 mX11_theCatalogue 0 57 := (congrFun teX11_noise 54).trans rfl
theorem tX11_noise_57 : tX11_noise 57 = oCallV 1 mX1_nodes 0 60 := (congrFun teX11_noise 57).trans rfl
theorem tX11_noise_60 : tX11_noise 60 = oIl 6 62 := (congrFun teX11_noise 60).trans rfl
theorem tX11_noise_62 : tX11_noise 62 = oCallV 4 mX4_become 2 65 := (congrFun teX11_noise 62).trans rfl
theorem tX11_noise_65 : tX11_noise 65 = oAl 5 67 := (congrFun teX11_noise 65).trans rfl
theorem tX11_noise_67 : tX11_noise 67 = oIl 6 69 := (congrFun teX11_noise 67).trans rfl
theorem tX11_noise_69 : tX11_noise 69 = oCallV 2 mX2_priceOf 1 72 := (congrFun teX11_noise 69).trans rfl
theorem tX11_noise_72 : tX11_noise 72 = oAl 4 74 := (congrFun teX11_noise 72).trans rfl
theorem tX11_noise_74 : tX11_noise 74 = oCallV 4 mX4_cost 0 77 := (congrFun teX11_noise 74).trans rfl
theorem tX11_noise_77 : tX11_noise 77 = oAdd 78 := (congrFun teX11_noise 77).trans rfl
theorem tX11_noise_78 : tX11_noise 78 = oIret := (congrFun teX11_noise 78).trans rfl
def lX11_count : List (Nat × qP) := [(0, oIl 1 1), (1, oTab 0 [32, 37, 45, 64] 72), (32, oAl 0 33), (33, oCallV 11 mX11_patternsInPlaces 0 36), (36, oIret), (37, oAl 0 38), (38, oGet 11 7 41), (41, oCallV 7 mX7_size 0 44), (44, oIret), (45, oAl 0 46), (46, oGet 11 7 49), (49, oCallV 7 mX7_size 0 52), (52, oAl 0 53), (53, oGet 11 7 56), (56, oCallV 7 mX7_standing 0 59), (59, oCallS mJ6_bitCount_0f7a4 1 62), (62, oSub 63), (63, oIret), (64, oAl 0 65), (65, oGet 11 1 68), (68, oCallV 6 mX6_length 0 71), (71, oIret), (72, oK (.int (-1)) 73), (73, oIret)]
def uX11_count : Nat → qP := q_tb lX11_count
set_option maxRecDepth 20000 in
theorem suX11_count : q_Snd mX11_count uX11_count := by
  refine q_tb_ok ?_
  unfold lX11_count
  refine q_fa (ok_iload_n (by decide +kernel : decode cX11_count 0 = .ok (.iload_n 1, 1)) rfl rfl) ?_
  refine q_fa (ok_table (by decide +kernel : decode cX11_count 1 = .ok (.tableswitch 71 0 3 #[31, 36, 44, 63], 31)) (by decide) (by decide) (by decide) (by decide) (by decide)) ?_
  refine q_fa (ok_aload_n (by decide +kernel : decode cX11_count 32 = .ok (.aload_n 0, 1)) rfl rfl) ?_
  refine q_fa (ok_callV (by decide +kernel : decode cX11_count 33 = .ok (.invokevirtual 225, 3)) rfl kX11_patternsInPlaces.1 kX11_patternsInPlaces.2.1 kX11_patternsInPlaces.2.2.1 kX11_patternsInPlaces.2.2.2.1 kX11_patternsInPlaces.2.2.2.2 (rfl : vwCl[11]? = some (RX11, TX11, 11)) g986 gs46 g984) ?_
  refine q_fa (ok_iret (by decide +kernel : decode cX11_count 36 = .ok (.ireturn, 1)) rfl) ?_
  refine q_fa (ok_aload_n (by decide +kernel : decode cX11_count 37 = .ok (.aload_n 0, 1)) rfl rfl) ?_
  refine q_fa (ok_get (by decide +kernel : decode cX11_count 38 = .ok (.getfield 58, 3)) rfl (rfl : vwCl[11]? = some (RX11, TX11, 11)) inX11 (by decide) g185) ?_
  refine q_fa (ok_callV (by decide +kernel : decode cX11_count 41 = .ok (.invokevirtual 175, 3)) rfl kX7_size.1 kX7_size.2.1 kX7_size.2.2.1 kX7_size.2.2.2.1 kX7_size.2.2.2.2 (rfl : vwCl[7]? = some (RX7, TX7, 6)) g708 g709 g707) ?_
  refine q_fa (ok_iret (by decide +kernel : decode cX11_count 44 = .ok (.ireturn, 1)) rfl) ?_
  refine q_fa (ok_aload_n (by decide +kernel : decode cX11_count 45 = .ok (.aload_n 0, 1)) rfl rfl) ?_
  refine q_fa (ok_get (by decide +kernel : decode cX11_count 46 = .ok (.getfield 58, 3)) rfl (rfl : vwCl[11]? = some (RX11, TX11, 11)) inX11 (by decide) g185) ?_
  refine q_fa (ok_callV (by decide +kernel : decode cX11_count 49 = .ok (.invokevirtual 175, 3)) rfl kX7_size.1 kX7_size.2.1 kX7_size.2.2.1 kX7_size.2.2.2.1 kX7_size.2.2.2.2 (rfl : vwCl[7]? = some (RX7, TX7, 6)) g708 g709 g707) ?_
  refine q_fa (ok_aload_n (by decide +kernel : decode cX11_count 52 = .ok (.aload_n 0, 1)) rfl rfl) ?_
  refine q_fa (ok_get (by decide +kernel : decode cX11_count 53 = .ok (.getfield 58, 3)) rfl (rfl : vwCl[11]? = some (RX11, TX11, 11)) inX11 (by decide) g185) ?_
  refine q_fa (ok_callV (by decide +kernel : decode cX11_count 56 = .ok (.invokevirtual 176, 3)) rfl kX7_standing.1 kX7_standing.2.1 kX7_standing.2.2.1 kX7_standing.2.2.2.1 kX7_standing.2.2.2.2 (rfl : vwCl[7]? = some (RX7, TX7, 6)) g712 g713 g711) ?_
  refine q_fa (ok_callS (by decide +kernel : decode cX11_count 59 = .ok (.invokestatic 228, 3)) rfl kJ6_bitCount_0f7a4.1 kJ6_bitCount_0f7a4.2.1 kJ6_bitCount_0f7a4.2.2.1 kJ6_bitCount_0f7a4.2.2.2.1 kJ6_bitCount_0f7a4.2.2.2.2 g989 g988) ?_
  refine q_fa (ok_isub (by decide +kernel : decode cX11_count 62 = .ok (.isub, 1)) rfl) ?_
  refine q_fa (ok_iret (by decide +kernel : decode cX11_count 63 = .ok (.ireturn, 1)) rfl) ?_
  refine q_fa (ok_aload_n (by decide +kernel : decode cX11_count 64 = .ok (.aload_n 0, 1)) rfl rfl) ?_
  refine q_fa (ok_get (by decide +kernel : decode cX11_count 65 = .ok (.getfield 18, 3)) rfl (rfl : vwCl[11]? = some (RX11, TX11, 11)) inX11 (by decide) g179) ?_
  refine q_fa (ok_callV (by decide +kernel : decode cX11_count 68 = .ok (.invokevirtual 233, 3)) rfl kX6_length.1 kX6_length.2.1 kX6_length.2.2.1 kX6_length.2.2.2.1 kX6_length.2.2.2.2 (rfl : vwCl[6]? = some (RX6, TX6, 7)) g995 g996 g994) ?_
  refine q_fa (ok_iret (by decide +kernel : decode cX11_count 71 = .ok (.ireturn, 1)) rfl) ?_
  refine q_fa (ok_iconst (by decide +kernel : decode cX11_count 72 = .ok (.iconst (-1), 1)) rfl (by decide +kernel)) ?_
  refine q_fa (ok_iret (by decide +kernel : decode cX11_count 73 = .ok (.ireturn, 1)) rfl) ?_
  exact q_fa0
theorem exX11_count : ∃ t : Nat → qP, t = uX11_count := ⟨_, rfl⟩
noncomputable def tX11_count : Nat → qP := Classical.choose exX11_count
theorem teX11_count : tX11_count = uX11_count := Classical.choose_spec exX11_count
theorem sX11_count : q_Snd mX11_count tX11_count := by rw [teX11_count]; exact suX11_count
theorem tX11_count_0 : tX11_count 0 = oIl 1 1 := (congrFun teX11_count 0).trans rfl
theorem tX11_count_1 : tX11_count 1 = oTab 0 [32, 37, 45, 64] 72 := (congrFun teX11_count 1).trans rfl
theorem tX11_count_32 : tX11_count 32 = oAl 0 33 := (congrFun teX11_count 32).trans rfl
theorem tX11_count_33 : tX11_count 33 = oCallV 11 mX11_patternsInPlaces 0 36 := (congrFun teX11_count 33).trans rfl
theorem tX11_count_36 : tX11_count 36 = oIret := (congrFun teX11_count 36).trans rfl
theorem tX11_count_37 : tX11_count 37 = oAl 0 38 := (congrFun teX11_count 37).trans rfl
theorem tX11_count_38 : tX11_count 38 = oGet 11 7 41 := (congrFun teX11_count 38).trans rfl
theorem tX11_count_41 : tX11_count 41 = oCallV 7 mX7_size 0 44 := (congrFun teX11_count 41).trans rfl
theorem tX11_count_44 : tX11_count 44 = oIret := (congrFun teX11_count 44).trans rfl
theorem tX11_count_45 : tX11_count 45 = oAl 0 46 := (congrFun teX11_count 45).trans rfl
theorem tX11_count_46 : tX11_count 46 = oGet 11 7 49 := (congrFun teX11_count 46).trans rfl
theorem tX11_count_49 : tX11_count 49 = oCallV 7 mX7_size 0 52 := (congrFun teX11_count 49).trans rfl
theorem tX11_count_52 : tX11_count 52 = oAl 0 53 := (congrFun teX11_count 52).trans rfl
theorem tX11_count_53 : tX11_count 53 = oGet 11 7 56 := (congrFun teX11_count 53).trans rfl
theorem tX11_count_56 : tX11_count 56 = oCallV 7 mX7_standing 0 59 := (congrFun teX11_count 56).trans rfl
theorem tX11_count_59 : tX11_count 59 = oCallS mJ6_bitCount_0f7a4 1 62 := (congrFun teX11_count 59).trans rfl
theorem tX11_count_62 : tX11_count 62 = oSub 63 := (congrFun teX11_count 62).trans rfl
theorem tX11_count_63 : tX11_count 63 = oIret := (congrFun teX11_count 63).trans rfl
theorem tX11_count_64 : tX11_count 64 = oAl 0 65 := (congrFun teX11_count 64).trans rfl
theorem tX11_count_65 : tX11_count 65 = oGet 11 1 68 := (congrFun teX11_count 65).trans rfl
theorem tX11_count_68 : tX11_count 68 = oCallV 6 mX6_length 0 71 := (congrFun teX11_count 68).trans rfl
theorem tX11_count_71 : tX11_count 71 = oIret := (congrFun teX11_count 71).trans rfl
theorem tX11_count_72 : tX11_count 72 = oK (.int (-1)) 73 := (congrFun teX11_count 72).trans rfl
theorem tX11_count_73 : tX11_count 73 = oIret := (congrFun teX11_count 73).trans rfl
def lX11_placeAt : List (Nat × qP) := [(0, oIl 1 1), (1, oIf1lt 22 4), (4, oIl 1 5), (5, oAl 0 6), (6, oGet 11 0 9), (9, oAlen 10), (10, oIf2ge 22 13), (13, oAl 0 14), (14, oGet 11 0 17), (17, oIl 1 18), (18, oAald 19), (19, oGo 23), (22, oK .null 23), (23, oAret)]
def uX11_placeAt : Nat → qP := q_tb lX11_placeAt
set_option maxRecDepth 20000 in
theorem suX11_placeAt : q_Snd mX11_placeAt uX11_placeAt := by
  refine q_tb_ok ?_
  unfold lX11_placeAt
  refine q_fa (ok_iload_n (by decide +kernel : decode cX11_placeAt 0 = .ok (.iload_n 1, 1)) rfl rfl) ?_
  refine q_fa (ok_if1lt (by decide +kernel : decode cX11_placeAt 1 = .ok (.ifCond .lt 21, 3)) (by decide) rfl) ?_
  refine q_fa (ok_iload_n (by decide +kernel : decode cX11_placeAt 4 = .ok (.iload_n 1, 1)) rfl rfl) ?_
  refine q_fa (ok_aload_n (by decide +kernel : decode cX11_placeAt 5 = .ok (.aload_n 0, 1)) rfl rfl) ?_
  refine q_fa (ok_get (by decide +kernel : decode cX11_placeAt 6 = .ok (.getfield 11, 3)) rfl (rfl : vwCl[11]? = some (RX11, TX11, 11)) inX11 (by decide) g178) ?_
  refine q_fa (ok_alen (by decide +kernel : decode cX11_placeAt 9 = .ok (.arraylength, 1)) rfl) ?_
  refine q_fa (ok_if2ge (by decide +kernel : decode cX11_placeAt 10 = .ok (.if_icmp .ge 12, 3)) (by decide) rfl) ?_
  refine q_fa (ok_aload_n (by decide +kernel : decode cX11_placeAt 13 = .ok (.aload_n 0, 1)) rfl rfl) ?_
  refine q_fa (ok_get (by decide +kernel : decode cX11_placeAt 14 = .ok (.getfield 11, 3)) rfl (rfl : vwCl[11]? = some (RX11, TX11, 11)) inX11 (by decide) g178) ?_
  refine q_fa (ok_iload_n (by decide +kernel : decode cX11_placeAt 17 = .ok (.iload_n 1, 1)) rfl rfl) ?_
  refine q_fa (ok_aaload (by decide +kernel : decode cX11_placeAt 18 = .ok (.aaload, 1)) rfl) ?_
  refine q_fa (ok_goto (by decide +kernel : decode cX11_placeAt 19 = .ok (.goto 4, 3)) (by decide)) ?_
  refine q_fa (ok_null (by decide +kernel : decode cX11_placeAt 22 = .ok (.aconst_null, 1)) rfl) ?_
  refine q_fa (ok_aret (by decide +kernel : decode cX11_placeAt 23 = .ok (.areturn, 1)) rfl) ?_
  exact q_fa0
theorem exX11_placeAt : ∃ t : Nat → qP, t = uX11_placeAt := ⟨_, rfl⟩
noncomputable def tX11_placeAt : Nat → qP := Classical.choose exX11_placeAt
theorem teX11_placeAt : tX11_placeAt = uX11_placeAt := Classical.choose_spec exX11_placeAt
theorem sX11_placeAt : q_Snd mX11_placeAt tX11_placeAt := by rw [teX11_placeAt]; exact suX11_placeAt
theorem tX11_placeAt_0 : tX11_placeAt 0 = oIl 1 1 := (congrFun teX11_placeAt 0).trans rfl
theorem tX11_placeAt_1 : tX11_placeAt 1 = oIf1lt 22 4 := (congrFun teX11_placeAt 1).trans rfl
theorem tX11_placeAt_4 : tX11_placeAt 4 = oIl 1 5 := (congrFun teX11_placeAt 4).trans rfl
theorem tX11_placeAt_5 : tX11_placeAt 5 = oAl 0 6 := (congrFun teX11_placeAt 5).trans rfl
theorem tX11_placeAt_6 : tX11_placeAt 6 = oGet 11 0 9 := (congrFun teX11_placeAt 6).trans rfl
theorem tX11_placeAt_9 : tX11_placeAt 9 = oAlen 10 := (congrFun teX11_placeAt 9).trans rfl
theorem tX11_placeAt_10 : tX11_placeAt 10 = oIf2ge 22 13 := (congrFun teX11_placeAt 10).trans rfl
theorem tX11_placeAt_13 : tX11_placeAt 13 = oAl 0 14 := (congrFun teX11_placeAt 13).trans rfl
theorem tX11_placeAt_14 : tX11_placeAt 14 = oGet 11 0 17 := (congrFun teX11_placeAt 14).trans rfl
theorem tX11_placeAt_17 : tX11_placeAt 17 = oIl 1 18 := (congrFun teX11_placeAt 17).trans rfl
theorem tX11_placeAt_18 : tX11_placeAt 18 = oAald 19 := (congrFun teX11_placeAt 18).trans rfl
theorem tX11_placeAt_19 : tX11_placeAt 19 = oGo 23 := (congrFun teX11_placeAt 19).trans rfl
theorem tX11_placeAt_22 : tX11_placeAt 22 = oK .null 23 := (congrFun teX11_placeAt 22).trans rfl
theorem tX11_placeAt_23 : tX11_placeAt 23 = oAret := (congrFun teX11_placeAt 23).trans rfl
def lX11_patternAt : List (Nat × qP) := [(0, oAl 0 1), (1, oIl 1 2), (2, oCallV 11 mX11_placeAt 1 5), (5, oAs 2 6), (6, oAl 2 7), (7, oIfn 17 10), (10, oAl 2 11), (11, oCallV 4 mX4_size 0 14), (14, oIf1ne 21 17), (17, oK .null 18), (18, oGo 22), (21, oAl 2 22), (22, oAret)]
def uX11_patternAt : Nat → qP := q_tb lX11_patternAt
set_option maxRecDepth 20000 in
theorem suX11_patternAt : q_Snd mX11_patternAt uX11_patternAt := by
  refine q_tb_ok ?_
  unfold lX11_patternAt
  refine q_fa (ok_aload_n (by decide +kernel : decode cX11_patternAt 0 = .ok (.aload_n 0, 1)) rfl rfl) ?_
  refine q_fa (ok_iload_n (by decide +kernel : decode cX11_patternAt 1 = .ok (.iload_n 1, 1)) rfl rfl) ?_
  refine q_fa (ok_callV (by decide +kernel : decode cX11_patternAt 2 = .ok (.invokevirtual 67, 3)) rfl kX11_placeAt.1 kX11_placeAt.2.1 kX11_placeAt.2.2.1 kX11_placeAt.2.2.2.1 kX11_placeAt.2.2.2.2 (rfl : vwCl[11]? = some (RX11, TX11, 11)) g230 gs1 g228) ?_
  refine q_fa (ok_astore_n (by decide +kernel : decode cX11_patternAt 5 = .ok (.astore_n 2, 1)) rfl rfl (by decide)) ?_
  refine q_fa (ok_aload_n (by decide +kernel : decode cX11_patternAt 6 = .ok (.aload_n 2, 1)) rfl rfl) ?_
  refine q_fa (ok_ifnull (by decide +kernel : decode cX11_patternAt 7 = .ok (.ifnull 10, 3)) (by decide) rfl) ?_
  refine q_fa (ok_aload_n (by decide +kernel : decode cX11_patternAt 10 = .ok (.aload_n 2, 1)) rfl rfl) ?_
  refine q_fa (ok_callV (by decide +kernel : decode cX11_patternAt 11 = .ok (.invokevirtual 82, 3)) rfl kX4_size.1 kX4_size.2.1 kX4_size.2.2.1 kX4_size.2.2.2.1 kX4_size.2.2.2.2 (rfl : vwCl[4]? = some (RX4, TX4, 4)) g307 g308 g306) ?_
  refine q_fa (ok_if1ne (by decide +kernel : decode cX11_patternAt 14 = .ok (.ifCond .ne 7, 3)) (by decide) rfl) ?_
  refine q_fa (ok_null (by decide +kernel : decode cX11_patternAt 17 = .ok (.aconst_null, 1)) rfl) ?_
  refine q_fa (ok_goto (by decide +kernel : decode cX11_patternAt 18 = .ok (.goto 4, 3)) (by decide)) ?_
  refine q_fa (ok_aload_n (by decide +kernel : decode cX11_patternAt 21 = .ok (.aload_n 2, 1)) rfl rfl) ?_
  refine q_fa (ok_aret (by decide +kernel : decode cX11_patternAt 22 = .ok (.areturn, 1)) rfl) ?_
  exact q_fa0
theorem exX11_patternAt : ∃ t : Nat → qP, t = uX11_patternAt := ⟨_, rfl⟩
noncomputable def tX11_patternAt : Nat → qP := Classical.choose exX11_patternAt
theorem teX11_patternAt : tX11_patternAt = uX11_patternAt := Classical.choose_spec exX11_patternAt
theorem sX11_patternAt : q_Snd mX11_patternAt tX11_patternAt := by rw [teX11_patternAt]; exact suX11_patternAt
theorem tX11_patternAt_0 : tX11_patternAt 0 = oAl 0 1 := (congrFun teX11_patternAt 0).trans rfl
theorem tX11_patternAt_1 : tX11_patternAt 1 = oIl 1 2 := (congrFun teX11_patternAt 1).trans rfl
theorem tX11_patternAt_2 : tX11_patternAt 2 = oCallV 11 mX11_placeAt 1 5 := (congrFun teX11_patternAt 2).trans rfl
theorem tX11_patternAt_5 : tX11_patternAt 5 = oAs 2 6 := (congrFun teX11_patternAt 5).trans rfl
theorem tX11_patternAt_6 : tX11_patternAt 6 = oAl 2 7 := (congrFun teX11_patternAt 6).trans rfl
theorem tX11_patternAt_7 : tX11_patternAt 7 = oIfn 17 10 := (congrFun teX11_patternAt 7).trans rfl
theorem tX11_patternAt_10 : tX11_patternAt 10 = oAl 2 11 := (congrFun teX11_patternAt 10).trans rfl
theorem tX11_patternAt_11 : tX11_patternAt 11 = oCallV 4 mX4_size 0 14 := (congrFun teX11_patternAt 11).trans rfl
theorem tX11_patternAt_14 : tX11_patternAt 14 = oIf1ne 21 17 := (congrFun teX11_patternAt 14).trans rfl
theorem tX11_patternAt_17 : tX11_patternAt 17 = oK .null 18 := (congrFun teX11_patternAt 17).trans rfl
theorem tX11_patternAt_18 : tX11_patternAt 18 = oGo 22 := (congrFun teX11_patternAt 18).trans rfl
theorem tX11_patternAt_21 : tX11_patternAt 21 = oAl 2 22 := (congrFun teX11_patternAt 21).trans rfl
theorem tX11_patternAt_22 : tX11_patternAt 22 = oAret := (congrFun teX11_patternAt 22).trans rfl
def lX11_patternsInPlaces : List (Nat × qP) := [(0, oK (.int (nI 0)) 1), (1, oIs 1 2), (2, oK (.int (nI 0)) 3), (3, oIs 2 4), (4, oIl 2 5), (5, oK (.int (nI 10)) 7), (7, oIf2ge 27 10), (10, oAl 0 11), (11, oIl 2 12), (12, oCallV 11 mX11_patternAt 1 15), (15, oIfn 21 18), (18, oInc 1 (nI 1) 21), (21, oInc 2 (nI 1) 24), (24, oGo 4), (27, oIl 1 28), (28, oIret)]
def uX11_patternsInPlaces : Nat → qP := q_tb lX11_patternsInPlaces
set_option maxRecDepth 20000 in
theorem suX11_patternsInPlaces : q_Snd mX11_patternsInPlaces uX11_patternsInPlaces := by
  refine q_tb_ok ?_
  unfold lX11_patternsInPlaces
  refine q_fa (ok_iconst (by decide +kernel : decode cX11_patternsInPlaces 0 = .ok (.iconst 0, 1)) rfl (by decide +kernel)) ?_
  refine q_fa (ok_istore_n (by decide +kernel : decode cX11_patternsInPlaces 1 = .ok (.istore_n 1, 1)) rfl rfl (by decide)) ?_
  refine q_fa (ok_iconst (by decide +kernel : decode cX11_patternsInPlaces 2 = .ok (.iconst 0, 1)) rfl (by decide +kernel)) ?_
  refine q_fa (ok_istore_n (by decide +kernel : decode cX11_patternsInPlaces 3 = .ok (.istore_n 2, 1)) rfl rfl (by decide)) ?_
  refine q_fa (ok_iload_n (by decide +kernel : decode cX11_patternsInPlaces 4 = .ok (.iload_n 2, 1)) rfl rfl) ?_
  refine q_fa (ok_bipush (by decide +kernel : decode cX11_patternsInPlaces 5 = .ok (.bipush 10, 2)) rfl (by decide +kernel)) ?_
  refine q_fa (ok_if2ge (by decide +kernel : decode cX11_patternsInPlaces 7 = .ok (.if_icmp .ge 20, 3)) (by decide) rfl) ?_
  refine q_fa (ok_aload_n (by decide +kernel : decode cX11_patternsInPlaces 10 = .ok (.aload_n 0, 1)) rfl rfl) ?_
  refine q_fa (ok_iload_n (by decide +kernel : decode cX11_patternsInPlaces 11 = .ok (.iload_n 2, 1)) rfl rfl) ?_
  refine q_fa (ok_callV (by decide +kernel : decode cX11_patternsInPlaces 12 = .ok (.invokevirtual 92, 3)) rfl kX11_patternAt.1 kX11_patternAt.2.1 kX11_patternAt.2.2.1 kX11_patternAt.2.2.2.1 kX11_patternAt.2.2.2.2 (rfl : vwCl[11]? = some (RX11, TX11, 11)) g345 gs11 g343) ?_
  refine q_fa (ok_ifnull (by decide +kernel : decode cX11_patternsInPlaces 15 = .ok (.ifnull 6, 3)) (by decide) rfl) ?_
  refine q_fa (ok_iinc (by decide +kernel : decode cX11_patternsInPlaces 18 = .ok (.iinc 1 1, 3)) rfl (by decide +kernel) (by decide)) ?_
  refine q_fa (ok_iinc (by decide +kernel : decode cX11_patternsInPlaces 21 = .ok (.iinc 2 1, 3)) rfl (by decide +kernel) (by decide)) ?_
  refine q_fa (ok_goto (by decide +kernel : decode cX11_patternsInPlaces 24 = .ok (.goto (-20), 3)) (by decide)) ?_
  refine q_fa (ok_iload_n (by decide +kernel : decode cX11_patternsInPlaces 27 = .ok (.iload_n 1, 1)) rfl rfl) ?_
  refine q_fa (ok_iret (by decide +kernel : decode cX11_patternsInPlaces 28 = .ok (.ireturn, 1)) rfl) ?_
  exact q_fa0
theorem exX11_patternsInPlaces : ∃ t : Nat → qP, t = uX11_patternsInPlaces := ⟨_, rfl⟩
noncomputable def tX11_patternsInPlaces : Nat → qP := Classical.choose exX11_patternsInPlaces
theorem teX11_patternsInPlaces : tX11_patternsInPlaces = uX11_patternsInPlaces := Classical.choose_spec exX11_patternsInPlaces
theorem sX11_patternsInPlaces : q_Snd mX11_patternsInPlaces tX11_patternsInPlaces := by rw [teX11_patternsInPlaces]; exact suX11_patternsInPlaces
theorem tX11_patternsInPlaces_0 : tX11_patternsInPlaces 0 = oK (.int (nI 0)) 1 := (congrFun teX11_patternsInPlaces 0).trans rfl
theorem tX11_patternsInPlaces_1 : tX11_patternsInPlaces 1 = oIs 1 2 := (congrFun teX11_patternsInPlaces 1).trans rfl
theorem tX11_patternsInPlaces_2 : tX11_patternsInPlaces 2 = oK (.int (nI 0)) 3 := (congrFun teX11_patternsInPlaces 2).trans rfl
theorem tX11_patternsInPlaces_3 : tX11_patternsInPlaces 3 = oIs 2 4 := (congrFun teX11_patternsInPlaces 3).trans rfl
theorem tX11_patternsInPlaces_4 : tX11_patternsInPlaces 4 = oIl 2 5 := (congrFun teX11_patternsInPlaces 4).trans rfl
theorem tX11_patternsInPlaces_5 : tX11_patternsInPlaces 5 = oK (.int (nI 10)) 7 := (congrFun teX11_patternsInPlaces 5).trans rfl
theorem tX11_patternsInPlaces_7 : tX11_patternsInPlaces 7 = oIf2ge 27 10 := (congrFun teX11_patternsInPlaces 7).trans rfl
theorem tX11_patternsInPlaces_10 : tX11_patternsInPlaces 10 = oAl 0 11 := (congrFun teX11_patternsInPlaces 10).trans rfl
theorem tX11_patternsInPlaces_11 : tX11_patternsInPlaces 11 = oIl 2 12 := (congrFun teX11_patternsInPlaces 11).trans rfl
theorem tX11_patternsInPlaces_12 : tX11_patternsInPlaces 12 = oCallV 11 mX11_patternAt 1 15 := (congrFun teX11_patternsInPlaces 12).trans rfl
theorem tX11_patternsInPlaces_15 : tX11_patternsInPlaces 15 = oIfn 21 18 := (congrFun teX11_patternsInPlaces 15).trans rfl
theorem tX11_patternsInPlaces_18 : tX11_patternsInPlaces 18 = oInc 1 (nI 1) 21 := (congrFun teX11_patternsInPlaces 18).trans rfl
theorem tX11_patternsInPlaces_21 : tX11_patternsInPlaces 21 = oInc 2 (nI 1) 24 := (congrFun teX11_patternsInPlaces 21).trans rfl
theorem tX11_patternsInPlaces_24 : tX11_patternsInPlaces 24 = oGo 4 := (congrFun teX11_patternsInPlaces 24).trans rfl
theorem tX11_patternsInPlaces_27 : tX11_patternsInPlaces 27 = oIl 1 28 := (congrFun teX11_patternsInPlaces 27).trans rfl
theorem tX11_patternsInPlaces_28 : tX11_patternsInPlaces 28 = oIret := (congrFun teX11_patternsInPlaces 28).trans rfl
def lX11_theCatalogue : List (Nat × qP) := [(0, oAl 0 1), (1, oGet 11 9 4), (4, oIfnn 18 7), (7, oAl 0 8), (8, oNew 1 5 [.null, .null, .null, .null, .null] 11), (11, oDup 12), (12, oCallI mX1_init 0 15), (15, oPutR 11 9 18), (18, oAl 0 19), (19, oGet 11 9 22), (22, oAret)]
def uX11_theCatalogue : Nat → qP := q_tb lX11_theCatalogue
set_option maxRecDepth 20000 in
theorem suX11_theCatalogue : q_Snd mX11_theCatalogue uX11_theCatalogue := by
  refine q_tb_ok ?_
  unfold lX11_theCatalogue
  refine q_fa (ok_aload_n (by decide +kernel : decode cX11_theCatalogue 0 = .ok (.aload_n 0, 1)) rfl rfl) ?_
  refine q_fa (ok_get (by decide +kernel : decode cX11_theCatalogue 1 = .ok (.getfield 234, 3)) rfl (rfl : vwCl[11]? = some (RX11, TX11, 11)) inX11 (by decide) g187) ?_
  refine q_fa (ok_ifnonnull (by decide +kernel : decode cX11_theCatalogue 4 = .ok (.ifnonnull 14, 3)) (by decide) rfl) ?_
  refine q_fa (ok_aload_n (by decide +kernel : decode cX11_theCatalogue 7 = .ok (.aload_n 0, 1)) rfl rfl) ?_
  refine q_fa (ok_new tyX1 (by decide +kernel : decode cX11_theCatalogue 8 = .ok (.new 114, 3)) rfl (rfl : vwCl[1]? = some (RX1, TX1, 5)) inX1 tyX1_ok g391 g392 g11 (by decide +kernel)) ?_
  refine q_fa (ok_dup (by decide +kernel : decode cX11_theCatalogue 11 = .ok (.dup, 1)) rfl) ?_
  refine q_fa (ok_callI (by decide +kernel : decode cX11_theCatalogue 12 = .ok (.invokespecial 238, 3)) rfl kX1_init.1 kX1_init.2.1 kX1_init.2.2.1 kX1_init.2.2.2.1 kX1_init.2.2.2.2 rfl rfl g394 g393) ?_
  refine q_fa (ok_putR tyX11 (by decide +kernel : decode cX11_theCatalogue 15 = .ok (.putfield 234, 3)) rfl (rfl : vwCl[11]? = some (RX11, TX11, 11)) inX11 tyX11_ok nmX11 (by decide) g187 (Or.inl rfl) (by decide +kernel : parseFieldDescriptor (TX11 9).2.2.1 = some (tyX11 9)) (q_rfO _)) ?_
  refine q_fa (ok_aload_n (by decide +kernel : decode cX11_theCatalogue 18 = .ok (.aload_n 0, 1)) rfl rfl) ?_
  refine q_fa (ok_get (by decide +kernel : decode cX11_theCatalogue 19 = .ok (.getfield 234, 3)) rfl (rfl : vwCl[11]? = some (RX11, TX11, 11)) inX11 (by decide) g187) ?_
  refine q_fa (ok_aret (by decide +kernel : decode cX11_theCatalogue 22 = .ok (.areturn, 1)) rfl) ?_
  exact q_fa0
theorem exX11_theCatalogue : ∃ t : Nat → qP, t = uX11_theCatalogue := ⟨_, rfl⟩
noncomputable def tX11_theCatalogue : Nat → qP := Classical.choose exX11_theCatalogue
theorem teX11_theCatalogue : tX11_theCatalogue = uX11_theCatalogue := Classical.choose_spec exX11_theCatalogue
theorem sX11_theCatalogue : q_Snd mX11_theCatalogue tX11_theCatalogue := by rw [teX11_theCatalogue]; exact suX11_theCatalogue
theorem tX11_theCatalogue_0 : tX11_theCatalogue 0 = oAl 0 1 := (congrFun teX11_theCatalogue 0).trans rfl
theorem tX11_theCatalogue_1 : tX11_theCatalogue 1 = oGet 11 9 4 := (congrFun teX11_theCatalogue 1).trans rfl
theorem tX11_theCatalogue_4 : tX11_theCatalogue 4 = oIfnn 18 7 := (congrFun teX11_theCatalogue 4).trans rfl
theorem tX11_theCatalogue_7 : tX11_theCatalogue 7 = oAl 0 8 := (congrFun teX11_theCatalogue 7).trans rfl
theorem tX11_theCatalogue_8 : tX11_theCatalogue 8 = oNew 1 5 [.null, .null, .null, .null, .null] 11 := (congrFun teX11_theCatalogue 8).trans rfl
theorem tX11_theCatalogue_11 : tX11_theCatalogue 11 = oDup 12 := (congrFun teX11_theCatalogue 11).trans rfl
theorem tX11_theCatalogue_12 : tX11_theCatalogue 12 = oCallI mX1_init 0 15 := (congrFun teX11_theCatalogue 12).trans rfl
theorem tX11_theCatalogue_15 : tX11_theCatalogue 15 = oPutR 11 9 18 := (congrFun teX11_theCatalogue 15).trans rfl
theorem tX11_theCatalogue_18 : tX11_theCatalogue 18 = oAl 0 19 := (congrFun teX11_theCatalogue 18).trans rfl
theorem tX11_theCatalogue_19 : tX11_theCatalogue 19 = oGet 11 9 22 := (congrFun teX11_theCatalogue 19).trans rfl
theorem tX11_theCatalogue_22 : tX11_theCatalogue 22 = oAret := (congrFun teX11_theCatalogue 22).trans rfl
def lX11_theFinder : List (Nat × qP) := [(0, oAl 0 1), (1, oGet 11 10 4), (4, oIfnn 26 7), (7, oAl 0 8), (8, oNew 2 17 [.null, .null, .null, .null, .null, .null, .int 0, .null, .int 0, .null, .int 0, .null, .int 0, .int 0, .int 0, .int 0, .int 0] 11), (11, oDup 12), (12, oAl 0 13), (13, oCallVA 11 mX11_theCatalogue 0 16), (16, oAl 0 17), (17, oGet 11 7 20), (20, oCallI mX2_init 2 23), (23, oPutR 11 10 26), (26, oAl 0 27), (27, oGet 11 10 30), (30, oAret)]
def uX11_theFinder : Nat → qP := q_tb lX11_theFinder
set_option maxRecDepth 20000 in
theorem suX11_theFinder : q_Snd mX11_theFinder uX11_theFinder := by
  refine q_tb_ok ?_
  unfold lX11_theFinder
  refine q_fa (ok_aload_n (by decide +kernel : decode cX11_theFinder 0 = .ok (.aload_n 0, 1)) rfl rfl) ?_
  refine q_fa (ok_get (by decide +kernel : decode cX11_theFinder 1 = .ok (.getfield 201, 3)) rfl (rfl : vwCl[11]? = some (RX11, TX11, 11)) inX11 (by decide) g188) ?_
  refine q_fa (ok_ifnonnull (by decide +kernel : decode cX11_theFinder 4 = .ok (.ifnonnull 22, 3)) (by decide) rfl) ?_
  refine q_fa (ok_aload_n (by decide +kernel : decode cX11_theFinder 7 = .ok (.aload_n 0, 1)) rfl rfl) ?_
  refine q_fa (ok_new tyX2 (by decide +kernel : decode cX11_theFinder 8 = .ok (.new 190, 3)) rfl (rfl : vwCl[2]? = some (RX2, TX2, 17)) inX2 tyX2_ok g730 g731 g14 (by decide +kernel)) ?_
  refine q_fa (ok_dup (by decide +kernel : decode cX11_theFinder 11 = .ok (.dup, 1)) rfl) ?_
  refine q_fa (ok_aload_n (by decide +kernel : decode cX11_theFinder 12 = .ok (.aload_n 0, 1)) rfl rfl) ?_
  refine q_fa (ok_callVA (by decide +kernel : decode cX11_theFinder 13 = .ok (.invokevirtual 109, 3)) rfl kX11_theCatalogue.1 kX11_theCatalogue.2.1 kX11_theCatalogue.2.2.1 kX11_theCatalogue.2.2.2.1 kX11_theCatalogue.2.2.2.2 (rfl : vwCl[11]? = some (RX11, TX11, 11)) g389 gs14 g387) ?_
  refine q_fa (ok_aload_n (by decide +kernel : decode cX11_theFinder 16 = .ok (.aload_n 0, 1)) rfl rfl) ?_
  refine q_fa (ok_get (by decide +kernel : decode cX11_theFinder 17 = .ok (.getfield 58, 3)) rfl (rfl : vwCl[11]? = some (RX11, TX11, 11)) inX11 (by decide) g185) ?_
  refine q_fa (ok_callI (by decide +kernel : decode cX11_theFinder 20 = .ok (.invokespecial 239, 3)) rfl kX2_init.1 kX2_init.2.1 kX2_init.2.2.1 kX2_init.2.2.2.1 kX2_init.2.2.2.2 rfl rfl g733 g732) ?_
  refine q_fa (ok_putR tyX11 (by decide +kernel : decode cX11_theFinder 23 = .ok (.putfield 201, 3)) rfl (rfl : vwCl[11]? = some (RX11, TX11, 11)) inX11 tyX11_ok nmX11 (by decide) g188 (Or.inl rfl) (by decide +kernel : parseFieldDescriptor (TX11 10).2.2.1 = some (tyX11 10)) (q_rfO _)) ?_
  refine q_fa (ok_aload_n (by decide +kernel : decode cX11_theFinder 26 = .ok (.aload_n 0, 1)) rfl rfl) ?_
  refine q_fa (ok_get (by decide +kernel : decode cX11_theFinder 27 = .ok (.getfield 201, 3)) rfl (rfl : vwCl[11]? = some (RX11, TX11, 11)) inX11 (by decide) g188) ?_
  refine q_fa (ok_aret (by decide +kernel : decode cX11_theFinder 30 = .ok (.areturn, 1)) rfl) ?_
  exact q_fa0
theorem exX11_theFinder : ∃ t : Nat → qP, t = uX11_theFinder := ⟨_, rfl⟩
noncomputable def tX11_theFinder : Nat → qP := Classical.choose exX11_theFinder
theorem teX11_theFinder : tX11_theFinder = uX11_theFinder := Classical.choose_spec exX11_theFinder
theorem sX11_theFinder : q_Snd mX11_theFinder tX11_theFinder := by rw [teX11_theFinder]; exact suX11_theFinder
theorem tX11_theFinder_0 : tX11_theFinder 0 = oAl 0 1 := (congrFun teX11_theFinder 0).trans rfl
theorem tX11_theFinder_1 : tX11_theFinder 1 = oGet 11 10 4 := (congrFun teX11_theFinder 1).trans rfl
theorem tX11_theFinder_4 : tX11_theFinder 4 = oIfnn 26 7 := (congrFun teX11_theFinder 4).trans rfl
theorem tX11_theFinder_7 : tX11_theFinder 7 = oAl 0 8 := (congrFun teX11_theFinder 7).trans rfl
theorem tX11_theFinder_8 : tX11_theFinder 8 = oNew 2 17 [.null, .null, .null, .null, .null, .null, .int 0, .null, .int 0, .null, .int 0, .null, .int 0, .int 0, .int 0, .int 0, .int 0] 11 := (congrFun teX11_theFinder 8).trans rfl
theorem tX11_theFinder_11 : tX11_theFinder 11 = oDup 12 := (congrFun teX11_theFinder 11).trans rfl
theorem tX11_theFinder_12 : tX11_theFinder 12 = oAl 0 13 := (congrFun teX11_theFinder 12).trans rfl
theorem tX11_theFinder_13 : tX11_theFinder 13 = oCallVA 11 mX11_theCatalogue 0 16 := (congrFun teX11_theFinder 13).trans rfl
theorem tX11_theFinder_16 : tX11_theFinder 16 = oAl 0 17 := (congrFun teX11_theFinder 16).trans rfl
theorem tX11_theFinder_17 : tX11_theFinder 17 = oGet 11 7 20 := (congrFun teX11_theFinder 17).trans rfl
theorem tX11_theFinder_20 : tX11_theFinder 20 = oCallI mX2_init 2 23 := (congrFun teX11_theFinder 20).trans rfl
theorem tX11_theFinder_23 : tX11_theFinder 23 = oPutR 11 10 26 := (congrFun teX11_theFinder 23).trans rfl
theorem tX11_theFinder_26 : tX11_theFinder 26 = oAl 0 27 := (congrFun teX11_theFinder 26).trans rfl
theorem tX11_theFinder_27 : tX11_theFinder 27 = oGet 11 10 30 := (congrFun teX11_theFinder 27).trans rfl
theorem tX11_theFinder_30 : tX11_theFinder 30 = oAret := (congrFun teX11_theFinder 30).trans rfl
def lX11_putFound : List (Nat × qP) := [(0, oIl 2 1), (1, oIf1ge 7 4), (4, oK (.int (-2)) 6), (6, oIret), (7, oAl 1 8), (8, oAl 0 9), (9, oCallVA 11 mX11_theCatalogue 0 12), (12, oCallV 1 mX1_nodes 0 15), (15, oIl 2 16), (16, oCallV 4 mX4_become 2 19), (19, oAl 1 20), (20, oCallV 4 mX4_cost 0 23), (23, oIret)]
def uX11_putFound : Nat → qP := q_tb lX11_putFound
set_option maxRecDepth 20000 in
theorem suX11_putFound : q_Snd mX11_putFound uX11_putFound := by
  refine q_tb_ok ?_
  unfold lX11_putFound
  refine q_fa (ok_iload_n (by decide +kernel : decode cX11_putFound 0 = .ok (.iload_n 2, 1)) rfl rfl) ?_
  refine q_fa (ok_if1ge (by decide +kernel : decode cX11_putFound 1 = .ok (.ifCond .ge 6, 3)) (by decide) rfl) ?_
  refine q_fa (ok_bipush (by decide +kernel : decode cX11_putFound 4 = .ok (.bipush (-2), 2)) rfl (by decide +kernel)) ?_
  refine q_fa (ok_iret (by decide +kernel : decode cX11_putFound 6 = .ok (.ireturn, 1)) rfl) ?_
  refine q_fa (ok_aload_n (by decide +kernel : decode cX11_putFound 7 = .ok (.aload_n 1, 1)) rfl rfl) ?_
  refine q_fa (ok_aload_n (by decide +kernel : decode cX11_putFound 8 = .ok (.aload_n 0, 1)) rfl rfl) ?_
  refine q_fa (ok_callVA (by decide +kernel : decode cX11_putFound 9 = .ok (.invokevirtual 109, 3)) rfl kX11_theCatalogue.1 kX11_theCatalogue.2.1 kX11_theCatalogue.2.2.1 kX11_theCatalogue.2.2.2.1 kX11_theCatalogue.2.2.2.2 (rfl : vwCl[11]? = some (RX11, TX11, 11)) g389 gs14 g387) ?_
  refine q_fa (ok_callV (by decide +kernel : decode cX11_putFound 12 = .ok (.invokevirtual 128, 3)) rfl kX1_nodes.1 kX1_nodes.2.1 kX1_nodes.2.2.1 kX1_nodes.2.2.2.1 kX1_nodes.2.2.2.2 (rfl : vwCl[1]? = some (RX1, TX1, 5)) g479 g480 g478) ?_
  refine q_fa (ok_iload_n (by decide +kernel : decode cX11_putFound 15 = .ok (.iload_n 2, 1)) rfl rfl) ?_
  refine q_fa (ok_callV (by decide +kernel : decode cX11_putFound 16 = .ok (.invokevirtual 85, 3)) rfl kX4_become.1 kX4_become.2.1 kX4_become.2.2.1 kX4_become.2.2.2.1 kX4_become.2.2.2.2 (rfl : vwCl[4]? = some (RX4, TX4, 4)) g311 g312 g310) ?_
  refine q_fa (ok_aload_n (by decide +kernel : decode cX11_putFound 19 = .ok (.aload_n 1, 1)) rfl rfl) ?_
  refine q_fa (ok_callV (by decide +kernel : decode cX11_putFound 20 = .ok (.invokevirtual 89, 3)) rfl kX4_cost.1 kX4_cost.2.1 kX4_cost.2.2.1 kX4_cost.2.2.2.1 kX4_cost.2.2.2.2 (rfl : vwCl[4]? = some (RX4, TX4, 4)) g331 g332 g330) ?_
  refine q_fa (ok_iret (by decide +kernel : decode cX11_putFound 23 = .ok (.ireturn, 1)) rfl) ?_
  exact q_fa0
theorem exX11_putFound : ∃ t : Nat → qP, t = uX11_putFound := ⟨_, rfl⟩
noncomputable def tX11_putFound : Nat → qP := Classical.choose exX11_putFound
theorem teX11_putFound : tX11_putFound = uX11_putFound := Classical.choose_spec exX11_putFound
theorem sX11_putFound : q_Snd mX11_putFound tX11_putFound := by rw [teX11_putFound]; exact suX11_putFound
theorem tX11_putFound_0 : tX11_putFound 0 = oIl 2 1 := (congrFun teX11_putFound 0).trans rfl
theorem tX11_putFound_1 : tX11_putFound 1 = oIf1ge 7 4 := (congrFun teX11_putFound 1).trans rfl
theorem tX11_putFound_4 : tX11_putFound 4 = oK (.int (-2)) 6 := (congrFun teX11_putFound 4).trans rfl
theorem tX11_putFound_6 : tX11_putFound 6 = oIret := (congrFun teX11_putFound 6).trans rfl
theorem tX11_putFound_7 : tX11_putFound 7 = oAl 1 8 := (congrFun teX11_putFound 7).trans rfl
theorem tX11_putFound_8 : tX11_putFound 8 = oAl 0 9 := (congrFun teX11_putFound 8).trans rfl
theorem tX11_putFound_9 : tX11_putFound 9 = oCallVA 11 mX11_theCatalogue 0 12 := (congrFun teX11_putFound 9).trans rfl
theorem tX11_putFound_12 : tX11_putFound 12 = oCallV 1 mX1_nodes 0 15 := (congrFun teX11_putFound 12).trans rfl
theorem tX11_putFound_15 : tX11_putFound 15 = oIl 2 16 := (congrFun teX11_putFound 15).trans rfl
theorem tX11_putFound_16 : tX11_putFound 16 = oCallV 4 mX4_become 2 19 := (congrFun teX11_putFound 16).trans rfl
theorem tX11_putFound_19 : tX11_putFound 19 = oAl 1 20 := (congrFun teX11_putFound 19).trans rfl
theorem tX11_putFound_20 : tX11_putFound 20 = oCallV 4 mX4_cost 0 23 := (congrFun teX11_putFound 20).trans rfl
theorem tX11_putFound_23 : tX11_putFound 23 = oIret := (congrFun teX11_putFound 23).trans rfl
def lX11_partingRow : List (Nat × qP) := [(0, oAl 0 1), (1, oIl 1 2), (2, oCallV 11 mX11_patternAt 1 5), (5, oAs 4 7), (7, oAl 0 8), (8, oIl 2 9), (9, oCallV 11 mX11_patternAt 1 12), (12, oAs 5 14), (14, oAl 4 16), (16, oIfn 24 19), (19, oAl 5 21), (21, oIfnn 26 24), (24, oK (.int (-1)) 25), (25, oIret), (26, oAl 0 27), (27, oGet 11 8 30), (30, oIfnn 44 33), (33, oAl 0 34), (34, oNew 5 3 [.null, .null, .int 0] 37), (37, oDup 38), (38, oCallI mX5_init 0 41), (41, oPutR 11 8 44), (44, oAl 0 45), (45, oGet 11 3 48), (48, oAl 4 50), (50, oCallV 0 mX0_build 1 53), (53, oAl 0 54), (54, oGet 11 4 57), (57, oAl 5 59), (59, oCallV 0 mX0_build 1 62), (62, oAl 0 63), (63, oGet 11 8 66), (66, oAl 0 67), (67, oGet 11 3 70), (70, oAl 0 71), (71, oGet 11 4 74), (74, oIl 3 75), (75, oCallV 5 mX5_firstRow 3 78), (78, oIret)]
def uX11_partingRow : Nat → qP := q_tb lX11_partingRow
set_option maxRecDepth 20000 in
theorem suX11_partingRow : q_Snd mX11_partingRow uX11_partingRow := by
  refine q_tb_ok ?_
  unfold lX11_partingRow
  refine q_fa (ok_aload_n (by decide +kernel : decode cX11_partingRow 0 = .ok (.aload_n 0, 1)) rfl rfl) ?_
  refine q_fa (ok_iload_n (by decide +kernel : decode cX11_partingRow 1 = .ok (.iload_n 1, 1)) rfl rfl) ?_
  refine q_fa (ok_callV (by decide +kernel : decode cX11_partingRow 2 = .ok (.invokevirtual 92, 3)) rfl kX11_patternAt.1 kX11_patternAt.2.1 kX11_patternAt.2.2.1 kX11_patternAt.2.2.2.1 kX11_patternAt.2.2.2.2 (rfl : vwCl[11]? = some (RX11, TX11, 11)) g345 gs11 g343) ?_
  refine q_fa (ok_astore (by decide +kernel : decode cX11_partingRow 5 = .ok (.astore 4, 2)) rfl (by decide)) ?_
  refine q_fa (ok_aload_n (by decide +kernel : decode cX11_partingRow 7 = .ok (.aload_n 0, 1)) rfl rfl) ?_
  refine q_fa (ok_iload_n (by decide +kernel : decode cX11_partingRow 8 = .ok (.iload_n 2, 1)) rfl rfl) ?_
  refine q_fa (ok_callV (by decide +kernel : decode cX11_partingRow 9 = .ok (.invokevirtual 92, 3)) rfl kX11_patternAt.1 kX11_patternAt.2.1 kX11_patternAt.2.2.1 kX11_patternAt.2.2.2.1 kX11_patternAt.2.2.2.2 (rfl : vwCl[11]? = some (RX11, TX11, 11)) g345 gs11 g343) ?_
  refine q_fa (ok_astore (by decide +kernel : decode cX11_partingRow 12 = .ok (.astore 5, 2)) rfl (by decide)) ?_
  refine q_fa (ok_aload (by decide +kernel : decode cX11_partingRow 14 = .ok (.aload 4, 2)) rfl) ?_
  refine q_fa (ok_ifnull (by decide +kernel : decode cX11_partingRow 16 = .ok (.ifnull 8, 3)) (by decide) rfl) ?_
  refine q_fa (ok_aload (by decide +kernel : decode cX11_partingRow 19 = .ok (.aload 5, 2)) rfl) ?_
  refine q_fa (ok_ifnonnull (by decide +kernel : decode cX11_partingRow 21 = .ok (.ifnonnull 5, 3)) (by decide) rfl) ?_
  refine q_fa (ok_iconst (by decide +kernel : decode cX11_partingRow 24 = .ok (.iconst (-1), 1)) rfl (by decide +kernel)) ?_
  refine q_fa (ok_iret (by decide +kernel : decode cX11_partingRow 25 = .ok (.ireturn, 1)) rfl) ?_
  refine q_fa (ok_aload_n (by decide +kernel : decode cX11_partingRow 26 = .ok (.aload_n 0, 1)) rfl rfl) ?_
  refine q_fa (ok_get (by decide +kernel : decode cX11_partingRow 27 = .ok (.getfield 242, 3)) rfl (rfl : vwCl[11]? = some (RX11, TX11, 11)) inX11 (by decide) g186) ?_
  refine q_fa (ok_ifnonnull (by decide +kernel : decode cX11_partingRow 30 = .ok (.ifnonnull 14, 3)) (by decide) rfl) ?_
  refine q_fa (ok_aload_n (by decide +kernel : decode cX11_partingRow 33 = .ok (.aload_n 0, 1)) rfl rfl) ?_
  refine q_fa (ok_new tyX5 (by decide +kernel : decode cX11_partingRow 34 = .ok (.new 246, 3)) rfl (rfl : vwCl[5]? = some (RX5, TX5, 3)) inX5 tyX5_ok g573 g574 g13 (by decide +kernel)) ?_
  refine q_fa (ok_dup (by decide +kernel : decode cX11_partingRow 37 = .ok (.dup, 1)) rfl) ?_
  refine q_fa (ok_callIN (by decide +kernel : decode cX11_partingRow 38 = .ok (.invokespecial 248, 3)) rfl kX5_init.1 kX5_init.2.1 kX5_init.2.2.1 kX5_init.2.2.2.1 kX5_init.2.2.2.2 rfl rfl g576 gn575) ?_
  refine q_fa (ok_putR tyX11 (by decide +kernel : decode cX11_partingRow 41 = .ok (.putfield 242, 3)) rfl (rfl : vwCl[11]? = some (RX11, TX11, 11)) inX11 tyX11_ok nmX11 (by decide) g186 (Or.inl rfl) (by decide +kernel : parseFieldDescriptor (TX11 8).2.2.1 = some (tyX11 8)) (q_rfO _)) ?_
  refine q_fa (ok_aload_n (by decide +kernel : decode cX11_partingRow 44 = .ok (.aload_n 0, 1)) rfl rfl) ?_
  refine q_fa (ok_get (by decide +kernel : decode cX11_partingRow 45 = .ok (.getfield 32, 3)) rfl (rfl : vwCl[11]? = some (RX11, TX11, 11)) inX11 (by decide) g181) ?_
  refine q_fa (ok_aload (by decide +kernel : decode cX11_partingRow 48 = .ok (.aload 4, 2)) rfl) ?_
  refine q_fa (ok_callV (by decide +kernel : decode cX11_partingRow 50 = .ok (.invokevirtual 132, 3)) rfl kX0_build.1 kX0_build.2.1 kX0_build.2.2.1 kX0_build.2.2.2.1 kX0_build.2.2.2.2 (rfl : vwCl[0]? = some (RX0, TX0, 9)) g492 g493 g491) ?_
  refine q_fa (ok_aload_n (by decide +kernel : decode cX11_partingRow 53 = .ok (.aload_n 0, 1)) rfl rfl) ?_
  refine q_fa (ok_get (by decide +kernel : decode cX11_partingRow 54 = .ok (.getfield 36, 3)) rfl (rfl : vwCl[11]? = some (RX11, TX11, 11)) inX11 (by decide) g182) ?_
  refine q_fa (ok_aload (by decide +kernel : decode cX11_partingRow 57 = .ok (.aload 5, 2)) rfl) ?_
  refine q_fa (ok_callV (by decide +kernel : decode cX11_partingRow 59 = .ok (.invokevirtual 132, 3)) rfl kX0_build.1 kX0_build.2.1 kX0_build.2.2.1 kX0_build.2.2.2.1 kX0_build.2.2.2.2 (rfl : vwCl[0]? = some (RX0, TX0, 9)) g492 g493 g491) ?_
  refine q_fa (ok_aload_n (by decide +kernel : decode cX11_partingRow 62 = .ok (.aload_n 0, 1)) rfl rfl) ?_
  refine q_fa (ok_get (by decide +kernel : decode cX11_partingRow 63 = .ok (.getfield 242, 3)) rfl (rfl : vwCl[11]? = some (RX11, TX11, 11)) inX11 (by decide) g186) ?_
  refine q_fa (ok_aload_n (by decide +kernel : decode cX11_partingRow 66 = .ok (.aload_n 0, 1)) rfl rfl) ?_
  refine q_fa (ok_get (by decide +kernel : decode cX11_partingRow 67 = .ok (.getfield 32, 3)) rfl (rfl : vwCl[11]? = some (RX11, TX11, 11)) inX11 (by decide) g181) ?_
  refine q_fa (ok_aload_n (by decide +kernel : decode cX11_partingRow 70 = .ok (.aload_n 0, 1)) rfl rfl) ?_
  refine q_fa (ok_get (by decide +kernel : decode cX11_partingRow 71 = .ok (.getfield 36, 3)) rfl (rfl : vwCl[11]? = some (RX11, TX11, 11)) inX11 (by decide) g182) ?_
  refine q_fa (ok_iload_n (by decide +kernel : decode cX11_partingRow 74 = .ok (.iload_n 3, 1)) rfl rfl) ?_
  refine q_fa (ok_callV (by decide +kernel : decode cX11_partingRow 75 = .ok (.invokevirtual 249, 3)) rfl kX5_firstRow.1 kX5_firstRow.2.1 kX5_firstRow.2.2.1 kX5_firstRow.2.2.2.1 kX5_firstRow.2.2.2.2 (rfl : vwCl[5]? = some (RX5, TX5, 3)) g590 g591 g589) ?_
  refine q_fa (ok_iret (by decide +kernel : decode cX11_partingRow 78 = .ok (.ireturn, 1)) rfl) ?_
  exact q_fa0
theorem exX11_partingRow : ∃ t : Nat → qP, t = uX11_partingRow := ⟨_, rfl⟩
noncomputable def tX11_partingRow : Nat → qP := Classical.choose exX11_partingRow
theorem teX11_partingRow : tX11_partingRow = uX11_partingRow := Classical.choose_spec exX11_partingRow
theorem sX11_partingRow : q_Snd mX11_partingRow tX11_partingRow := by rw [teX11_partingRow]; exact suX11_partingRow
theorem tX11_partingRow_0 : tX11_partingRow 0 = oAl 0 1 := (congrFun teX11_partingRow 0).trans rfl
theorem tX11_partingRow_1 : tX11_partingRow 1 = oIl 1 2 := (congrFun teX11_partingRow 1).trans rfl
theorem tX11_partingRow_2 : tX11_partingRow 2 = oCallV 11 mX11_patternAt 1 5 := (congrFun teX11_partingRow 2).trans rfl
theorem tX11_partingRow_5 : tX11_partingRow 5 = oAs 4 7 := (congrFun teX11_partingRow 5).trans rfl
theorem tX11_partingRow_7 : tX11_partingRow 7 = oAl 0 8 := (congrFun teX11_partingRow 7).trans rfl
theorem tX11_partingRow_8 : tX11_partingRow 8 = oIl 2 9 := (congrFun teX11_partingRow 8).trans rfl
theorem tX11_partingRow_9 : tX11_partingRow 9 = oCallV 11 mX11_patternAt 1 12 := (congrFun teX11_partingRow 9).trans rfl
theorem tX11_partingRow_12 : tX11_partingRow 12 = oAs 5 14 := (congrFun teX11_partingRow 12).trans rfl
theorem tX11_partingRow_14 : tX11_partingRow 14 = oAl 4 16 := (congrFun teX11_partingRow 14).trans rfl
theorem tX11_partingRow_16 : tX11_partingRow 16 = oIfn 24 19 := (congrFun teX11_partingRow 16).trans rfl
theorem tX11_partingRow_19 : tX11_partingRow 19 = oAl 5 21 := (congrFun teX11_partingRow 19).trans rfl
theorem tX11_partingRow_21 : tX11_partingRow 21 = oIfnn 26 24 := (congrFun teX11_partingRow 21).trans rfl
theorem tX11_partingRow_24 : tX11_partingRow 24 = oK (.int (-1)) 25 := (congrFun teX11_partingRow 24).trans rfl
theorem tX11_partingRow_25 : tX11_partingRow 25 = oIret := (congrFun teX11_partingRow 25).trans rfl
theorem tX11_partingRow_26 : tX11_partingRow 26 = oAl 0 27 := (congrFun teX11_partingRow 26).trans rfl
theorem tX11_partingRow_27 : tX11_partingRow 27 = oGet 11 8 30 := (congrFun teX11_partingRow 27).trans rfl
theorem tX11_partingRow_30 : tX11_partingRow 30 = oIfnn 44 33 := (congrFun teX11_partingRow 30).trans rfl
theorem tX11_partingRow_33 : tX11_partingRow 33 = oAl 0 34 := (congrFun teX11_partingRow 33).trans rfl
theorem tX11_partingRow_34 : tX11_partingRow 34 = oNew 5 3 [.null, .null, .int 0] 37 := (congrFun teX11_partingRow 34).trans rfl
theorem tX11_partingRow_37 : tX11_partingRow 37 = oDup 38 := (congrFun teX11_partingRow 37).trans rfl
theorem tX11_partingRow_38 : tX11_partingRow 38 = oCallI mX5_init 0 41 := (congrFun teX11_partingRow 38).trans rfl
theorem tX11_partingRow_41 : tX11_partingRow 41 = oPutR 11 8 44 := (congrFun teX11_partingRow 41).trans rfl
theorem tX11_partingRow_44 : tX11_partingRow 44 = oAl 0 45 := (congrFun teX11_partingRow 44).trans rfl
theorem tX11_partingRow_45 : tX11_partingRow 45 = oGet 11 3 48 := (congrFun teX11_partingRow 45).trans rfl
theorem tX11_partingRow_48 : tX11_partingRow 48 = oAl 4 50 := (congrFun teX11_partingRow 48).trans rfl
theorem tX11_partingRow_50 : tX11_partingRow 50 = oCallV 0 mX0_build 1 53 := (congrFun teX11_partingRow 50).trans rfl
theorem tX11_partingRow_53 : tX11_partingRow 53 = oAl 0 54 := (congrFun teX11_partingRow 53).trans rfl
theorem tX11_partingRow_54 : tX11_partingRow 54 = oGet 11 4 57 := (congrFun teX11_partingRow 54).trans rfl
theorem tX11_partingRow_57 : tX11_partingRow 57 = oAl 5 59 := (congrFun teX11_partingRow 57).trans rfl
theorem tX11_partingRow_59 : tX11_partingRow 59 = oCallV 0 mX0_build 1 62 := (congrFun teX11_partingRow 59).trans rfl
theorem tX11_partingRow_62 : tX11_partingRow 62 = oAl 0 63 := (congrFun teX11_partingRow 62).trans rfl
theorem tX11_partingRow_63 : tX11_partingRow 63 = oGet 11 8 66 := (congrFun teX11_partingRow 63).trans rfl
theorem tX11_partingRow_66 : tX11_partingRow 66 = oAl 0 67 := (congrFun teX11_partingRow 66).trans rfl
theorem tX11_partingRow_67 : tX11_partingRow 67 = oGet 11 3 70 := (congrFun teX11_partingRow 67).trans rfl
theorem tX11_partingRow_70 : tX11_partingRow 70 = oAl 0 71 := (congrFun teX11_partingRow 70).trans rfl
theorem tX11_partingRow_71 : tX11_partingRow 71 = oGet 11 4 74 := (congrFun teX11_partingRow 71).trans rfl
theorem tX11_partingRow_74 : tX11_partingRow 74 = oIl 3 75 := (congrFun teX11_partingRow 74).trans rfl
theorem tX11_partingRow_75 : tX11_partingRow 75 = oCallV 5 mX5_firstRow 3 78 := (congrFun teX11_partingRow 75).trans rfl
theorem tX11_partingRow_78 : tX11_partingRow 78 = oIret := (congrFun teX11_partingRow 78).trans rfl
def lX11_agreesWith : List (Nat × qP) := [(0, oAl 0 1), (1, oGet 11 6 4), (4, oAl 0 5), (5, oGet 11 7 8), (8, oIl 2 9), (9, oCallV 7 mX7_rowOf 1 12), (12, oAl 0 13), (13, oGet 11 7 16), (16, oIl 2 17), (17, oCallV 7 mX7_rowOf 1 20), (20, oCallS mX11_lengthOf 1 23), (23, oCallV 8 mX8_lay 2 26), (26, oAl 0 27), (27, oGet 11 6 30), (30, oAl 1 31), (31, oCallV 8 mX8_fill 1 34), (34, oAl 0 35), (35, oGet 11 7 38), (38, oIl 2 39), (39, oAl 0 40), (40, oGet 11 6 43), (43, oAl 1 44), (44, oCallV 4 mX4_size 0 47), (47, oK (.int (nI 1)) 48), (48, oSub 49), (49, oCallV 8 mX8_of 1 52), (52, oCallV 7 mX7_isSo 2 55), (55, oZret)]
def uX11_agreesWith : Nat → qP := q_tb lX11_agreesWith
set_option maxRecDepth 20000 in
theorem suX11_agreesWith : q_Snd mX11_agreesWith uX11_agreesWith := by
  refine q_tb_ok ?_
  unfold lX11_agreesWith
  refine q_fa (ok_aload_n (by decide +kernel : decode cX11_agreesWith 0 = .ok (.aload_n 0, 1)) rfl rfl) ?_
  refine q_fa (ok_get (by decide +kernel : decode cX11_agreesWith 1 = .ok (.getfield 51, 3)) rfl (rfl : vwCl[11]? = some (RX11, TX11, 11)) inX11 (by decide) g184) ?_
  refine q_fa (ok_aload_n (by decide +kernel : decode cX11_agreesWith 4 = .ok (.aload_n 0, 1)) rfl rfl) ?_
  refine q_fa (ok_get (by decide +kernel : decode cX11_agreesWith 5 = .ok (.getfield 58, 3)) rfl (rfl : vwCl[11]? = some (RX11, TX11, 11)) inX11 (by decide) g185) ?_
  refine q_fa (ok_iload_n (by decide +kernel : decode cX11_agreesWith 8 = .ok (.iload_n 2, 1)) rfl rfl) ?_
  refine q_fa (ok_callV (by decide +kernel : decode cX11_agreesWith 9 = .ok (.invokevirtual 253, 3)) rfl kX7_rowOf.1 kX7_rowOf.2.1 kX7_rowOf.2.2.1 kX7_rowOf.2.2.2.1 kX7_rowOf.2.2.2.2 (rfl : vwCl[7]? = some (RX7, TX7, 6)) g648 g649 g647) ?_
  refine q_fa (ok_aload_n (by decide +kernel : decode cX11_agreesWith 12 = .ok (.aload_n 0, 1)) rfl rfl) ?_
  refine q_fa (ok_get (by decide +kernel : decode cX11_agreesWith 13 = .ok (.getfield 58, 3)) rfl (rfl : vwCl[11]? = some (RX11, TX11, 11)) inX11 (by decide) g185) ?_
  refine q_fa (ok_iload_n (by decide +kernel : decode cX11_agreesWith 16 = .ok (.iload_n 2, 1)) rfl rfl) ?_
  refine q_fa (ok_callV (by decide +kernel : decode cX11_agreesWith 17 = .ok (.invokevirtual 253, 3)) rfl kX7_rowOf.1 kX7_rowOf.2.1 kX7_rowOf.2.2.1 kX7_rowOf.2.2.2.1 kX7_rowOf.2.2.2.2 (rfl : vwCl[7]? = some (RX7, TX7, 6)) g648 g649 g647) ?_
  refine q_fa (ok_callS (by decide +kernel : decode cX11_agreesWith 20 = .ok (.invokestatic 129, 3)) rfl kX11_lengthOf.1 kX11_lengthOf.2.1 kX11_lengthOf.2.2.1 kX11_lengthOf.2.2.2.1 kX11_lengthOf.2.2.2.2 g487 g486) ?_
  refine q_fa (ok_callV (by decide +kernel : decode cX11_agreesWith 23 = .ok (.invokevirtual 256, 3)) rfl kX8_lay.1 kX8_lay.2.1 kX8_lay.2.2.1 kX8_lay.2.2.2.1 kX8_lay.2.2.2.2 (rfl : vwCl[8]? = some (RX8, TX8, 2)) g653 g654 g652) ?_
  refine q_fa (ok_aload_n (by decide +kernel : decode cX11_agreesWith 26 = .ok (.aload_n 0, 1)) rfl rfl) ?_
  refine q_fa (ok_get (by decide +kernel : decode cX11_agreesWith 27 = .ok (.getfield 51, 3)) rfl (rfl : vwCl[11]? = some (RX11, TX11, 11)) inX11 (by decide) g184) ?_
  refine q_fa (ok_aload_n (by decide +kernel : decode cX11_agreesWith 30 = .ok (.aload_n 1, 1)) rfl rfl) ?_
  refine q_fa (ok_callV (by decide +kernel : decode cX11_agreesWith 31 = .ok (.invokevirtual 259, 3)) rfl kX8_fill.1 kX8_fill.2.1 kX8_fill.2.2.1 kX8_fill.2.2.2.1 kX8_fill.2.2.2.2 (rfl : vwCl[8]? = some (RX8, TX8, 2)) g661 g662 g660) ?_
  refine q_fa (ok_aload_n (by decide +kernel : decode cX11_agreesWith 34 = .ok (.aload_n 0, 1)) rfl rfl) ?_
  refine q_fa (ok_get (by decide +kernel : decode cX11_agreesWith 35 = .ok (.getfield 58, 3)) rfl (rfl : vwCl[11]? = some (RX11, TX11, 11)) inX11 (by decide) g185) ?_
  refine q_fa (ok_iload_n (by decide +kernel : decode cX11_agreesWith 38 = .ok (.iload_n 2, 1)) rfl rfl) ?_
  refine q_fa (ok_aload_n (by decide +kernel : decode cX11_agreesWith 39 = .ok (.aload_n 0, 1)) rfl rfl) ?_
  refine q_fa (ok_get (by decide +kernel : decode cX11_agreesWith 40 = .ok (.getfield 51, 3)) rfl (rfl : vwCl[11]? = some (RX11, TX11, 11)) inX11 (by decide) g184) ?_
  refine q_fa (ok_aload_n (by decide +kernel : decode cX11_agreesWith 43 = .ok (.aload_n 1, 1)) rfl rfl) ?_
  refine q_fa (ok_callV (by decide +kernel : decode cX11_agreesWith 44 = .ok (.invokevirtual 82, 3)) rfl kX4_size.1 kX4_size.2.1 kX4_size.2.2.1 kX4_size.2.2.2.1 kX4_size.2.2.2.2 (rfl : vwCl[4]? = some (RX4, TX4, 4)) g307 g308 g306) ?_
  refine q_fa (ok_iconst (by decide +kernel : decode cX11_agreesWith 47 = .ok (.iconst 1, 1)) rfl (by decide +kernel)) ?_
  refine q_fa (ok_isub (by decide +kernel : decode cX11_agreesWith 48 = .ok (.isub, 1)) rfl) ?_
  refine q_fa (ok_callV (by decide +kernel : decode cX11_agreesWith 49 = .ok (.invokevirtual 261, 3)) rfl kX8_of.1 kX8_of.2.1 kX8_of.2.2.1 kX8_of.2.2.2.1 kX8_of.2.2.2.2 (rfl : vwCl[8]? = some (RX8, TX8, 2)) g678 g679 g690) ?_
  refine q_fa (ok_callV (by decide +kernel : decode cX11_agreesWith 52 = .ok (.invokevirtual 265, 3)) rfl kX7_isSo.1 kX7_isSo.2.1 kX7_isSo.2.2.1 kX7_isSo.2.2.2.1 kX7_isSo.2.2.2.2 (rfl : vwCl[7]? = some (RX7, TX7, 6)) g692 g693 g691) ?_
  refine q_fa (ok_zret (by decide +kernel : decode cX11_agreesWith 55 = .ok (.ireturn, 1)) rfl) ?_
  exact q_fa0
theorem exX11_agreesWith : ∃ t : Nat → qP, t = uX11_agreesWith := ⟨_, rfl⟩
noncomputable def tX11_agreesWith : Nat → qP := Classical.choose exX11_agreesWith
theorem teX11_agreesWith : tX11_agreesWith = uX11_agreesWith := Classical.choose_spec exX11_agreesWith
theorem sX11_agreesWith : q_Snd mX11_agreesWith tX11_agreesWith := by rw [teX11_agreesWith]; exact suX11_agreesWith
theorem tX11_agreesWith_0 : tX11_agreesWith 0 = oAl 0 1 := (congrFun teX11_agreesWith 0).trans rfl
theorem tX11_agreesWith_1 : tX11_agreesWith 1 = oGet 11 6 4 := (congrFun teX11_agreesWith 1).trans rfl
theorem tX11_agreesWith_4 : tX11_agreesWith 4 = oAl 0 5 := (congrFun teX11_agreesWith 4).trans rfl
theorem tX11_agreesWith_5 : tX11_agreesWith 5 = oGet 11 7 8 := (congrFun teX11_agreesWith 5).trans rfl
theorem tX11_agreesWith_8 : tX11_agreesWith 8 = oIl 2 9 := (congrFun teX11_agreesWith 8).trans rfl
theorem tX11_agreesWith_9 : tX11_agreesWith 9 = oCallV 7 mX7_rowOf 1 12 := (congrFun teX11_agreesWith 9).trans rfl
theorem tX11_agreesWith_12 : tX11_agreesWith 12 = oAl 0 13 := (congrFun teX11_agreesWith 12).trans rfl
theorem tX11_agreesWith_13 : tX11_agreesWith 13 = oGet 11 7 16 := (congrFun teX11_agreesWith 13).trans rfl
theorem tX11_agreesWith_16 : tX11_agreesWith 16 = oIl 2 17 := (congrFun teX11_agreesWith 16).trans rfl
theorem tX11_agreesWith_17 : tX11_agreesWith 17 = oCallV 7 mX7_rowOf 1 20 := (congrFun teX11_agreesWith 17).trans rfl
theorem tX11_agreesWith_20 : tX11_agreesWith 20 = oCallS mX11_lengthOf 1 23 := (congrFun teX11_agreesWith 20).trans rfl
theorem tX11_agreesWith_23 : tX11_agreesWith 23 = oCallV 8 mX8_lay 2 26 := (congrFun teX11_agreesWith 23).trans rfl
theorem tX11_agreesWith_26 : tX11_agreesWith 26 = oAl 0 27 := (congrFun teX11_agreesWith 26).trans rfl
theorem tX11_agreesWith_27 : tX11_agreesWith 27 = oGet 11 6 30 := (congrFun teX11_agreesWith 27).trans rfl
theorem tX11_agreesWith_30 : tX11_agreesWith 30 = oAl 1 31 := (congrFun teX11_agreesWith 30).trans rfl
theorem tX11_agreesWith_31 : tX11_agreesWith 31 = oCallV 8 mX8_fill 1 34 := (congrFun teX11_agreesWith 31).trans rfl
theorem tX11_agreesWith_34 : tX11_agreesWith 34 = oAl 0 35 := (congrFun teX11_agreesWith 34).trans rfl
theorem tX11_agreesWith_35 : tX11_agreesWith 35 = oGet 11 7 38 := (congrFun teX11_agreesWith 35).trans rfl
theorem tX11_agreesWith_38 : tX11_agreesWith 38 = oIl 2 39 := (congrFun teX11_agreesWith 38).trans rfl
theorem tX11_agreesWith_39 : tX11_agreesWith 39 = oAl 0 40 := (congrFun teX11_agreesWith 39).trans rfl
theorem tX11_agreesWith_40 : tX11_agreesWith 40 = oGet 11 6 43 := (congrFun teX11_agreesWith 40).trans rfl
theorem tX11_agreesWith_43 : tX11_agreesWith 43 = oAl 1 44 := (congrFun teX11_agreesWith 43).trans rfl
theorem tX11_agreesWith_44 : tX11_agreesWith 44 = oCallV 4 mX4_size 0 47 := (congrFun teX11_agreesWith 44).trans rfl
theorem tX11_agreesWith_47 : tX11_agreesWith 47 = oK (.int (nI 1)) 48 := (congrFun teX11_agreesWith 47).trans rfl
theorem tX11_agreesWith_48 : tX11_agreesWith 48 = oSub 49 := (congrFun teX11_agreesWith 48).trans rfl
theorem tX11_agreesWith_49 : tX11_agreesWith 49 = oCallV 8 mX8_of 1 52 := (congrFun teX11_agreesWith 49).trans rfl
theorem tX11_agreesWith_52 : tX11_agreesWith 52 = oCallV 7 mX7_isSo 2 55 := (congrFun teX11_agreesWith 52).trans rfl
theorem tX11_agreesWith_55 : tX11_agreesWith 55 = oZret := (congrFun teX11_agreesWith 55).trans rfl
def lX11_isPart : List (Nat × qP) := [(0, oIl 0 1), (1, oIf1lt 9 4), (4, oIl 0 5), (5, oK (.int (nI 3)) 6), (6, oIf2le 11 9), (9, oK (.int (nI 0)) 10), (10, oZret), (11, oIl 0 12), (12, oK (.int (nI 2)) 13), (13, oIf2eq 26 16), (16, oIl 1 17), (17, oIf1ne 24 20), (20, oK (.int (nI 1)) 21), (21, oGo 25), (24, oK (.int (nI 0)) 25), (25, oZret), (26, oIl 1 27), (27, oIf1le 55 30), (30, oIl 1 31), (31, oK (.int (nI 10)) 33), (33, oRem 34), (34, oK (.int (nI 1)) 35), (35, oIf2lt 55 38), (38, oIl 1 39), (39, oK (.int (nI 10)) 41), (41, oDiv 42), (42, oIl 1 43), (43, oK (.int (nI 10)) 45), (45, oRem 46), (46, oAdd 47), (47, oIl 2 48), (48, oIf2gt 55 51), (51, oK (.int (nI 1)) 52), (52, oGo 56), (55, oK (.int (nI 0)) 56), (56, oZret)]
def uX11_isPart : Nat → qP := q_tb lX11_isPart
set_option maxRecDepth 20000 in
theorem suX11_isPart : q_Snd mX11_isPart uX11_isPart := by
  refine q_tb_ok ?_
  unfold lX11_isPart
  refine q_fa (ok_iload_n (by decide +kernel : decode cX11_isPart 0 = .ok (.iload_n 0, 1)) rfl rfl) ?_
  refine q_fa (ok_if1lt (by decide +kernel : decode cX11_isPart 1 = .ok (.ifCond .lt 8, 3)) (by decide) rfl) ?_
  refine q_fa (ok_iload_n (by decide +kernel : decode cX11_isPart 4 = .ok (.iload_n 0, 1)) rfl rfl) ?_
  refine q_fa (ok_iconst (by decide +kernel : decode cX11_isPart 5 = .ok (.iconst 3, 1)) rfl (by decide +kernel)) ?_
  refine q_fa (ok_if2le (by decide +kernel : decode cX11_isPart 6 = .ok (.if_icmp .le 5, 3)) (by decide) rfl) ?_
  refine q_fa (ok_iconst (by decide +kernel : decode cX11_isPart 9 = .ok (.iconst 0, 1)) rfl (by decide +kernel)) ?_
  refine q_fa (ok_zret (by decide +kernel : decode cX11_isPart 10 = .ok (.ireturn, 1)) rfl) ?_
  refine q_fa (ok_iload_n (by decide +kernel : decode cX11_isPart 11 = .ok (.iload_n 0, 1)) rfl rfl) ?_
  refine q_fa (ok_iconst (by decide +kernel : decode cX11_isPart 12 = .ok (.iconst 2, 1)) rfl (by decide +kernel)) ?_
  refine q_fa (ok_if2eq (by decide +kernel : decode cX11_isPart 13 = .ok (.if_icmp .eq 13, 3)) (by decide) rfl) ?_
  refine q_fa (ok_iload_n (by decide +kernel : decode cX11_isPart 16 = .ok (.iload_n 1, 1)) rfl rfl) ?_
  refine q_fa (ok_if1ne (by decide +kernel : decode cX11_isPart 17 = .ok (.ifCond .ne 7, 3)) (by decide) rfl) ?_
  refine q_fa (ok_iconst (by decide +kernel : decode cX11_isPart 20 = .ok (.iconst 1, 1)) rfl (by decide +kernel)) ?_
  refine q_fa (ok_goto (by decide +kernel : decode cX11_isPart 21 = .ok (.goto 4, 3)) (by decide)) ?_
  refine q_fa (ok_iconst (by decide +kernel : decode cX11_isPart 24 = .ok (.iconst 0, 1)) rfl (by decide +kernel)) ?_
  refine q_fa (ok_zret (by decide +kernel : decode cX11_isPart 25 = .ok (.ireturn, 1)) rfl) ?_
  refine q_fa (ok_iload_n (by decide +kernel : decode cX11_isPart 26 = .ok (.iload_n 1, 1)) rfl rfl) ?_
  refine q_fa (ok_if1le (by decide +kernel : decode cX11_isPart 27 = .ok (.ifCond .le 28, 3)) (by decide) rfl) ?_
  refine q_fa (ok_iload_n (by decide +kernel : decode cX11_isPart 30 = .ok (.iload_n 1, 1)) rfl rfl) ?_
  refine q_fa (ok_bipush (by decide +kernel : decode cX11_isPart 31 = .ok (.bipush 10, 2)) rfl (by decide +kernel)) ?_
  refine q_fa (ok_irem (by decide +kernel : decode cX11_isPart 33 = .ok (.irem, 1)) rfl) ?_
  refine q_fa (ok_iconst (by decide +kernel : decode cX11_isPart 34 = .ok (.iconst 1, 1)) rfl (by decide +kernel)) ?_
  refine q_fa (ok_if2lt (by decide +kernel : decode cX11_isPart 35 = .ok (.if_icmp .lt 20, 3)) (by decide) rfl) ?_
  refine q_fa (ok_iload_n (by decide +kernel : decode cX11_isPart 38 = .ok (.iload_n 1, 1)) rfl rfl) ?_
  refine q_fa (ok_bipush (by decide +kernel : decode cX11_isPart 39 = .ok (.bipush 10, 2)) rfl (by decide +kernel)) ?_
  refine q_fa (ok_idiv (by decide +kernel : decode cX11_isPart 41 = .ok (.idiv, 1)) rfl) ?_
  refine q_fa (ok_iload_n (by decide +kernel : decode cX11_isPart 42 = .ok (.iload_n 1, 1)) rfl rfl) ?_
  refine q_fa (ok_bipush (by decide +kernel : decode cX11_isPart 43 = .ok (.bipush 10, 2)) rfl (by decide +kernel)) ?_
  refine q_fa (ok_irem (by decide +kernel : decode cX11_isPart 45 = .ok (.irem, 1)) rfl) ?_
  refine q_fa (ok_iadd (by decide +kernel : decode cX11_isPart 46 = .ok (.iadd, 1)) rfl) ?_
  refine q_fa (ok_iload_n (by decide +kernel : decode cX11_isPart 47 = .ok (.iload_n 2, 1)) rfl rfl) ?_
  refine q_fa (ok_if2gt (by decide +kernel : decode cX11_isPart 48 = .ok (.if_icmp .gt 7, 3)) (by decide) rfl) ?_
  refine q_fa (ok_iconst (by decide +kernel : decode cX11_isPart 51 = .ok (.iconst 1, 1)) rfl (by decide +kernel)) ?_
  refine q_fa (ok_goto (by decide +kernel : decode cX11_isPart 52 = .ok (.goto 4, 3)) (by decide)) ?_
  refine q_fa (ok_iconst (by decide +kernel : decode cX11_isPart 55 = .ok (.iconst 0, 1)) rfl (by decide +kernel)) ?_
  refine q_fa (ok_zret (by decide +kernel : decode cX11_isPart 56 = .ok (.ireturn, 1)) rfl) ?_
  exact q_fa0
theorem exX11_isPart : ∃ t : Nat → qP, t = uX11_isPart := ⟨_, rfl⟩
noncomputable def tX11_isPart : Nat → qP := Classical.choose exX11_isPart
theorem teX11_isPart : tX11_isPart = uX11_isPart := Classical.choose_spec exX11_isPart
theorem sX11_isPart : q_Snd mX11_isPart tX11_isPart := by rw [teX11_isPart]; exact suX11_isPart
theorem tX11_isPart_0 : tX11_isPart 0 = oIl 0 1 := (congrFun teX11_isPart 0).trans rfl
theorem tX11_isPart_1 : tX11_isPart 1 = oIf1lt 9 4 := (congrFun teX11_isPart 1).trans rfl
theorem tX11_isPart_4 : tX11_isPart 4 = oIl 0 5 := (congrFun teX11_isPart 4).trans rfl
theorem tX11_isPart_5 : tX11_isPart 5 = oK (.int (nI 3)) 6 := (congrFun teX11_isPart 5).trans rfl
theorem tX11_isPart_6 : tX11_isPart 6 = oIf2le 11 9 := (congrFun teX11_isPart 6).trans rfl
theorem tX11_isPart_9 : tX11_isPart 9 = oK (.int (nI 0)) 10 := (congrFun teX11_isPart 9).trans rfl
theorem tX11_isPart_10 : tX11_isPart 10 = oZret := (congrFun teX11_isPart 10).trans rfl
theorem tX11_isPart_11 : tX11_isPart 11 = oIl 0 12 := (congrFun teX11_isPart 11).trans rfl
theorem tX11_isPart_12 : tX11_isPart 12 = oK (.int (nI 2)) 13 := (congrFun teX11_isPart 12).trans rfl
theorem tX11_isPart_13 : tX11_isPart 13 = oIf2eq 26 16 := (congrFun teX11_isPart 13).trans rfl
theorem tX11_isPart_16 : tX11_isPart 16 = oIl 1 17 := (congrFun teX11_isPart 16).trans rfl
theorem tX11_isPart_17 : tX11_isPart 17 = oIf1ne 24 20 := (congrFun teX11_isPart 17).trans rfl
theorem tX11_isPart_20 : tX11_isPart 20 = oK (.int (nI 1)) 21 := (congrFun teX11_isPart 20).trans rfl
theorem tX11_isPart_21 : tX11_isPart 21 = oGo 25 := (congrFun teX11_isPart 21).trans rfl
theorem tX11_isPart_24 : tX11_isPart 24 = oK (.int (nI 0)) 25 := (congrFun teX11_isPart 24).trans rfl
theorem tX11_isPart_25 : tX11_isPart 25 = oZret := (congrFun teX11_isPart 25).trans rfl
theorem tX11_isPart_26 : tX11_isPart 26 = oIl 1 27 := (congrFun teX11_isPart 26).trans rfl
theorem tX11_isPart_27 : tX11_isPart 27 = oIf1le 55 30 := (congrFun teX11_isPart 27).trans rfl
theorem tX11_isPart_30 : tX11_isPart 30 = oIl 1 31 := (congrFun teX11_isPart 30).trans rfl
theorem tX11_isPart_31 : tX11_isPart 31 = oK (.int (nI 10)) 33 := (congrFun teX11_isPart 31).trans rfl
theorem tX11_isPart_33 : tX11_isPart 33 = oRem 34 := (congrFun teX11_isPart 33).trans rfl
theorem tX11_isPart_34 : tX11_isPart 34 = oK (.int (nI 1)) 35 := (congrFun teX11_isPart 34).trans rfl
theorem tX11_isPart_35 : tX11_isPart 35 = oIf2lt 55 38 := (congrFun teX11_isPart 35).trans rfl
theorem tX11_isPart_38 : tX11_isPart 38 = oIl 1 39 := (congrFun teX11_isPart 38).trans rfl
theorem tX11_isPart_39 : tX11_isPart 39 = oK (.int (nI 10)) 41 := (congrFun teX11_isPart 39).trans rfl
theorem tX11_isPart_41 : tX11_isPart 41 = oDiv 42 := (congrFun teX11_isPart 41).trans rfl
theorem tX11_isPart_42 : tX11_isPart 42 = oIl 1 43 := (congrFun teX11_isPart 42).trans rfl
theorem tX11_isPart_43 : tX11_isPart 43 = oK (.int (nI 10)) 45 := (congrFun teX11_isPart 43).trans rfl
theorem tX11_isPart_45 : tX11_isPart 45 = oRem 46 := (congrFun teX11_isPart 45).trans rfl
theorem tX11_isPart_46 : tX11_isPart 46 = oAdd 47 := (congrFun teX11_isPart 46).trans rfl
theorem tX11_isPart_47 : tX11_isPart 47 = oIl 2 48 := (congrFun teX11_isPart 47).trans rfl
theorem tX11_isPart_48 : tX11_isPart 48 = oIf2gt 55 51 := (congrFun teX11_isPart 48).trans rfl
theorem tX11_isPart_51 : tX11_isPart 51 = oK (.int (nI 1)) 52 := (congrFun teX11_isPart 51).trans rfl
theorem tX11_isPart_52 : tX11_isPart 52 = oGo 56 := (congrFun teX11_isPart 52).trans rfl
theorem tX11_isPart_55 : tX11_isPart 55 = oK (.int (nI 0)) 56 := (congrFun teX11_isPart 55).trans rfl
theorem tX11_isPart_56 : tX11_isPart 56 = oZret := (congrFun teX11_isPart 56).trans rfl
def lX11_isKinds : List (Nat × qP) := [(0, oIl 0 1), (1, oIf1le 14 4), (4, oIl 0 5), (5, oK (.int (nI 64)) 7), (7, oIf2ge 14 10), (10, oK (.int (nI 1)) 11), (11, oGo 15), (14, oK (.int (nI 0)) 15), (15, oZret)]
def uX11_isKinds : Nat → qP := q_tb lX11_isKinds
set_option maxRecDepth 20000 in
theorem suX11_isKinds : q_Snd mX11_isKinds uX11_isKinds := by
  refine q_tb_ok ?_
  unfold lX11_isKinds
  refine q_fa (ok_iload_n (by decide +kernel : decode cX11_isKinds 0 = .ok (.iload_n 0, 1)) rfl rfl) ?_
  refine q_fa (ok_if1le (by decide +kernel : decode cX11_isKinds 1 = .ok (.ifCond .le 13, 3)) (by decide) rfl) ?_
  refine q_fa (ok_iload_n (by decide +kernel : decode cX11_isKinds 4 = .ok (.iload_n 0, 1)) rfl rfl) ?_
  refine q_fa (ok_bipush (by decide +kernel : decode cX11_isKinds 5 = .ok (.bipush 64, 2)) rfl (by decide +kernel)) ?_
  refine q_fa (ok_if2ge (by decide +kernel : decode cX11_isKinds 7 = .ok (.if_icmp .ge 7, 3)) (by decide) rfl) ?_
  refine q_fa (ok_iconst (by decide +kernel : decode cX11_isKinds 10 = .ok (.iconst 1, 1)) rfl (by decide +kernel)) ?_
  refine q_fa (ok_goto (by decide +kernel : decode cX11_isKinds 11 = .ok (.goto 4, 3)) (by decide)) ?_
  refine q_fa (ok_iconst (by decide +kernel : decode cX11_isKinds 14 = .ok (.iconst 0, 1)) rfl (by decide +kernel)) ?_
  refine q_fa (ok_zret (by decide +kernel : decode cX11_isKinds 15 = .ok (.ireturn, 1)) rfl) ?_
  exact q_fa0
theorem exX11_isKinds : ∃ t : Nat → qP, t = uX11_isKinds := ⟨_, rfl⟩
noncomputable def tX11_isKinds : Nat → qP := Classical.choose exX11_isKinds
theorem teX11_isKinds : tX11_isKinds = uX11_isKinds := Classical.choose_spec exX11_isKinds
theorem sX11_isKinds : q_Snd mX11_isKinds tX11_isKinds := by rw [teX11_isKinds]; exact suX11_isKinds
theorem tX11_isKinds_0 : tX11_isKinds 0 = oIl 0 1 := (congrFun teX11_isKinds 0).trans rfl
theorem tX11_isKinds_1 : tX11_isKinds 1 = oIf1le 14 4 := (congrFun teX11_isKinds 1).trans rfl
theorem tX11_isKinds_4 : tX11_isKinds 4 = oIl 0 5 := (congrFun teX11_isKinds 4).trans rfl
theorem tX11_isKinds_5 : tX11_isKinds 5 = oK (.int (nI 64)) 7 := (congrFun teX11_isKinds 5).trans rfl
theorem tX11_isKinds_7 : tX11_isKinds 7 = oIf2ge 14 10 := (congrFun teX11_isKinds 7).trans rfl
theorem tX11_isKinds_10 : tX11_isKinds 10 = oK (.int (nI 1)) 11 := (congrFun teX11_isKinds 10).trans rfl
theorem tX11_isKinds_11 : tX11_isKinds 11 = oGo 15 := (congrFun teX11_isKinds 11).trans rfl
theorem tX11_isKinds_14 : tX11_isKinds 14 = oK (.int (nI 0)) 15 := (congrFun teX11_isKinds 14).trans rfl
theorem tX11_isKinds_15 : tX11_isKinds 15 = oZret := (congrFun teX11_isKinds 15).trans rfl
def lX11_isCost : List (Nat × qP) := [(0, oIl 0 1), (1, oK (.int (nI 2)) 2), (2, oIf2lt 15 5), (5, oIl 0 6), (6, oK (.int (nI 10)) 8), (8, oIf2gt 15 11), (11, oK (.int (nI 1)) 12), (12, oGo 16), (15, oK (.int (nI 0)) 16), (16, oZret)]
def uX11_isCost : Nat → qP := q_tb lX11_isCost
set_option maxRecDepth 20000 in
theorem suX11_isCost : q_Snd mX11_isCost uX11_isCost := by
  refine q_tb_ok ?_
  unfold lX11_isCost
  refine q_fa (ok_iload_n (by decide +kernel : decode cX11_isCost 0 = .ok (.iload_n 0, 1)) rfl rfl) ?_
  refine q_fa (ok_iconst (by decide +kernel : decode cX11_isCost 1 = .ok (.iconst 2, 1)) rfl (by decide +kernel)) ?_
  refine q_fa (ok_if2lt (by decide +kernel : decode cX11_isCost 2 = .ok (.if_icmp .lt 13, 3)) (by decide) rfl) ?_
  refine q_fa (ok_iload_n (by decide +kernel : decode cX11_isCost 5 = .ok (.iload_n 0, 1)) rfl rfl) ?_
  refine q_fa (ok_bipush (by decide +kernel : decode cX11_isCost 6 = .ok (.bipush 10, 2)) rfl (by decide +kernel)) ?_
  refine q_fa (ok_if2gt (by decide +kernel : decode cX11_isCost 8 = .ok (.if_icmp .gt 7, 3)) (by decide) rfl) ?_
  refine q_fa (ok_iconst (by decide +kernel : decode cX11_isCost 11 = .ok (.iconst 1, 1)) rfl (by decide +kernel)) ?_
  refine q_fa (ok_goto (by decide +kernel : decode cX11_isCost 12 = .ok (.goto 4, 3)) (by decide)) ?_
  refine q_fa (ok_iconst (by decide +kernel : decode cX11_isCost 15 = .ok (.iconst 0, 1)) rfl (by decide +kernel)) ?_
  refine q_fa (ok_zret (by decide +kernel : decode cX11_isCost 16 = .ok (.ireturn, 1)) rfl) ?_
  exact q_fa0
theorem exX11_isCost : ∃ t : Nat → qP, t = uX11_isCost := ⟨_, rfl⟩
noncomputable def tX11_isCost : Nat → qP := Classical.choose exX11_isCost
theorem teX11_isCost : tX11_isCost = uX11_isCost := Classical.choose_spec exX11_isCost
theorem sX11_isCost : q_Snd mX11_isCost tX11_isCost := by rw [teX11_isCost]; exact suX11_isCost
theorem tX11_isCost_0 : tX11_isCost 0 = oIl 0 1 := (congrFun teX11_isCost 0).trans rfl
theorem tX11_isCost_1 : tX11_isCost 1 = oK (.int (nI 2)) 2 := (congrFun teX11_isCost 1).trans rfl
theorem tX11_isCost_2 : tX11_isCost 2 = oIf2lt 15 5 := (congrFun teX11_isCost 2).trans rfl
theorem tX11_isCost_5 : tX11_isCost 5 = oIl 0 6 := (congrFun teX11_isCost 5).trans rfl
theorem tX11_isCost_6 : tX11_isCost 6 = oK (.int (nI 10)) 8 := (congrFun teX11_isCost 6).trans rfl
theorem tX11_isCost_8 : tX11_isCost 8 = oIf2gt 15 11 := (congrFun teX11_isCost 8).trans rfl
theorem tX11_isCost_11 : tX11_isCost 11 = oK (.int (nI 1)) 12 := (congrFun teX11_isCost 11).trans rfl
theorem tX11_isCost_12 : tX11_isCost 12 = oGo 16 := (congrFun teX11_isCost 12).trans rfl
theorem tX11_isCost_15 : tX11_isCost 15 = oK (.int (nI 0)) 16 := (congrFun teX11_isCost 15).trans rfl
theorem tX11_isCost_16 : tX11_isCost 16 = oZret := (congrFun teX11_isCost 16).trans rfl
def lX11_lengthOf : List (Nat × qP) := [(0, oK (.int (nI 0)) 1), (1, oIs 1 2), (2, oIl 1 3), (3, oStW 6), (6, oAlen 7), (7, oIf2ge 38 10), (10, oIl 0 11), (11, oStW 14), (14, oIl 1 15), (15, oIald 16), (16, oIf2lt 32 19), (19, oIl 0 20), (20, oK (.int (nI 2)) 21), (21, oStW 24), (24, oIl 1 25), (25, oIald 26), (26, oMul 27), (27, oIf2ge 32 30), (30, oIl 1 31), (31, oIret), (32, oInc 1 (nI 1) 35), (35, oGo 2), (38, oK (.int (-1)) 39), (39, oIret)]
def uX11_lengthOf : Nat → qP := q_tb lX11_lengthOf
set_option maxRecDepth 20000 in
theorem suX11_lengthOf : q_Snd mX11_lengthOf uX11_lengthOf := by
  refine q_tb_ok ?_
  unfold lX11_lengthOf
  refine q_fa (ok_iconst (by decide +kernel : decode cX11_lengthOf 0 = .ok (.iconst 0, 1)) rfl (by decide +kernel)) ?_
  refine q_fa (ok_istore_n (by decide +kernel : decode cX11_lengthOf 1 = .ok (.istore_n 1, 1)) rfl rfl (by decide)) ?_
  refine q_fa (ok_iload_n (by decide +kernel : decode cX11_lengthOf 2 = .ok (.iload_n 1, 1)) rfl rfl) ?_
  refine q_fa (ok_stW (by decide +kernel : decode cX11_lengthOf 3 = .ok (.getstatic 269, 3)) rfl g489) ?_
  refine q_fa (ok_alen (by decide +kernel : decode cX11_lengthOf 6 = .ok (.arraylength, 1)) rfl) ?_
  refine q_fa (ok_if2ge (by decide +kernel : decode cX11_lengthOf 7 = .ok (.if_icmp .ge 31, 3)) (by decide) rfl) ?_
  refine q_fa (ok_iload_n (by decide +kernel : decode cX11_lengthOf 10 = .ok (.iload_n 0, 1)) rfl rfl) ?_
  refine q_fa (ok_stW (by decide +kernel : decode cX11_lengthOf 11 = .ok (.getstatic 269, 3)) rfl g489) ?_
  refine q_fa (ok_iload_n (by decide +kernel : decode cX11_lengthOf 14 = .ok (.iload_n 1, 1)) rfl rfl) ?_
  refine q_fa (ok_iaload (by decide +kernel : decode cX11_lengthOf 15 = .ok (.iaload, 1)) rfl) ?_
  refine q_fa (ok_if2lt (by decide +kernel : decode cX11_lengthOf 16 = .ok (.if_icmp .lt 16, 3)) (by decide) rfl) ?_
  refine q_fa (ok_iload_n (by decide +kernel : decode cX11_lengthOf 19 = .ok (.iload_n 0, 1)) rfl rfl) ?_
  refine q_fa (ok_iconst (by decide +kernel : decode cX11_lengthOf 20 = .ok (.iconst 2, 1)) rfl (by decide +kernel)) ?_
  refine q_fa (ok_stW (by decide +kernel : decode cX11_lengthOf 21 = .ok (.getstatic 269, 3)) rfl g489) ?_
  refine q_fa (ok_iload_n (by decide +kernel : decode cX11_lengthOf 24 = .ok (.iload_n 1, 1)) rfl rfl) ?_
  refine q_fa (ok_iaload (by decide +kernel : decode cX11_lengthOf 25 = .ok (.iaload, 1)) rfl) ?_
  refine q_fa (ok_imul (by decide +kernel : decode cX11_lengthOf 26 = .ok (.imul, 1)) rfl) ?_
  refine q_fa (ok_if2ge (by decide +kernel : decode cX11_lengthOf 27 = .ok (.if_icmp .ge 5, 3)) (by decide) rfl) ?_
  refine q_fa (ok_iload_n (by decide +kernel : decode cX11_lengthOf 30 = .ok (.iload_n 1, 1)) rfl rfl) ?_
  refine q_fa (ok_iret (by decide +kernel : decode cX11_lengthOf 31 = .ok (.ireturn, 1)) rfl) ?_
  refine q_fa (ok_iinc (by decide +kernel : decode cX11_lengthOf 32 = .ok (.iinc 1 1, 3)) rfl (by decide +kernel) (by decide)) ?_
  refine q_fa (ok_goto (by decide +kernel : decode cX11_lengthOf 35 = .ok (.goto (-33), 3)) (by decide)) ?_
  refine q_fa (ok_iconst (by decide +kernel : decode cX11_lengthOf 38 = .ok (.iconst (-1), 1)) rfl (by decide +kernel)) ?_
  refine q_fa (ok_iret (by decide +kernel : decode cX11_lengthOf 39 = .ok (.ireturn, 1)) rfl) ?_
  exact q_fa0
theorem exX11_lengthOf : ∃ t : Nat → qP, t = uX11_lengthOf := ⟨_, rfl⟩
noncomputable def tX11_lengthOf : Nat → qP := Classical.choose exX11_lengthOf
theorem teX11_lengthOf : tX11_lengthOf = uX11_lengthOf := Classical.choose_spec exX11_lengthOf
theorem sX11_lengthOf : q_Snd mX11_lengthOf tX11_lengthOf := by rw [teX11_lengthOf]; exact suX11_lengthOf
theorem tX11_lengthOf_0 : tX11_lengthOf 0 = oK (.int (nI 0)) 1 := (congrFun teX11_lengthOf 0).trans rfl
theorem tX11_lengthOf_1 : tX11_lengthOf 1 = oIs 1 2 := (congrFun teX11_lengthOf 1).trans rfl
theorem tX11_lengthOf_2 : tX11_lengthOf 2 = oIl 1 3 := (congrFun teX11_lengthOf 2).trans rfl
theorem tX11_lengthOf_3 : tX11_lengthOf 3 = oStW 6 := (congrFun teX11_lengthOf 3).trans rfl
theorem tX11_lengthOf_6 : tX11_lengthOf 6 = oAlen 7 := (congrFun teX11_lengthOf 6).trans rfl
theorem tX11_lengthOf_7 : tX11_lengthOf 7 = oIf2ge 38 10 := (congrFun teX11_lengthOf 7).trans rfl
theorem tX11_lengthOf_10 : tX11_lengthOf 10 = oIl 0 11 := (congrFun teX11_lengthOf 10).trans rfl
theorem tX11_lengthOf_11 : tX11_lengthOf 11 = oStW 14 := (congrFun teX11_lengthOf 11).trans rfl
theorem tX11_lengthOf_14 : tX11_lengthOf 14 = oIl 1 15 := (congrFun teX11_lengthOf 14).trans rfl
theorem tX11_lengthOf_15 : tX11_lengthOf 15 = oIald 16 := (congrFun teX11_lengthOf 15).trans rfl
theorem tX11_lengthOf_16 : tX11_lengthOf 16 = oIf2lt 32 19 := (congrFun teX11_lengthOf 16).trans rfl
theorem tX11_lengthOf_19 : tX11_lengthOf 19 = oIl 0 20 := (congrFun teX11_lengthOf 19).trans rfl
theorem tX11_lengthOf_20 : tX11_lengthOf 20 = oK (.int (nI 2)) 21 := (congrFun teX11_lengthOf 20).trans rfl
theorem tX11_lengthOf_21 : tX11_lengthOf 21 = oStW 24 := (congrFun teX11_lengthOf 21).trans rfl
theorem tX11_lengthOf_24 : tX11_lengthOf 24 = oIl 1 25 := (congrFun teX11_lengthOf 24).trans rfl
theorem tX11_lengthOf_25 : tX11_lengthOf 25 = oIald 26 := (congrFun teX11_lengthOf 25).trans rfl
theorem tX11_lengthOf_26 : tX11_lengthOf 26 = oMul 27 := (congrFun teX11_lengthOf 26).trans rfl
theorem tX11_lengthOf_27 : tX11_lengthOf 27 = oIf2ge 32 30 := (congrFun teX11_lengthOf 27).trans rfl
theorem tX11_lengthOf_30 : tX11_lengthOf 30 = oIl 1 31 := (congrFun teX11_lengthOf 30).trans rfl
theorem tX11_lengthOf_31 : tX11_lengthOf 31 = oIret := (congrFun teX11_lengthOf 31).trans rfl
theorem tX11_lengthOf_32 : tX11_lengthOf 32 = oInc 1 (nI 1) 35 := (congrFun teX11_lengthOf 32).trans rfl
theorem tX11_lengthOf_35 : tX11_lengthOf 35 = oGo 2 := (congrFun teX11_lengthOf 35).trans rfl
theorem tX11_lengthOf_38 : tX11_lengthOf 38 = oK (.int (-1)) 39 := (congrFun teX11_lengthOf 38).trans rfl
theorem tX11_lengthOf_39 : tX11_lengthOf 39 = oIret := (congrFun teX11_lengthOf 39).trans rfl
def lX11_letterAt : List (Nat × qP) := [(0, oIl 0 1), (1, oIs 3 2), (2, oIl 2 3), (3, oK (.int (nI 1)) 4), (4, oAdd 5), (5, oIs 4 7), (7, oIl 4 9), (9, oIl 1 10), (10, oIf2ge 23 13), (13, oIl 3 14), (14, oK (.int (nI 3)) 15), (15, oDiv 16), (16, oIs 3 17), (17, oInc 4 (nI 1) 20), (20, oGo 7), (23, oIl 3 24), (24, oK (.int (nI 3)) 25), (25, oRem 26), (26, oIret)]
def uX11_letterAt : Nat → qP := q_tb lX11_letterAt
set_option maxRecDepth 20000 in
theorem suX11_letterAt : q_Snd mX11_letterAt uX11_letterAt := by
  refine q_tb_ok ?_
  unfold lX11_letterAt
  refine q_fa (ok_iload_n (by decide +kernel : decode cX11_letterAt 0 = .ok (.iload_n 0, 1)) rfl rfl) ?_
  refine q_fa (ok_istore_n (by decide +kernel : decode cX11_letterAt 1 = .ok (.istore_n 3, 1)) rfl rfl (by decide)) ?_
  refine q_fa (ok_iload_n (by decide +kernel : decode cX11_letterAt 2 = .ok (.iload_n 2, 1)) rfl rfl) ?_
  refine q_fa (ok_iconst (by decide +kernel : decode cX11_letterAt 3 = .ok (.iconst 1, 1)) rfl (by decide +kernel)) ?_
  refine q_fa (ok_iadd (by decide +kernel : decode cX11_letterAt 4 = .ok (.iadd, 1)) rfl) ?_
  refine q_fa (ok_istore (by decide +kernel : decode cX11_letterAt 5 = .ok (.istore 4, 2)) rfl (by decide)) ?_
  refine q_fa (ok_iload (by decide +kernel : decode cX11_letterAt 7 = .ok (.iload 4, 2)) rfl) ?_
  refine q_fa (ok_iload_n (by decide +kernel : decode cX11_letterAt 9 = .ok (.iload_n 1, 1)) rfl rfl) ?_
  refine q_fa (ok_if2ge (by decide +kernel : decode cX11_letterAt 10 = .ok (.if_icmp .ge 13, 3)) (by decide) rfl) ?_
  refine q_fa (ok_iload_n (by decide +kernel : decode cX11_letterAt 13 = .ok (.iload_n 3, 1)) rfl rfl) ?_
  refine q_fa (ok_iconst (by decide +kernel : decode cX11_letterAt 14 = .ok (.iconst 3, 1)) rfl (by decide +kernel)) ?_
  refine q_fa (ok_idiv (by decide +kernel : decode cX11_letterAt 15 = .ok (.idiv, 1)) rfl) ?_
  refine q_fa (ok_istore_n (by decide +kernel : decode cX11_letterAt 16 = .ok (.istore_n 3, 1)) rfl rfl (by decide)) ?_
  refine q_fa (ok_iinc (by decide +kernel : decode cX11_letterAt 17 = .ok (.iinc 4 1, 3)) rfl (by decide +kernel) (by decide)) ?_
  refine q_fa (ok_goto (by decide +kernel : decode cX11_letterAt 20 = .ok (.goto (-13), 3)) (by decide)) ?_
  refine q_fa (ok_iload_n (by decide +kernel : decode cX11_letterAt 23 = .ok (.iload_n 3, 1)) rfl rfl) ?_
  refine q_fa (ok_iconst (by decide +kernel : decode cX11_letterAt 24 = .ok (.iconst 3, 1)) rfl (by decide +kernel)) ?_
  refine q_fa (ok_irem (by decide +kernel : decode cX11_letterAt 25 = .ok (.irem, 1)) rfl) ?_
  refine q_fa (ok_iret (by decide +kernel : decode cX11_letterAt 26 = .ok (.ireturn, 1)) rfl) ?_
  exact q_fa0
theorem exX11_letterAt : ∃ t : Nat → qP, t = uX11_letterAt := ⟨_, rfl⟩
noncomputable def tX11_letterAt : Nat → qP := Classical.choose exX11_letterAt
theorem teX11_letterAt : tX11_letterAt = uX11_letterAt := Classical.choose_spec exX11_letterAt
theorem sX11_letterAt : q_Snd mX11_letterAt tX11_letterAt := by rw [teX11_letterAt]; exact suX11_letterAt
theorem tX11_letterAt_0 : tX11_letterAt 0 = oIl 0 1 := (congrFun teX11_letterAt 0).trans rfl
theorem tX11_letterAt_1 : tX11_letterAt 1 = oIs 3 2 := (congrFun teX11_letterAt 1).trans rfl
theorem tX11_letterAt_2 : tX11_letterAt 2 = oIl 2 3 := (congrFun teX11_letterAt 2).trans rfl
theorem tX11_letterAt_3 : tX11_letterAt 3 = oK (.int (nI 1)) 4 := (congrFun teX11_letterAt 3).trans rfl
theorem tX11_letterAt_4 : tX11_letterAt 4 = oAdd 5 := (congrFun teX11_letterAt 4).trans rfl
theorem tX11_letterAt_5 : tX11_letterAt 5 = oIs 4 7 := (congrFun teX11_letterAt 5).trans rfl
theorem tX11_letterAt_7 : tX11_letterAt 7 = oIl 4 9 := (congrFun teX11_letterAt 7).trans rfl
theorem tX11_letterAt_9 : tX11_letterAt 9 = oIl 1 10 := (congrFun teX11_letterAt 9).trans rfl
theorem tX11_letterAt_10 : tX11_letterAt 10 = oIf2ge 23 13 := (congrFun teX11_letterAt 10).trans rfl
theorem tX11_letterAt_13 : tX11_letterAt 13 = oIl 3 14 := (congrFun teX11_letterAt 13).trans rfl
theorem tX11_letterAt_14 : tX11_letterAt 14 = oK (.int (nI 3)) 15 := (congrFun teX11_letterAt 14).trans rfl
theorem tX11_letterAt_15 : tX11_letterAt 15 = oDiv 16 := (congrFun teX11_letterAt 15).trans rfl
theorem tX11_letterAt_16 : tX11_letterAt 16 = oIs 3 17 := (congrFun teX11_letterAt 16).trans rfl
theorem tX11_letterAt_17 : tX11_letterAt 17 = oInc 4 (nI 1) 20 := (congrFun teX11_letterAt 17).trans rfl
theorem tX11_letterAt_20 : tX11_letterAt 20 = oGo 7 := (congrFun teX11_letterAt 20).trans rfl
theorem tX11_letterAt_23 : tX11_letterAt 23 = oIl 3 24 := (congrFun teX11_letterAt 23).trans rfl
theorem tX11_letterAt_24 : tX11_letterAt 24 = oK (.int (nI 3)) 25 := (congrFun teX11_letterAt 24).trans rfl
theorem tX11_letterAt_25 : tX11_letterAt 25 = oRem 26 := (congrFun teX11_letterAt 25).trans rfl
theorem tX11_letterAt_26 : tX11_letterAt 26 = oIret := (congrFun teX11_letterAt 26).trans rfl
def lX11_ownCost : List (Nat × qP) := [(0, oIl 0 1), (1, oIf1lt 20 4), (4, oIl 0 5), (5, oStO 8), (8, oAlen 9), (9, oIf2ge 20 12), (12, oStO 15), (15, oIl 0 16), (16, oIald 17), (17, oGo 21), (20, oK (.int (nI 0)) 21), (21, oIret)]
def uX11_ownCost : Nat → qP := q_tb lX11_ownCost
set_option maxRecDepth 20000 in
theorem suX11_ownCost : q_Snd mX11_ownCost uX11_ownCost := by
  refine q_tb_ok ?_
  unfold lX11_ownCost
  refine q_fa (ok_iload_n (by decide +kernel : decode cX11_ownCost 0 = .ok (.iload_n 0, 1)) rfl rfl) ?_
  refine q_fa (ok_if1lt (by decide +kernel : decode cX11_ownCost 1 = .ok (.ifCond .lt 19, 3)) (by decide) rfl) ?_
  refine q_fa (ok_iload_n (by decide +kernel : decode cX11_ownCost 4 = .ok (.iload_n 0, 1)) rfl rfl) ?_
  refine q_fa (ok_stO (by decide +kernel : decode cX11_ownCost 5 = .ok (.getstatic 273, 3)) rfl g337) ?_
  refine q_fa (ok_alen (by decide +kernel : decode cX11_ownCost 8 = .ok (.arraylength, 1)) rfl) ?_
  refine q_fa (ok_if2ge (by decide +kernel : decode cX11_ownCost 9 = .ok (.if_icmp .ge 11, 3)) (by decide) rfl) ?_
  refine q_fa (ok_stO (by decide +kernel : decode cX11_ownCost 12 = .ok (.getstatic 273, 3)) rfl g337) ?_
  refine q_fa (ok_iload_n (by decide +kernel : decode cX11_ownCost 15 = .ok (.iload_n 0, 1)) rfl rfl) ?_
  refine q_fa (ok_iaload (by decide +kernel : decode cX11_ownCost 16 = .ok (.iaload, 1)) rfl) ?_
  refine q_fa (ok_goto (by decide +kernel : decode cX11_ownCost 17 = .ok (.goto 4, 3)) (by decide)) ?_
  refine q_fa (ok_iconst (by decide +kernel : decode cX11_ownCost 20 = .ok (.iconst 0, 1)) rfl (by decide +kernel)) ?_
  refine q_fa (ok_iret (by decide +kernel : decode cX11_ownCost 21 = .ok (.ireturn, 1)) rfl) ?_
  exact q_fa0
theorem exX11_ownCost : ∃ t : Nat → qP, t = uX11_ownCost := ⟨_, rfl⟩
noncomputable def tX11_ownCost : Nat → qP := Classical.choose exX11_ownCost
theorem teX11_ownCost : tX11_ownCost = uX11_ownCost := Classical.choose_spec exX11_ownCost
theorem sX11_ownCost : q_Snd mX11_ownCost tX11_ownCost := by rw [teX11_ownCost]; exact suX11_ownCost
theorem tX11_ownCost_0 : tX11_ownCost 0 = oIl 0 1 := (congrFun teX11_ownCost 0).trans rfl
theorem tX11_ownCost_1 : tX11_ownCost 1 = oIf1lt 20 4 := (congrFun teX11_ownCost 1).trans rfl
theorem tX11_ownCost_4 : tX11_ownCost 4 = oIl 0 5 := (congrFun teX11_ownCost 4).trans rfl
theorem tX11_ownCost_5 : tX11_ownCost 5 = oStO 8 := (congrFun teX11_ownCost 5).trans rfl
theorem tX11_ownCost_8 : tX11_ownCost 8 = oAlen 9 := (congrFun teX11_ownCost 8).trans rfl
theorem tX11_ownCost_9 : tX11_ownCost 9 = oIf2ge 20 12 := (congrFun teX11_ownCost 9).trans rfl
theorem tX11_ownCost_12 : tX11_ownCost 12 = oStO 15 := (congrFun teX11_ownCost 12).trans rfl
theorem tX11_ownCost_15 : tX11_ownCost 15 = oIl 0 16 := (congrFun teX11_ownCost 15).trans rfl
theorem tX11_ownCost_16 : tX11_ownCost 16 = oIald 17 := (congrFun teX11_ownCost 16).trans rfl
theorem tX11_ownCost_17 : tX11_ownCost 17 = oGo 21 := (congrFun teX11_ownCost 17).trans rfl
theorem tX11_ownCost_20 : tX11_ownCost 20 = oK (.int (nI 0)) 21 := (congrFun teX11_ownCost 20).trans rfl
theorem tX11_ownCost_21 : tX11_ownCost 21 = oIret := (congrFun teX11_ownCost 21).trans rfl
def lX11_isLeaf : List (Nat × qP) := [(0, oIl 0 1), (1, oIf1eq 9 4), (4, oIl 0 5), (5, oK (.int (nI 1)) 6), (6, oIf2ne 13 9), (9, oK (.int (nI 1)) 10), (10, oGo 14), (13, oK (.int (nI 0)) 14), (14, oZret)]
def uX11_isLeaf : Nat → qP := q_tb lX11_isLeaf
set_option maxRecDepth 20000 in
theorem suX11_isLeaf : q_Snd mX11_isLeaf uX11_isLeaf := by
  refine q_tb_ok ?_
  unfold lX11_isLeaf
  refine q_fa (ok_iload_n (by decide +kernel : decode cX11_isLeaf 0 = .ok (.iload_n 0, 1)) rfl rfl) ?_
  refine q_fa (ok_if1eq (by decide +kernel : decode cX11_isLeaf 1 = .ok (.ifCond .eq 8, 3)) (by decide) rfl) ?_
  refine q_fa (ok_iload_n (by decide +kernel : decode cX11_isLeaf 4 = .ok (.iload_n 0, 1)) rfl rfl) ?_
  refine q_fa (ok_iconst (by decide +kernel : decode cX11_isLeaf 5 = .ok (.iconst 1, 1)) rfl (by decide +kernel)) ?_
  refine q_fa (ok_if2ne (by decide +kernel : decode cX11_isLeaf 6 = .ok (.if_icmp .ne 7, 3)) (by decide) rfl) ?_
  refine q_fa (ok_iconst (by decide +kernel : decode cX11_isLeaf 9 = .ok (.iconst 1, 1)) rfl (by decide +kernel)) ?_
  refine q_fa (ok_goto (by decide +kernel : decode cX11_isLeaf 10 = .ok (.goto 4, 3)) (by decide)) ?_
  refine q_fa (ok_iconst (by decide +kernel : decode cX11_isLeaf 13 = .ok (.iconst 0, 1)) rfl (by decide +kernel)) ?_
  refine q_fa (ok_zret (by decide +kernel : decode cX11_isLeaf 14 = .ok (.ireturn, 1)) rfl) ?_
  exact q_fa0
theorem exX11_isLeaf : ∃ t : Nat → qP, t = uX11_isLeaf := ⟨_, rfl⟩
noncomputable def tX11_isLeaf : Nat → qP := Classical.choose exX11_isLeaf
theorem teX11_isLeaf : tX11_isLeaf = uX11_isLeaf := Classical.choose_spec exX11_isLeaf
theorem sX11_isLeaf : q_Snd mX11_isLeaf tX11_isLeaf := by rw [teX11_isLeaf]; exact suX11_isLeaf
theorem tX11_isLeaf_0 : tX11_isLeaf 0 = oIl 0 1 := (congrFun teX11_isLeaf 0).trans rfl
theorem tX11_isLeaf_1 : tX11_isLeaf 1 = oIf1eq 9 4 := (congrFun teX11_isLeaf 1).trans rfl
theorem tX11_isLeaf_4 : tX11_isLeaf 4 = oIl 0 5 := (congrFun teX11_isLeaf 4).trans rfl
theorem tX11_isLeaf_5 : tX11_isLeaf 5 = oK (.int (nI 1)) 6 := (congrFun teX11_isLeaf 5).trans rfl
theorem tX11_isLeaf_6 : tX11_isLeaf 6 = oIf2ne 13 9 := (congrFun teX11_isLeaf 6).trans rfl
theorem tX11_isLeaf_9 : tX11_isLeaf 9 = oK (.int (nI 1)) 10 := (congrFun teX11_isLeaf 9).trans rfl
theorem tX11_isLeaf_10 : tX11_isLeaf 10 = oGo 14 := (congrFun teX11_isLeaf 10).trans rfl
theorem tX11_isLeaf_13 : tX11_isLeaf 13 = oK (.int (nI 0)) 14 := (congrFun teX11_isLeaf 13).trans rfl
theorem tX11_isLeaf_14 : tX11_isLeaf 14 = oZret := (congrFun teX11_isLeaf 14).trans rfl
def lX11_hasTwoParts : List (Nat × qP) := [(0, oIl 0 1), (1, oK (.int (nI 2)) 2), (2, oIf2eq 10 5), (5, oIl 0 6), (6, oK (.int (nI 3)) 7), (7, oIf2ne 14 10), (10, oK (.int (nI 1)) 11), (11, oGo 15), (14, oK (.int (nI 0)) 15), (15, oZret)]
def uX11_hasTwoParts : Nat → qP := q_tb lX11_hasTwoParts
set_option maxRecDepth 20000 in
theorem suX11_hasTwoParts : q_Snd mX11_hasTwoParts uX11_hasTwoParts := by
  refine q_tb_ok ?_
  unfold lX11_hasTwoParts
  refine q_fa (ok_iload_n (by decide +kernel : decode cX11_hasTwoParts 0 = .ok (.iload_n 0, 1)) rfl rfl) ?_
  refine q_fa (ok_iconst (by decide +kernel : decode cX11_hasTwoParts 1 = .ok (.iconst 2, 1)) rfl (by decide +kernel)) ?_
  refine q_fa (ok_if2eq (by decide +kernel : decode cX11_hasTwoParts 2 = .ok (.if_icmp .eq 8, 3)) (by decide) rfl) ?_
  refine q_fa (ok_iload_n (by decide +kernel : decode cX11_hasTwoParts 5 = .ok (.iload_n 0, 1)) rfl rfl) ?_
  refine q_fa (ok_iconst (by decide +kernel : decode cX11_hasTwoParts 6 = .ok (.iconst 3, 1)) rfl (by decide +kernel)) ?_
  refine q_fa (ok_if2ne (by decide +kernel : decode cX11_hasTwoParts 7 = .ok (.if_icmp .ne 7, 3)) (by decide) rfl) ?_
  refine q_fa (ok_iconst (by decide +kernel : decode cX11_hasTwoParts 10 = .ok (.iconst 1, 1)) rfl (by decide +kernel)) ?_
  refine q_fa (ok_goto (by decide +kernel : decode cX11_hasTwoParts 11 = .ok (.goto 4, 3)) (by decide)) ?_
  refine q_fa (ok_iconst (by decide +kernel : decode cX11_hasTwoParts 14 = .ok (.iconst 0, 1)) rfl (by decide +kernel)) ?_
  refine q_fa (ok_zret (by decide +kernel : decode cX11_hasTwoParts 15 = .ok (.ireturn, 1)) rfl) ?_
  exact q_fa0
theorem exX11_hasTwoParts : ∃ t : Nat → qP, t = uX11_hasTwoParts := ⟨_, rfl⟩
noncomputable def tX11_hasTwoParts : Nat → qP := Classical.choose exX11_hasTwoParts
theorem teX11_hasTwoParts : tX11_hasTwoParts = uX11_hasTwoParts := Classical.choose_spec exX11_hasTwoParts
theorem sX11_hasTwoParts : q_Snd mX11_hasTwoParts tX11_hasTwoParts := by rw [teX11_hasTwoParts]; exact suX11_hasTwoParts
theorem tX11_hasTwoParts_0 : tX11_hasTwoParts 0 = oIl 0 1 := (congrFun teX11_hasTwoParts 0).trans rfl
theorem tX11_hasTwoParts_1 : tX11_hasTwoParts 1 = oK (.int (nI 2)) 2 := (congrFun teX11_hasTwoParts 1).trans rfl
theorem tX11_hasTwoParts_2 : tX11_hasTwoParts 2 = oIf2eq 10 5 := (congrFun teX11_hasTwoParts 2).trans rfl
theorem tX11_hasTwoParts_5 : tX11_hasTwoParts 5 = oIl 0 6 := (congrFun teX11_hasTwoParts 5).trans rfl
theorem tX11_hasTwoParts_6 : tX11_hasTwoParts 6 = oK (.int (nI 3)) 7 := (congrFun teX11_hasTwoParts 6).trans rfl
theorem tX11_hasTwoParts_7 : tX11_hasTwoParts 7 = oIf2ne 14 10 := (congrFun teX11_hasTwoParts 7).trans rfl
theorem tX11_hasTwoParts_10 : tX11_hasTwoParts 10 = oK (.int (nI 1)) 11 := (congrFun teX11_hasTwoParts 10).trans rfl
theorem tX11_hasTwoParts_11 : tX11_hasTwoParts 11 = oGo 15 := (congrFun teX11_hasTwoParts 11).trans rfl
theorem tX11_hasTwoParts_14 : tX11_hasTwoParts 14 = oK (.int (nI 0)) 15 := (congrFun teX11_hasTwoParts 14).trans rfl
theorem tX11_hasTwoParts_15 : tX11_hasTwoParts 15 = oZret := (congrFun teX11_hasTwoParts 15).trans rfl
