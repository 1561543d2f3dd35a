def lX0_init : List (Nat × qP) := [(0, oAl 0 1), (1, oObj 4), (4, oAl 0 5), (5, oK (.int (nI 12)) 7), (7, oNewa 3 9), (9, oPutR 0 0 12), (12, oAl 0 13), (13, oK (.int (nI 12)) 15), (15, oNewa 1 17), (17, oPutR 0 1 20), (20, oAl 0 21), (21, oK (.int (nI 12)) 23), (23, oNewa 1 25), (25, oPutR 0 2 28), (28, oAl 0 29), (29, oK (.int (nI 6)) 31), (31, oNewa 1 33), (33, oPutR 0 3 36), (36, oAl 0 37), (37, oK (.int (nI 3)) 38), (38, oNewa 1 40), (40, oPutR 0 4 43), (43, oAl 0 44), (44, oK (.int (nI 195)) 47), (47, oNewa 1 49), (49, oPutR 0 5 52), (52, oVret)]
def uX0_init : Nat → qP := q_tb lX0_init
set_option maxRecDepth 20000 in
theorem suX0_init : q_Snd mX0_init uX0_init := by
  refine q_tb_ok ?_
  unfold lX0_init
  refine q_fa (ok_aload_n (by decide +kernel : decode cX0_init 0 = .ok (.aload_n 0, 1)) rfl rfl) ?_
  refine q_fa (ok_obj (by decide +kernel : decode cX0_init 1 = .ok (.invokespecial 3, 3)) rfl g97 g24 g25) ?_
  refine q_fa (ok_aload_n (by decide +kernel : decode cX0_init 4 = .ok (.aload_n 0, 1)) rfl rfl) ?_
  refine q_fa (ok_bipush (by decide +kernel : decode cX0_init 5 = .ok (.bipush 12, 2)) rfl (by decide +kernel)) ?_
  refine q_fa (ok_newa_boolean (by decide +kernel : decode cX0_init 7 = .ok (.newarray .boolean, 2)) rfl g126) ?_
  refine q_fa (ok_putR tyX0 (by decide +kernel : decode cX0_init 9 = .ok (.putfield 9, 3)) rfl (rfl : vwCl[0]? = some (RX0, TX0, 9)) inX0 tyX0_ok nmX0 (by decide) g98 (Or.inr ⟨rfl, rfl, rfl⟩) (by decide +kernel : parseFieldDescriptor (TX0 0).2.2.1 = some (tyX0 0)) (q_rfA _)) ?_
  refine q_fa (ok_aload_n (by decide +kernel : decode cX0_init 12 = .ok (.aload_n 0, 1)) rfl rfl) ?_
  refine q_fa (ok_bipush (by decide +kernel : decode cX0_init 13 = .ok (.bipush 12, 2)) rfl (by decide +kernel)) ?_
  refine q_fa (ok_newa_int (by decide +kernel : decode cX0_init 15 = .ok (.newarray .int, 2)) rfl g56) ?_
  refine q_fa (ok_putR tyX0 (by decide +kernel : decode cX0_init 17 = .ok (.putfield 15, 3)) rfl (rfl : vwCl[0]? = some (RX0, TX0, 9)) inX0 tyX0_ok nmX0 (by decide) g99 (Or.inr ⟨rfl, rfl, rfl⟩) (by decide +kernel : parseFieldDescriptor (TX0 1).2.2.1 = some (tyX0 1)) (q_rfA _)) ?_
  refine q_fa (ok_aload_n (by decide +kernel : decode cX0_init 20 = .ok (.aload_n 0, 1)) rfl rfl) ?_
  refine q_fa (ok_bipush (by decide +kernel : decode cX0_init 21 = .ok (.bipush 12, 2)) rfl (by decide +kernel)) ?_
  refine q_fa (ok_newa_int (by decide +kernel : decode cX0_init 23 = .ok (.newarray .int, 2)) rfl g56) ?_
  refine q_fa (ok_putR tyX0 (by decide +kernel : decode cX0_init 25 = .ok (.putfield 19, 3)) rfl (rfl : vwCl[0]? = some (RX0, TX0, 9)) inX0 tyX0_ok nmX0 (by decide) g100 (Or.inr ⟨rfl, rfl, rfl⟩) (by decide +kernel : parseFieldDescriptor (TX0 2).2.2.1 = some (tyX0 2)) (q_rfA _)) ?_
  refine q_fa (ok_aload_n (by decide +kernel : decode cX0_init 28 = .ok (.aload_n 0, 1)) rfl rfl) ?_
  refine q_fa (ok_bipush (by decide +kernel : decode cX0_init 29 = .ok (.bipush 6, 2)) rfl (by decide +kernel)) ?_
  refine q_fa (ok_newa_int (by decide +kernel : decode cX0_init 31 = .ok (.newarray .int, 2)) rfl g56) ?_
  refine q_fa (ok_putR tyX0 (by decide +kernel : decode cX0_init 33 = .ok (.putfield 22, 3)) rfl (rfl : vwCl[0]? = some (RX0, TX0, 9)) inX0 tyX0_ok nmX0 (by decide) g101 (Or.inr ⟨rfl, rfl, rfl⟩) (by decide +kernel : parseFieldDescriptor (TX0 3).2.2.1 = some (tyX0 3)) (q_rfA _)) ?_
  refine q_fa (ok_aload_n (by decide +kernel : decode cX0_init 36 = .ok (.aload_n 0, 1)) rfl rfl) ?_
  refine q_fa (ok_iconst (by decide +kernel : decode cX0_init 37 = .ok (.iconst 3, 1)) rfl (by decide +kernel)) ?_
  refine q_fa (ok_newa_int (by decide +kernel : decode cX0_init 38 = .ok (.newarray .int, 2)) rfl g56) ?_
  refine q_fa (ok_putR tyX0 (by decide +kernel : decode cX0_init 40 = .ok (.putfield 25, 3)) rfl (rfl : vwCl[0]? = some (RX0, TX0, 9)) inX0 tyX0_ok nmX0 (by decide) g102 (Or.inr ⟨rfl, rfl, rfl⟩) (by decide +kernel : parseFieldDescriptor (TX0 4).2.2.1 = some (tyX0 4)) (q_rfA _)) ?_
  refine q_fa (ok_aload_n (by decide +kernel : decode cX0_init 43 = .ok (.aload_n 0, 1)) rfl rfl) ?_
  refine q_fa (ok_sipush (by decide +kernel : decode cX0_init 44 = .ok (.sipush 195, 3)) rfl (by decide +kernel)) ?_
  refine q_fa (ok_newa_int (by decide +kernel : decode cX0_init 47 = .ok (.newarray .int, 2)) rfl g56) ?_
  refine q_fa (ok_putR tyX0 (by decide +kernel : decode cX0_init 49 = .ok (.putfield 28, 3)) rfl (rfl : vwCl[0]? = some (RX0, TX0, 9)) inX0 tyX0_ok nmX0 (by decide) g103 (Or.inr ⟨rfl, rfl, rfl⟩) (by decide +kernel : parseFieldDescriptor (TX0 5).2.2.1 = some (tyX0 5)) (q_rfA _)) ?_
  refine q_fa (ok_vret (by decide +kernel : decode cX0_init 52 = .ok (.return_, 1)) rfl) ?_
  exact q_fa0
theorem exX0_init : ∃ t : Nat → qP, t = uX0_init := ⟨_, rfl⟩
noncomputable def tX0_init : Nat → qP := Classical.choose exX0_init
theorem teX0_init : tX0_init = uX0_init := Classical.choose_spec exX0_init
theorem sX0_init : q_Snd mX0_init tX0_init := by rw [teX0_init]; exact suX0_init
theorem tX0_init_0 : tX0_init 0 = oAl 0 1 := (congrFun teX0_init 0).trans rfl
theorem tX0_init_1 : tX0_init 1 = oObj 4 := (congrFun teX0_init 1).trans rfl
theorem tX0_init_4 : tX0_init 4 = oAl 0 5 := (congrFun teX0_init 4).trans rfl
theorem tX0_init_5 : tX0_init 5 = oK (.int (nI 12)) 7 := (congrFun teX0_init 5).trans rfl
theorem tX0_init_7 : tX0_init 7 = oNewa 3 9 := (congrFun teX0_init 7).trans rfl
theorem tX0_init_9 : tX0_init 9 = oPutR 0 0 12 := (congrFun teX0_init 9).trans rfl
theorem tX0_init_12 : tX0_init 12 = oAl 0 13 := (congrFun teX0_init 12).trans rfl
theorem tX0_init_13 : tX0_init 13 = oK (.int (nI 12)) 15 := (congrFun teX0_init 13).trans rfl
theorem tX0_init_15 : tX0_init 15 = oNewa 1 17 := (congrFun teX0_init 15).trans rfl
theorem tX0_init_17 : tX0_init 17 = oPutR 0 1 20 := (congrFun teX0_init 17).trans rfl
theorem tX0_init_20 : tX0_init 20 = oAl 0 21 := (congrFun teX0_init 20).trans rfl
theorem tX0_init_21 : tX0_init 21 = oK (.int (nI 12)) 23 := (congrFun teX0_init 21).trans rfl
theorem tX0_init_23 : tX0_init 23 = oNewa 1 25 := (congrFun teX0_init 23).trans rfl
theorem tX0_init_25 : tX0_init 25 = oPutR 0 2 28 := (congrFun teX0_init 25).trans rfl
theorem tX0_init_28 : tX0_init 28 = oAl 0 29 := (congrFun teX0_init 28).trans rfl
theorem tX0_init_29 : tX0_init 29 = oK (.int (nI 6)) 31 := (congrFun teX0_init 29).trans rfl
theorem tX0_init_31 : tX0_init 31 = oNewa 1 33 := (congrFun teX0_init 31).trans rfl
theorem tX0_init_33 : tX0_init 33 = oPutR 0 3 36 := (congrFun teX0_init 33).trans rfl
theorem tX0_init_36 : tX0_init 36 = oAl 0 37 := (congrFun teX0_init 36).trans rfl
theorem tX0_init_37 : tX0_init 37 = oK (.int (nI 3)) 38 := (congrFun teX0_init 37).trans rfl
theorem tX0_init_38 : tX0_init 38 = oNewa 1 40 := (congrFun teX0_init 38).trans rfl
theorem tX0_init_40 : tX0_init 40 = oPutR 0 4 43 := (congrFun teX0_init 40).trans rfl
theorem tX0_init_43 : tX0_init 43 = oAl 0 44 := (congrFun teX0_init 43).trans rfl
theorem tX0_init_44 : tX0_init 44 = oK (.int (nI 195)) 47 := (congrFun teX0_init 44).trans rfl
theorem tX0_init_47 : tX0_init 47 = oNewa 1 49 := (congrFun teX0_init 47).trans rfl
theorem tX0_init_49 : tX0_init 49 = oPutR 0 5 52 := (congrFun teX0_init 49).trans rfl
theorem tX0_init_52 : tX0_init 52 = oVret := (congrFun teX0_init 52).trans rfl
def lX0_build : List (Nat × qP) := [(0, oAl 0 1), (1, oK (.int (nI 0)) 2), (2, oPutI 0 6 5), (5, oAl 0 6), (6, oGet 0 3 9), (9, oK (.int (nI 0)) 10), (10, oCallS mJ7_fill_53178 2 13), (13, oAl 0 14), (14, oGet 0 4 17), (17, oK (.int (nI 0)) 18), (18, oCallS mJ7_fill_53178 2 21), (21, oAl 1 22), (22, oCallV 4 mX4_size 0 25), (25, oK (.int (nI 12)) 27), (27, oMin 30), (30, oIs 2 31), (31, oK (.int (nI 0)) 32), (32, oIs 3 33), (33, oIl 3 34), (34, oIl 2 35), (35, oIf2ge 50 38), (38, oAl 0 39), (39, oAl 1 40), (40, oIl 3 41), (41, oCallV 0 mX0_addNode 2 44), (44, oInc 3 (nI 1) 47), (47, oGo 33), (50, oIl 2 51), (51, oK (.int (nI 1)) 52), (52, oSub 53), (53, oK (.int (nI 0)) 54), (54, oMax 57), (57, oIs 3 58), (58, oAl 0 59), (59, oAl 0 60), (60, oGet 0 2 63), (63, oIl 3 64), (64, oIald 65), (65, oPutI 0 7 68), (68, oAl 0 69), (69, oAl 0 70), (70, oGet 0 0 73), (73, oIl 3 74), (74, oZald 75), (75, oPutZ 0 8 78), (78, oAl 0 79), (79, oAl 0 80), (80, oGet 0 1 83), (83, oIl 3 84), (84, oIald 85), (85, oCallV 0 mX0_fillSteps 1 88), (88, oVret)]
def uX0_build : Nat → qP := q_tb lX0_build
set_option maxRecDepth 20000 in
theorem suX0_build : q_Snd mX0_build uX0_build := by
  refine q_tb_ok ?_
  unfold lX0_build
  refine q_fa (ok_aload_n (by decide +kernel : decode cX0_build 0 = .ok (.aload_n 0, 1)) rfl rfl) ?_
  refine q_fa (ok_iconst (by decide +kernel : decode cX0_build 1 = .ok (.iconst 0, 1)) rfl (by decide +kernel)) ?_
  refine q_fa (ok_putI tyX0 (by decide +kernel : decode cX0_build 2 = .ok (.putfield 31, 3)) rfl (rfl : vwCl[0]? = some (RX0, TX0, 9)) inX0 tyX0_ok nmX0 (by decide) g104 (Or.inl rfl) (by decide +kernel)) ?_
  refine q_fa (ok_aload_n (by decide +kernel : decode cX0_build 5 = .ok (.aload_n 0, 1)) rfl rfl) ?_
  refine q_fa (ok_get (by decide +kernel : decode cX0_build 6 = .ok (.getfield 22, 3)) rfl (rfl : vwCl[0]? = some (RX0, TX0, 9)) inX0 (by decide) g101) ?_
  refine q_fa (ok_iconst (by decide +kernel : decode cX0_build 9 = .ok (.iconst 0, 1)) rfl (by decide +kernel)) ?_
  refine q_fa (ok_callS (by decide +kernel : decode cX0_build 10 = .ok (.invokestatic 35, 3)) rfl kJ7_fill_53178.1 kJ7_fill_53178.2.1 kJ7_fill_53178.2.2.1 kJ7_fill_53178.2.2.2.1 kJ7_fill_53178.2.2.2.2 g496 g495) ?_
  refine q_fa (ok_aload_n (by decide +kernel : decode cX0_build 13 = .ok (.aload_n 0, 1)) rfl rfl) ?_
  refine q_fa (ok_get (by decide +kernel : decode cX0_build 14 = .ok (.getfield 25, 3)) rfl (rfl : vwCl[0]? = some (RX0, TX0, 9)) inX0 (by decide) g102) ?_
  refine q_fa (ok_iconst (by decide +kernel : decode cX0_build 17 = .ok (.iconst 0, 1)) rfl (by decide +kernel)) ?_
  refine q_fa (ok_callS (by decide +kernel : decode cX0_build 18 = .ok (.invokestatic 35, 3)) rfl kJ7_fill_53178.1 kJ7_fill_53178.2.1 kJ7_fill_53178.2.2.1 kJ7_fill_53178.2.2.2.1 kJ7_fill_53178.2.2.2.2 g496 g495) ?_
  refine q_fa (ok_aload_n (by decide +kernel : decode cX0_build 21 = .ok (.aload_n 1, 1)) rfl rfl) ?_
  refine q_fa (ok_callV (by decide +kernel : decode cX0_build 22 = .ok (.invokevirtual 41, 3)) rfl kX4_size.1 kX4_size.2.1 kX4_size.2.2.1 kX4_size.2.2.2.1 kX4_size.2.2.2.2 (rfl : vwCl[4]? = some (RX4, TX4, 4)) g307 g308 g498) ?_
  refine q_fa (ok_bipush (by decide +kernel : decode cX0_build 25 = .ok (.bipush 12, 2)) rfl (by decide +kernel)) ?_
  refine q_fa (ok_min (by decide +kernel : decode cX0_build 27 = .ok (.invokestatic 47, 3)) rfl g499 g456 g4 g457) ?_
  refine q_fa (ok_istore_n (by decide +kernel : decode cX0_build 30 = .ok (.istore_n 2, 1)) rfl rfl (by decide)) ?_
  refine q_fa (ok_iconst (by decide +kernel : decode cX0_build 31 = .ok (.iconst 0, 1)) rfl (by decide +kernel)) ?_
  refine q_fa (ok_istore_n (by decide +kernel : decode cX0_build 32 = .ok (.istore_n 3, 1)) rfl rfl (by decide)) ?_
  refine q_fa (ok_iload_n (by decide +kernel : decode cX0_build 33 = .ok (.iload_n 3, 1)) rfl rfl) ?_
  refine q_fa (ok_iload_n (by decide +kernel : decode cX0_build 34 = .ok (.iload_n 2, 1)) rfl rfl) ?_
  refine q_fa (ok_if2ge (by decide +kernel : decode cX0_build 35 = .ok (.if_icmp .ge 15, 3)) (by decide) rfl) ?_
  refine q_fa (ok_aload_n (by decide +kernel : decode cX0_build 38 = .ok (.aload_n 0, 1)) rfl rfl) ?_
  refine q_fa (ok_aload_n (by decide +kernel : decode cX0_build 39 = .ok (.aload_n 1, 1)) rfl rfl) ?_
  refine q_fa (ok_iload_n (by decide +kernel : decode cX0_build 40 = .ok (.iload_n 3, 1)) rfl rfl) ?_
  refine q_fa (ok_callV (by decide +kernel : decode cX0_build 41 = .ok (.invokevirtual 53, 3)) rfl kX0_addNode.1 kX0_addNode.2.1 kX0_addNode.2.2.1 kX0_addNode.2.2.2.1 kX0_addNode.2.2.2.2 (rfl : vwCl[0]? = some (RX0, TX0, 9)) g502 gs21 g500) ?_
  refine q_fa (ok_iinc (by decide +kernel : decode cX0_build 44 = .ok (.iinc 3 1, 3)) rfl (by decide +kernel) (by decide)) ?_
  refine q_fa (ok_goto (by decide +kernel : decode cX0_build 47 = .ok (.goto (-14), 3)) (by decide)) ?_
  refine q_fa (ok_iload_n (by decide +kernel : decode cX0_build 50 = .ok (.iload_n 2, 1)) rfl rfl) ?_
  refine q_fa (ok_iconst (by decide +kernel : decode cX0_build 51 = .ok (.iconst 1, 1)) rfl (by decide +kernel)) ?_
  refine q_fa (ok_isub (by decide +kernel : decode cX0_build 52 = .ok (.isub, 1)) rfl) ?_
  refine q_fa (ok_iconst (by decide +kernel : decode cX0_build 53 = .ok (.iconst 0, 1)) rfl (by decide +kernel)) ?_
  refine q_fa (ok_max (by decide +kernel : decode cX0_build 54 = .ok (.invokestatic 57, 3)) rfl g516 g41 g4 g42) ?_
  refine q_fa (ok_istore_n (by decide +kernel : decode cX0_build 57 = .ok (.istore_n 3, 1)) rfl rfl (by decide)) ?_
  refine q_fa (ok_aload_n (by decide +kernel : decode cX0_build 58 = .ok (.aload_n 0, 1)) rfl rfl) ?_
  refine q_fa (ok_aload_n (by decide +kernel : decode cX0_build 59 = .ok (.aload_n 0, 1)) rfl rfl) ?_
  refine q_fa (ok_get (by decide +kernel : decode cX0_build 60 = .ok (.getfield 19, 3)) rfl (rfl : vwCl[0]? = some (RX0, TX0, 9)) inX0 (by decide) g100) ?_
  refine q_fa (ok_iload_n (by decide +kernel : decode cX0_build 63 = .ok (.iload_n 3, 1)) rfl rfl) ?_
  refine q_fa (ok_iaload (by decide +kernel : decode cX0_build 64 = .ok (.iaload, 1)) rfl) ?_
  refine q_fa (ok_putI tyX0 (by decide +kernel : decode cX0_build 65 = .ok (.putfield 60, 3)) rfl (rfl : vwCl[0]? = some (RX0, TX0, 9)) inX0 tyX0_ok nmX0 (by decide) g105 (Or.inl rfl) (by decide +kernel)) ?_
  refine q_fa (ok_aload_n (by decide +kernel : decode cX0_build 68 = .ok (.aload_n 0, 1)) rfl rfl) ?_
  refine q_fa (ok_aload_n (by decide +kernel : decode cX0_build 69 = .ok (.aload_n 0, 1)) rfl rfl) ?_
  refine q_fa (ok_get (by decide +kernel : decode cX0_build 70 = .ok (.getfield 9, 3)) rfl (rfl : vwCl[0]? = some (RX0, TX0, 9)) inX0 (by decide) g98) ?_
  refine q_fa (ok_iload_n (by decide +kernel : decode cX0_build 73 = .ok (.iload_n 3, 1)) rfl rfl) ?_
  refine q_fa (ok_zaload (by decide +kernel : decode cX0_build 74 = .ok (.baload, 1)) rfl) ?_
  refine q_fa (ok_putZ tyX0 (by decide +kernel : decode cX0_build 75 = .ok (.putfield 63, 3)) rfl (rfl : vwCl[0]? = some (RX0, TX0, 9)) inX0 tyX0_ok nmX0 (by decide) g106 (Or.inl rfl) (by decide +kernel)) ?_
  refine q_fa (ok_aload_n (by decide +kernel : decode cX0_build 78 = .ok (.aload_n 0, 1)) rfl rfl) ?_
  refine q_fa (ok_aload_n (by decide +kernel : decode cX0_build 79 = .ok (.aload_n 0, 1)) rfl rfl) ?_
  refine q_fa (ok_get (by decide +kernel : decode cX0_build 80 = .ok (.getfield 15, 3)) rfl (rfl : vwCl[0]? = some (RX0, TX0, 9)) inX0 (by decide) g99) ?_
  refine q_fa (ok_iload_n (by decide +kernel : decode cX0_build 83 = .ok (.iload_n 3, 1)) rfl rfl) ?_
  refine q_fa (ok_iaload (by decide +kernel : decode cX0_build 84 = .ok (.iaload, 1)) rfl) ?_
  refine q_fa (ok_callV (by decide +kernel : decode cX0_build 85 = .ok (.invokevirtual 67, 3)) rfl kX0_fillSteps.1 kX0_fillSteps.2.1 kX0_fillSteps.2.2.1 kX0_fillSteps.2.2.2.1 kX0_fillSteps.2.2.2.2 (rfl : vwCl[0]? = some (RX0, TX0, 9)) g519 gs24 g517) ?_
  refine q_fa (ok_vret (by decide +kernel : decode cX0_build 88 = .ok (.return_, 1)) rfl) ?_
  exact q_fa0
theorem exX0_build : ∃ t : Nat → qP, t = uX0_build := ⟨_, rfl⟩
noncomputable def tX0_build : Nat → qP := Classical.choose exX0_build
theorem teX0_build : tX0_build = uX0_build := Classical.choose_spec exX0_build
theorem sX0_build : q_Snd mX0_build tX0_build := by rw [teX0_build]; exact suX0_build
theorem tX0_build_0 : tX0_build 0 = oAl 0 1 := (congrFun teX0_build 0).trans rfl
theorem tX0_build_1 : tX0_build 1 = oK (.int (nI 0)) 2 := (congrFun teX0_build 1).trans rfl
theorem tX0_build_2 : tX0_build 2 = oPutI 0 6 5 := (congrFun teX0_build 2).trans rfl
theorem tX0_build_5 : tX0_build 5 = oAl 0 6 := (congrFun teX0_build 5).trans rfl
theorem tX0_build_6 : tX0_build 6 = oGet 0 3 9 := (congrFun teX0_build 6).trans rfl
theorem tX0_build_9 : tX0_build 9 = oK (.int (nI 0)) 10 := (congrFun teX0_build 9).trans rfl
theorem tX0_build_10 : tX0_build 10 = oCallS mJ7_fill_53178 2 13 := (congrFun teX0_build 10).trans rfl
theorem tX0_build_13 : tX0_build 13 = oAl 0 14 := (congrFun teX0_build 13).trans rfl
theorem tX0_build_14 : tX0_build 14 = oGet 0 4 17 := (congrFun teX0_build 14).trans rfl
theorem tX0_build_17 : tX0_build 17 = oK (.int (nI 0)) 18 := (congrFun teX0_build 17).trans rfl
theorem tX0_build_18 : tX0_build 18 = oCallS mJ7_fill_53178 2 21 := (congrFun teX0_build 18).trans rfl
theorem tX0_build_21 : tX0_build 21 = oAl 1 22 := (congrFun teX0_build 21).trans rfl
theorem tX0_build_22 : tX0_build 22 = oCallV 4 mX4_size 0 25 := (congrFun teX0_build 22).trans rfl
theorem tX0_build_25 : tX0_build 25 = oK (.int (nI 12)) 27 := (congrFun teX0_build 25).trans rfl
theorem tX0_build_27 : tX0_build 27 = oMin 30 := (congrFun teX0_build 27).trans rfl
theorem tX0_build_30 : tX0_build 30 = oIs 2 31 := (congrFun teX0_build 30).trans rfl
theorem tX0_build_31 : tX0_build 31 = oK (.int (nI 0)) 32 := (congrFun teX0_build 31).trans rfl
theorem tX0_build_32 : tX0_build 32 = oIs 3 33 := (congrFun teX0_build 32).trans rfl
theorem tX0_build_33 : tX0_build 33 = oIl 3 34 := (congrFun teX0_build 33).trans rfl
theorem tX0_build_34 : tX0_build 34 = oIl 2 35 := (congrFun teX0_build 34).trans rfl
theorem tX0_build_35 : tX0_build 35 = oIf2ge 50 38 := (congrFun teX0_build 35).trans rfl
theorem tX0_build_38 : tX0_build 38 = oAl 0 39 := (congrFun teX0_build 38).trans rfl
theorem tX0_build_39 : tX0_build 39 = oAl 1 40 := (congrFun teX0_build 39).trans rfl
theorem tX0_build_40 : tX0_build 40 = oIl 3 41 := (congrFun teX0_build 40).trans rfl
theorem tX0_build_41 : tX0_build 41 = oCallV 0 mX0_addNode 2 44 := (congrFun teX0_build 41).trans rfl
theorem tX0_build_44 : tX0_build 44 = oInc 3 (nI 1) 47 := (congrFun teX0_build 44).trans rfl
theorem tX0_build_47 : tX0_build 47 = oGo 33 := (congrFun teX0_build 47).trans rfl
theorem tX0_build_50 : tX0_build 50 = oIl 2 51 := (congrFun teX0_build 50).trans rfl
theorem tX0_build_51 : tX0_build 51 = oK (.int (nI 1)) 52 := (congrFun teX0_build 51).trans rfl
theorem tX0_build_52 : tX0_build 52 = oSub 53 := (congrFun teX0_build 52).trans rfl
theorem tX0_build_53 : tX0_build 53 = oK (.int (nI 0)) 54 := (congrFun teX0_build 53).trans rfl
theorem tX0_build_54 : tX0_build 54 = oMax 57 := (congrFun teX0_build 54).trans rfl
theorem tX0_build_57 : tX0_build 57 = oIs 3 58 := (congrFun teX0_build 57).trans rfl
theorem tX0_build_58 : tX0_build 58 = oAl 0 59 := (congrFun teX0_build 58).trans rfl
theorem tX0_build_59 : tX0_build 59 = oAl 0 60 := (congrFun teX0_build 59).trans rfl
theorem tX0_build_60 : tX0_build 60 = oGet 0 2 63 := (congrFun teX0_build 60).trans rfl
theorem tX0_build_63 : tX0_build 63 = oIl 3 64 := (congrFun teX0_build 63).trans rfl
theorem tX0_build_64 : tX0_build 64 = oIald 65 := (congrFun teX0_build 64).trans rfl
theorem tX0_build_65 : tX0_build 65 = oPutI 0 7 68 := (congrFun teX0_build 65).trans rfl
theorem tX0_build_68 : tX0_build 68 = oAl 0 69 := (congrFun teX0_build 68).trans rfl
theorem tX0_build_69 : tX0_build 69 = oAl 0 70 := (congrFun teX0_build 69).trans rfl
theorem tX0_build_70 : tX0_build 70 = oGet 0 0 73 := (congrFun teX0_build 70).trans rfl
theorem tX0_build_73 : tX0_build 73 = oIl 3 74 := (congrFun teX0_build 73).trans rfl
theorem tX0_build_74 : tX0_build 74 = oZald 75 := (congrFun teX0_build 74).trans rfl
theorem tX0_build_75 : tX0_build 75 = oPutZ 0 8 78 := (congrFun teX0_build 75).trans rfl
theorem tX0_build_78 : tX0_build 78 = oAl 0 79 := (congrFun teX0_build 78).trans rfl
theorem tX0_build_79 : tX0_build 79 = oAl 0 80 := (congrFun teX0_build 79).trans rfl
theorem tX0_build_80 : tX0_build 80 = oGet 0 1 83 := (congrFun teX0_build 80).trans rfl
theorem tX0_build_83 : tX0_build 83 = oIl 3 84 := (congrFun teX0_build 83).trans rfl
theorem tX0_build_84 : tX0_build 84 = oIald 85 := (congrFun teX0_build 84).trans rfl
theorem tX0_build_85 : tX0_build 85 = oCallV 0 mX0_fillSteps 1 88 := (congrFun teX0_build 85).trans rfl
theorem tX0_build_88 : tX0_build 88 = oVret := (congrFun teX0_build 88).trans rfl
def lX0_addNode : List (Nat × qP) := [(0, oAl 1 1), (1, oIl 2 2), (2, oCallV 4 mX4_kindOf 1 5), (5, oIs 3 6), (6, oAl 1 7), (7, oIl 2 8), (8, oCallV 4 mX4_leftOf 1 11), (11, oIs 4 13), (13, oAl 1 14), (14, oIl 2 15), (15, oCallV 4 mX4_rightOf 1 18), (18, oIs 5 20), (20, oIl 3 21), (21, oCallS mX11_isLeaf 1 24), (24, oIf1eq 48 27), (27, oAl 0 28), (28, oIl 2 29), (29, oIl 3 30), (30, oIf1ne 40 33), (33, oK (.int (nI 1)) 34), (34, oIl 4 36), (36, oShl 37), (37, oGo 42), (40, oIl 4 42), (42, oCallV 0 mX0_addLeaf 2 45), (45, oGo 358), (48, oIl 4 50), (50, oIf1lt 70 53), (53, oIl 4 55), (55, oIl 2 56), (56, oIf2ge 70 59), (59, oIl 5 61), (61, oIf1lt 70 64), (64, oIl 5 66), (66, oIl 2 67), (67, oIf2lt 71 70), (70, oVret), (71, oIl 3 72), (72, oK (.int (nI 2)) 73), (73, oIf2ne 198 76), (76, oAl 0 77), (77, oGet 0 0 80), (80, oIl 2 81), (81, oAl 0 82), (82, oGet 0 0 85), (85, oIl 4 87), (87, oZald 88), (88, oIf1eq 105 91), (91, oAl 0 92), (92, oGet 0 0 95), (95, oIl 5 97), (97, oZald 98), (98, oIf1eq 105 101), (101, oK (.int (nI 1)) 102), (102, oGo 106), (105, oK (.int (nI 0)) 106), (106, oZast 107), (107, oAl 0 108), (108, oGet 0 1 111), (111, oIl 2 112), (112, oAl 0 113), (113, oGet 0 1 116), (116, oIl 4 118), (118, oIald 119), (119, oAl 0 120), (120, oGet 0 0 123), (123, oIl 4 125), (125, oZald 126), (126, oIf1eq 139 129), (129, oAl 0 130), (130, oGet 0 1 133), (133, oIl 5 135), (135, oIald 136), (136, oGo 140), (139, oK (.int (nI 0)) 140), (140, oOr 141), (141, oIast 142), (142, oAl 0 143), (143, oGet 0 2 146), (146, oIl 2 147), (147, oAl 0 148), (148, oGet 0 2 151), (151, oIl 5 153), (153, oIald 154), (154, oAl 0 155), (155, oGet 0 0 158), (158, oIl 5 160), (160, oZald 161), (161, oIf1eq 174 164), (164, oAl 0 165), (165, oGet 0 2 168), (168, oIl 4 170), (170, oIald 171), (171, oGo 175), (174, oK (.int (nI 0)) 175), (175, oOr 176), (176, oIast 177), (177, oAl 0 178), (178, oAl 0 179), (179, oGet 0 2 182), (182, oIl 4 184), (184, oIald 185), (185, oAl 0 186), (186, oGet 0 1 189), (189, oIl 5 191), (191, oIald 192), (192, oCallV 0 mX0_follow 2 195), (195, oGo 358), (198, oIl 3 199), (199, oK (.int (nI 3)) 200), (200, oIf2ne 279 203), (203, oAl 0 204), (204, oGet 0 0 207), (207, oIl 2 208), (208, oAl 0 209), (209, oGet 0 0 212), (212, oIl 4 214), (214, oZald 215), (215, oIf1ne 228 218), (218, oAl 0 219), (219, oGet 0 0 222), (222, oIl 5 224), (224, oZald 225), (225, oIf1eq 232 228), (228, oK (.int (nI 1)) 229), (229, oGo 233), (232, oK (.int (nI 0)) 233), (233, oZast 234), (234, oAl 0 235), (235, oGet 0 1 238), (238, oIl 2 239), (239, oAl 0 240), (240, oGet 0 1 243), (243, oIl 4 245), (245, oIald 246), (246, oAl 0 247), (247, oGet 0 1 250), (250, oIl 5 252), (252, oIald 253), (253, oOr 254), (254, oIast 255), (255, oAl 0 256), (256, oGet 0 2 259), (259, oIl 2 260), (260, oAl 0 261), (261, oGet 0 2 264), (264, oIl 4 266), (266, oIald 267), (267, oAl 0 268), (268, oGet 0 2 271), (271, oIl 5 273), (273, oIald 274), (274, oOr 275), (275, oIast 276), (276, oGo 358), (279, oAl 0 280), (280, oGet 0 0 283), (283, oIl 2 284), (284, oAl 0 285), (285, oGet 0 0 288), (288, oIl 4 290), (290, oZald 291), (291, oIf1ne 299 294), (294, oIl 3 295), (295, oK (.int (nI 5)) 296), (296, oIf2ne 303 299), (299, oK (.int (nI 1)) 300), (300, oGo 304), (303, oK (.int (nI 0)) 304), (304, oZast 305), (305, oAl 0 306), (306, oGet 0 1 309), (309, oIl 2 310), (310, oAl 0 311), (311, oGet 0 1 314), (314, oIl 4 316), (316, oIald 317), (317, oIast 318), (318, oAl 0 319), (319, oGet 0 2 322), (322, oIl 2 323), (323, oAl 0 324), (324, oGet 0 2 327), (327, oIl 4 329), (329, oIald 330), (330, oIast 331), (331, oAl 0 332), (332, oIl 3 333), (333, oK (.int (nI 4)) 334), (334, oIf2ne 347 337), (337, oAl 0 338), (338, oGet 0 2 341), (341, oIl 4 343), (343, oIald 344), (344, oGo 348), (347, oK (.int (nI 0)) 348), (348, oAl 0 349), (349, oGet 0 1 352), (352, oIl 4 354), (354, oIald 355), (355, oCallV 0 mX0_follow 2 358), (358, oVret)]
def uX0_addNode : Nat → qP := q_tb lX0_addNode
set_option maxRecDepth 20000 in
theorem suX0_addNode : q_Snd mX0_addNode uX0_addNode := by
  refine q_tb_ok ?_
  unfold lX0_addNode
  refine q_fa (ok_aload_n (by decide +kernel : decode cX0_addNode 0 = .ok (.aload_n 1, 1)) rfl rfl) ?_
  refine q_fa (ok_iload_n (by decide +kernel : decode cX0_addNode 1 = .ok (.iload_n 2, 1)) rfl rfl) ?_
  refine q_fa (ok_callV (by decide +kernel : decode cX0_addNode 2 = .ok (.invokevirtual 71, 3)) rfl kX4_kindOf.1 kX4_kindOf.2.1 kX4_kindOf.2.2.1 kX4_kindOf.2.2.2.1 kX4_kindOf.2.2.2.2 (rfl : vwCl[4]? = some (RX4, TX4, 4)) g287 g288 g504) ?_
  refine q_fa (ok_istore_n (by decide +kernel : decode cX0_addNode 5 = .ok (.istore_n 3, 1)) rfl rfl (by decide)) ?_
  refine q_fa (ok_aload_n (by decide +kernel : decode cX0_addNode 6 = .ok (.aload_n 1, 1)) rfl rfl) ?_
  refine q_fa (ok_iload_n (by decide +kernel : decode cX0_addNode 7 = .ok (.iload_n 2, 1)) rfl rfl) ?_
  refine q_fa (ok_callV (by decide +kernel : decode cX0_addNode 8 = .ok (.invokevirtual 75, 3)) rfl kX4_leftOf.1 kX4_leftOf.2.1 kX4_leftOf.2.2.1 kX4_leftOf.2.2.2.1 kX4_leftOf.2.2.2.2 (rfl : vwCl[4]? = some (RX4, TX4, 4)) g322 g323 g505) ?_
  refine q_fa (ok_istore (by decide +kernel : decode cX0_addNode 11 = .ok (.istore 4, 2)) rfl (by decide)) ?_
  refine q_fa (ok_aload_n (by decide +kernel : decode cX0_addNode 13 = .ok (.aload_n 1, 1)) rfl rfl) ?_
  refine q_fa (ok_iload_n (by decide +kernel : decode cX0_addNode 14 = .ok (.iload_n 2, 1)) rfl rfl) ?_
  refine q_fa (ok_callV (by decide +kernel : decode cX0_addNode 15 = .ok (.invokevirtual 78, 3)) rfl kX4_rightOf.1 kX4_rightOf.2.1 kX4_rightOf.2.2.1 kX4_rightOf.2.2.2.1 kX4_rightOf.2.2.2.2 (rfl : vwCl[4]? = some (RX4, TX4, 4)) g291 g292 g506) ?_
  refine q_fa (ok_istore (by decide +kernel : decode cX0_addNode 18 = .ok (.istore 5, 2)) rfl (by decide)) ?_
  refine q_fa (ok_iload_n (by decide +kernel : decode cX0_addNode 20 = .ok (.iload_n 3, 1)) rfl rfl) ?_
  refine q_fa (ok_callSN (by decide +kernel : decode cX0_addNode 21 = .ok (.invokestatic 81, 3)) rfl kX11_isLeaf.1 kX11_isLeaf.2.1 kX11_isLeaf.2.2.1 kX11_isLeaf.2.2.2.1 kX11_isLeaf.2.2.2.2 g319 gn507) ?_
  refine q_fa (ok_if1eq (by decide +kernel : decode cX0_addNode 24 = .ok (.ifCond .eq 24, 3)) (by decide) rfl) ?_
  refine q_fa (ok_aload_n (by decide +kernel : decode cX0_addNode 27 = .ok (.aload_n 0, 1)) rfl rfl) ?_
  refine q_fa (ok_iload_n (by decide +kernel : decode cX0_addNode 28 = .ok (.iload_n 2, 1)) rfl rfl) ?_
  refine q_fa (ok_iload_n (by decide +kernel : decode cX0_addNode 29 = .ok (.iload_n 3, 1)) rfl rfl) ?_
  refine q_fa (ok_if1ne (by decide +kernel : decode cX0_addNode 30 = .ok (.ifCond .ne 10, 3)) (by decide) rfl) ?_
  refine q_fa (ok_iconst (by decide +kernel : decode cX0_addNode 33 = .ok (.iconst 1, 1)) rfl (by decide +kernel)) ?_
  refine q_fa (ok_iload (by decide +kernel : decode cX0_addNode 34 = .ok (.iload 4, 2)) rfl) ?_
  refine q_fa (ok_ishl (by decide +kernel : decode cX0_addNode 36 = .ok (.ishl, 1)) rfl) ?_
  refine q_fa (ok_goto (by decide +kernel : decode cX0_addNode 37 = .ok (.goto 5, 3)) (by decide)) ?_
  refine q_fa (ok_iload (by decide +kernel : decode cX0_addNode 40 = .ok (.iload 4, 2)) rfl) ?_
  refine q_fa (ok_callV (by decide +kernel : decode cX0_addNode 42 = .ok (.invokevirtual 85, 3)) rfl kX0_addLeaf.1 kX0_addLeaf.2.1 kX0_addLeaf.2.2.1 kX0_addLeaf.2.2.2.1 kX0_addLeaf.2.2.2.2 (rfl : vwCl[0]? = some (RX0, TX0, 9)) g510 gs22 g508) ?_
  refine q_fa (ok_goto (by decide +kernel : decode cX0_addNode 45 = .ok (.goto 313, 3)) (by decide)) ?_
  refine q_fa (ok_iload (by decide +kernel : decode cX0_addNode 48 = .ok (.iload 4, 2)) rfl) ?_
  refine q_fa (ok_if1lt (by decide +kernel : decode cX0_addNode 50 = .ok (.ifCond .lt 20, 3)) (by decide) rfl) ?_
  refine q_fa (ok_iload (by decide +kernel : decode cX0_addNode 53 = .ok (.iload 4, 2)) rfl) ?_
  refine q_fa (ok_iload_n (by decide +kernel : decode cX0_addNode 55 = .ok (.iload_n 2, 1)) rfl rfl) ?_
  refine q_fa (ok_if2ge (by decide +kernel : decode cX0_addNode 56 = .ok (.if_icmp .ge 14, 3)) (by decide) rfl) ?_
  refine q_fa (ok_iload (by decide +kernel : decode cX0_addNode 59 = .ok (.iload 5, 2)) rfl) ?_
  refine q_fa (ok_if1lt (by decide +kernel : decode cX0_addNode 61 = .ok (.ifCond .lt 9, 3)) (by decide) rfl) ?_
  refine q_fa (ok_iload (by decide +kernel : decode cX0_addNode 64 = .ok (.iload 5, 2)) rfl) ?_
  refine q_fa (ok_iload_n (by decide +kernel : decode cX0_addNode 66 = .ok (.iload_n 2, 1)) rfl rfl) ?_
  refine q_fa (ok_if2lt (by decide +kernel : decode cX0_addNode 67 = .ok (.if_icmp .lt 4, 3)) (by decide) rfl) ?_
  refine q_fa (ok_vret (by decide +kernel : decode cX0_addNode 70 = .ok (.return_, 1)) rfl) ?_
  refine q_fa (ok_iload_n (by decide +kernel : decode cX0_addNode 71 = .ok (.iload_n 3, 1)) rfl rfl) ?_
  refine q_fa (ok_iconst (by decide +kernel : decode cX0_addNode 72 = .ok (.iconst 2, 1)) rfl (by decide +kernel)) ?_
  refine q_fa (ok_if2ne (by decide +kernel : decode cX0_addNode 73 = .ok (.if_icmp .ne 125, 3)) (by decide) rfl) ?_
  refine q_fa (ok_aload_n (by decide +kernel : decode cX0_addNode 76 = .ok (.aload_n 0, 1)) rfl rfl) ?_
  refine q_fa (ok_get (by decide +kernel : decode cX0_addNode 77 = .ok (.getfield 9, 3)) rfl (rfl : vwCl[0]? = some (RX0, TX0, 9)) inX0 (by decide) g98) ?_
  refine q_fa (ok_iload_n (by decide +kernel : decode cX0_addNode 80 = .ok (.iload_n 2, 1)) rfl rfl) ?_
  refine q_fa (ok_aload_n (by decide +kernel : decode cX0_addNode 81 = .ok (.aload_n 0, 1)) rfl rfl) ?_
  refine q_fa (ok_get (by decide +kernel : decode cX0_addNode 82 = .ok (.getfield 9, 3)) rfl (rfl : vwCl[0]? = some (RX0, TX0, 9)) inX0 (by decide) g98) ?_
  refine q_fa (ok_iload (by decide +kernel : decode cX0_addNode 85 = .ok (.iload 4, 2)) rfl) ?_
  refine q_fa (ok_zaload (by decide +kernel : decode cX0_addNode 87 = .ok (.baload, 1)) rfl) ?_
  refine q_fa (ok_if1eq (by decide +kernel : decode cX0_addNode 88 = .ok (.ifCond .eq 17, 3)) (by decide) rfl) ?_
  refine q_fa (ok_aload_n (by decide +kernel : decode cX0_addNode 91 = .ok (.aload_n 0, 1)) rfl rfl) ?_
  refine q_fa (ok_get (by decide +kernel : decode cX0_addNode 92 = .ok (.getfield 9, 3)) rfl (rfl : vwCl[0]? = some (RX0, TX0, 9)) inX0 (by decide) g98) ?_
  refine q_fa (ok_iload (by decide +kernel : decode cX0_addNode 95 = .ok (.iload 5, 2)) rfl) ?_
  refine q_fa (ok_zaload (by decide +kernel : decode cX0_addNode 97 = .ok (.baload, 1)) rfl) ?_
  refine q_fa (ok_if1eq (by decide +kernel : decode cX0_addNode 98 = .ok (.ifCond .eq 7, 3)) (by decide) rfl) ?_
  refine q_fa (ok_iconst (by decide +kernel : decode cX0_addNode 101 = .ok (.iconst 1, 1)) rfl (by decide +kernel)) ?_
  refine q_fa (ok_goto (by decide +kernel : decode cX0_addNode 102 = .ok (.goto 4, 3)) (by decide)) ?_
  refine q_fa (ok_iconst (by decide +kernel : decode cX0_addNode 105 = .ok (.iconst 0, 1)) rfl (by decide +kernel)) ?_
  refine q_fa (ok_zastore (by decide +kernel : decode cX0_addNode 106 = .ok (.bastore, 1)) rfl) ?_
  refine q_fa (ok_aload_n (by decide +kernel : decode cX0_addNode 107 = .ok (.aload_n 0, 1)) rfl rfl) ?_
  refine q_fa (ok_get (by decide +kernel : decode cX0_addNode 108 = .ok (.getfield 15, 3)) rfl (rfl : vwCl[0]? = some (RX0, TX0, 9)) inX0 (by decide) g99) ?_
  refine q_fa (ok_iload_n (by decide +kernel : decode cX0_addNode 111 = .ok (.iload_n 2, 1)) rfl rfl) ?_
  refine q_fa (ok_aload_n (by decide +kernel : decode cX0_addNode 112 = .ok (.aload_n 0, 1)) rfl rfl) ?_
  refine q_fa (ok_get (by decide +kernel : decode cX0_addNode 113 = .ok (.getfield 15, 3)) rfl (rfl : vwCl[0]? = some (RX0, TX0, 9)) inX0 (by decide) g99) ?_
  refine q_fa (ok_iload (by decide +kernel : decode cX0_addNode 116 = .ok (.iload 4, 2)) rfl) ?_
  refine q_fa (ok_iaload (by decide +kernel : decode cX0_addNode 118 = .ok (.iaload, 1)) rfl) ?_
  refine q_fa (ok_aload_n (by decide +kernel : decode cX0_addNode 119 = .ok (.aload_n 0, 1)) rfl rfl) ?_
  refine q_fa (ok_get (by decide +kernel : decode cX0_addNode 120 = .ok (.getfield 9, 3)) rfl (rfl : vwCl[0]? = some (RX0, TX0, 9)) inX0 (by decide) g98) ?_
  refine q_fa (ok_iload (by decide +kernel : decode cX0_addNode 123 = .ok (.iload 4, 2)) rfl) ?_
  refine q_fa (ok_zaload (by decide +kernel : decode cX0_addNode 125 = .ok (.baload, 1)) rfl) ?_
  refine q_fa (ok_if1eq (by decide +kernel : decode cX0_addNode 126 = .ok (.ifCond .eq 13, 3)) (by decide) rfl) ?_
  refine q_fa (ok_aload_n (by decide +kernel : decode cX0_addNode 129 = .ok (.aload_n 0, 1)) rfl rfl) ?_
  refine q_fa (ok_get (by decide +kernel : decode cX0_addNode 130 = .ok (.getfield 15, 3)) rfl (rfl : vwCl[0]? = some (RX0, TX0, 9)) inX0 (by decide) g99) ?_
  refine q_fa (ok_iload (by decide +kernel : decode cX0_addNode 133 = .ok (.iload 5, 2)) rfl) ?_
  refine q_fa (ok_iaload (by decide +kernel : decode cX0_addNode 135 = .ok (.iaload, 1)) rfl) ?_
  refine q_fa (ok_goto (by decide +kernel : decode cX0_addNode 136 = .ok (.goto 4, 3)) (by decide)) ?_
  refine q_fa (ok_iconst (by decide +kernel : decode cX0_addNode 139 = .ok (.iconst 0, 1)) rfl (by decide +kernel)) ?_
  refine q_fa (ok_ior (by decide +kernel : decode cX0_addNode 140 = .ok (.ior, 1)) rfl) ?_
  refine q_fa (ok_iastore (by decide +kernel : decode cX0_addNode 141 = .ok (.iastore, 1)) rfl) ?_
  refine q_fa (ok_aload_n (by decide +kernel : decode cX0_addNode 142 = .ok (.aload_n 0, 1)) rfl rfl) ?_
  refine q_fa (ok_get (by decide +kernel : decode cX0_addNode 143 = .ok (.getfield 19, 3)) rfl (rfl : vwCl[0]? = some (RX0, TX0, 9)) inX0 (by decide) g100) ?_
  refine q_fa (ok_iload_n (by decide +kernel : decode cX0_addNode 146 = .ok (.iload_n 2, 1)) rfl rfl) ?_
  refine q_fa (ok_aload_n (by decide +kernel : decode cX0_addNode 147 = .ok (.aload_n 0, 1)) rfl rfl) ?_
  refine q_fa (ok_get (by decide +kernel : decode cX0_addNode 148 = .ok (.getfield 19, 3)) rfl (rfl : vwCl[0]? = some (RX0, TX0, 9)) inX0 (by decide) g100) ?_
  refine q_fa (ok_iload (by decide +kernel : decode cX0_addNode 151 = .ok (.iload 5, 2)) rfl) ?_
  refine q_fa (ok_iaload (by decide +kernel : decode cX0_addNode 153 = .ok (.iaload, 1)) rfl) ?_
  refine q_fa (ok_aload_n (by decide +kernel : decode cX0_addNode 154 = .ok (.aload_n 0, 1)) rfl rfl) ?_
  refine q_fa (ok_get (by decide +kernel : decode cX0_addNode 155 = .ok (.getfield 9, 3)) rfl (rfl : vwCl[0]? = some (RX0, TX0, 9)) inX0 (by decide) g98) ?_
  refine q_fa (ok_iload (by decide +kernel : decode cX0_addNode 158 = .ok (.iload 5, 2)) rfl) ?_
  refine q_fa (ok_zaload (by decide +kernel : decode cX0_addNode 160 = .ok (.baload, 1)) rfl) ?_
  refine q_fa (ok_if1eq (by decide +kernel : decode cX0_addNode 161 = .ok (.ifCond .eq 13, 3)) (by decide) rfl) ?_
  refine q_fa (ok_aload_n (by decide +kernel : decode cX0_addNode 164 = .ok (.aload_n 0, 1)) rfl rfl) ?_
  refine q_fa (ok_get (by decide +kernel : decode cX0_addNode 165 = .ok (.getfield 19, 3)) rfl (rfl : vwCl[0]? = some (RX0, TX0, 9)) inX0 (by decide) g100) ?_
  refine q_fa (ok_iload (by decide +kernel : decode cX0_addNode 168 = .ok (.iload 4, 2)) rfl) ?_
  refine q_fa (ok_iaload (by decide +kernel : decode cX0_addNode 170 = .ok (.iaload, 1)) rfl) ?_
  refine q_fa (ok_goto (by decide +kernel : decode cX0_addNode 171 = .ok (.goto 4, 3)) (by decide)) ?_
  refine q_fa (ok_iconst (by decide +kernel : decode cX0_addNode 174 = .ok (.iconst 0, 1)) rfl (by decide +kernel)) ?_
  refine q_fa (ok_ior (by decide +kernel : decode cX0_addNode 175 = .ok (.ior, 1)) rfl) ?_
  refine q_fa (ok_iastore (by decide +kernel : decode cX0_addNode 176 = .ok (.iastore, 1)) rfl) ?_
  refine q_fa (ok_aload_n (by decide +kernel : decode cX0_addNode 177 = .ok (.aload_n 0, 1)) rfl rfl) ?_
  refine q_fa (ok_aload_n (by decide +kernel : decode cX0_addNode 178 = .ok (.aload_n 0, 1)) rfl rfl) ?_
  refine q_fa (ok_get (by decide +kernel : decode cX0_addNode 179 = .ok (.getfield 19, 3)) rfl (rfl : vwCl[0]? = some (RX0, TX0, 9)) inX0 (by decide) g100) ?_
  refine q_fa (ok_iload (by decide +kernel : decode cX0_addNode 182 = .ok (.iload 4, 2)) rfl) ?_
  refine q_fa (ok_iaload (by decide +kernel : decode cX0_addNode 184 = .ok (.iaload, 1)) rfl) ?_
  refine q_fa (ok_aload_n (by decide +kernel : decode cX0_addNode 185 = .ok (.aload_n 0, 1)) rfl rfl) ?_
  refine q_fa (ok_get (by decide +kernel : decode cX0_addNode 186 = .ok (.getfield 15, 3)) rfl (rfl : vwCl[0]? = some (RX0, TX0, 9)) inX0 (by decide) g99) ?_
  refine q_fa (ok_iload (by decide +kernel : decode cX0_addNode 189 = .ok (.iload 5, 2)) rfl) ?_
  refine q_fa (ok_iaload (by decide +kernel : decode cX0_addNode 191 = .ok (.iaload, 1)) rfl) ?_
  refine q_fa (ok_callV (by decide +kernel : decode cX0_addNode 192 = .ok (.invokevirtual 89, 3)) rfl kX0_follow.1 kX0_follow.2.1 kX0_follow.2.2.1 kX0_follow.2.2.2.1 kX0_follow.2.2.2.2 (rfl : vwCl[0]? = some (RX0, TX0, 9)) g514 gs23 g512) ?_
  refine q_fa (ok_goto (by decide +kernel : decode cX0_addNode 195 = .ok (.goto 163, 3)) (by decide)) ?_
  refine q_fa (ok_iload_n (by decide +kernel : decode cX0_addNode 198 = .ok (.iload_n 3, 1)) rfl rfl) ?_
  refine q_fa (ok_iconst (by decide +kernel : decode cX0_addNode 199 = .ok (.iconst 3, 1)) rfl (by decide +kernel)) ?_
  refine q_fa (ok_if2ne (by decide +kernel : decode cX0_addNode 200 = .ok (.if_icmp .ne 79, 3)) (by decide) rfl) ?_
  refine q_fa (ok_aload_n (by decide +kernel : decode cX0_addNode 203 = .ok (.aload_n 0, 1)) rfl rfl) ?_
  refine q_fa (ok_get (by decide +kernel : decode cX0_addNode 204 = .ok (.getfield 9, 3)) rfl (rfl : vwCl[0]? = some (RX0, TX0, 9)) inX0 (by decide) g98) ?_
  refine q_fa (ok_iload_n (by decide +kernel : decode cX0_addNode 207 = .ok (.iload_n 2, 1)) rfl rfl) ?_
  refine q_fa (ok_aload_n (by decide +kernel : decode cX0_addNode 208 = .ok (.aload_n 0, 1)) rfl rfl) ?_
  refine q_fa (ok_get (by decide +kernel : decode cX0_addNode 209 = .ok (.getfield 9, 3)) rfl (rfl : vwCl[0]? = some (RX0, TX0, 9)) inX0 (by decide) g98) ?_
  refine q_fa (ok_iload (by decide +kernel : decode cX0_addNode 212 = .ok (.iload 4, 2)) rfl) ?_
  refine q_fa (ok_zaload (by decide +kernel : decode cX0_addNode 214 = .ok (.baload, 1)) rfl) ?_
  refine q_fa (ok_if1ne (by decide +kernel : decode cX0_addNode 215 = .ok (.ifCond .ne 13, 3)) (by decide) rfl) ?_
  refine q_fa (ok_aload_n (by decide +kernel : decode cX0_addNode 218 = .ok (.aload_n 0, 1)) rfl rfl) ?_
  refine q_fa (ok_get (by decide +kernel : decode cX0_addNode 219 = .ok (.getfield 9, 3)) rfl (rfl : vwCl[0]? = some (RX0, TX0, 9)) inX0 (by decide) g98) ?_
  refine q_fa (ok_iload (by decide +kernel : decode cX0_addNode 222 = .ok (.iload 5, 2)) rfl) ?_
  refine q_fa (ok_zaload (by decide +kernel : decode cX0_addNode 224 = .ok (.baload, 1)) rfl) ?_
  refine q_fa (ok_if1eq (by decide +kernel : decode cX0_addNode 225 = .ok (.ifCond .eq 7, 3)) (by decide) rfl) ?_
  refine q_fa (ok_iconst (by decide +kernel : decode cX0_addNode 228 = .ok (.iconst 1, 1)) rfl (by decide +kernel)) ?_
  refine q_fa (ok_goto (by decide +kernel : decode cX0_addNode 229 = .ok (.goto 4, 3)) (by decide)) ?_
  refine q_fa (ok_iconst (by decide +kernel : decode cX0_addNode 232 = .ok (.iconst 0, 1)) rfl (by decide +kernel)) ?_
  refine q_fa (ok_zastore (by decide +kernel : decode cX0_addNode 233 = .ok (.bastore, 1)) rfl) ?_
  refine q_fa (ok_aload_n (by decide +kernel : decode cX0_addNode 234 = .ok (.aload_n 0, 1)) rfl rfl) ?_
  refine q_fa (ok_get (by decide +kernel : decode cX0_addNode 235 = .ok (.getfield 15, 3)) rfl (rfl : vwCl[0]? = some (RX0, TX0, 9)) inX0 (by decide) g99) ?_
  refine q_fa (ok_iload_n (by decide +kernel : decode cX0_addNode 238 = .ok (.iload_n 2, 1)) rfl rfl) ?_
  refine q_fa (ok_aload_n (by decide +kernel : decode cX0_addNode 239 = .ok (.aload_n 0, 1)) rfl rfl) ?_
  refine q_fa (ok_get (by decide +kernel : decode cX0_addNode 240 = .ok (.getfield 15, 3)) rfl (rfl : vwCl[0]? = some (RX0, TX0, 9)) inX0 (by decide) g99) ?_
  refine q_fa (ok_iload (by decide +kernel : decode cX0_addNode 243 = .ok (.iload 4, 2)) rfl) ?_
  refine q_fa (ok_iaload (by decide +kernel : decode cX0_addNode 245 = .ok (.iaload, 1)) rfl) ?_
  refine q_fa (ok_aload_n (by decide +kernel : decode cX0_addNode 246 = .ok (.aload_n 0, 1)) rfl rfl) ?_
  refine q_fa (ok_get (by decide +kernel : decode cX0_addNode 247 = .ok (.getfield 15, 3)) rfl (rfl : vwCl[0]? = some (RX0, TX0, 9)) inX0 (by decide) g99) ?_
  refine q_fa (ok_iload (by decide +kernel : decode cX0_addNode 250 = .ok (.iload 5, 2)) rfl) ?_
  refine q_fa (ok_iaload (by decide +kernel : decode cX0_addNode 252 = .ok (.iaload, 1)) rfl) ?_
  refine q_fa (ok_ior (by decide +kernel : decode cX0_addNode 253 = .ok (.ior, 1)) rfl) ?_
  refine q_fa (ok_iastore (by decide +kernel : decode cX0_addNode 254 = .ok (.iastore, 1)) rfl) ?_
  refine q_fa (ok_aload_n (by decide +kernel : decode cX0_addNode 255 = .ok (.aload_n 0, 1)) rfl rfl) ?_
  refine q_fa (ok_get (by decide +kernel : decode cX0_addNode 256 = .ok (.getfield 19, 3)) rfl (rfl : vwCl[0]? = some (RX0, TX0, 9)) inX0 (by decide) g100) ?_
  refine q_fa (ok_iload_n (by decide +kernel : decode cX0_addNode 259 = .ok (.iload_n 2, 1)) rfl rfl) ?_
  refine q_fa (ok_aload_n (by decide +kernel : decode cX0_addNode 260 = .ok (.aload_n 0, 1)) rfl rfl) ?_
  refine q_fa (ok_get (by decide +kernel : decode cX0_addNode 261 = .ok (.getfield 19, 3)) rfl (rfl : vwCl[0]? = some (RX0, TX0, 9)) inX0 (by decide) g100) ?_
  refine q_fa (ok_iload (by decide +kernel : decode cX0_addNode 264 = .ok (.iload 4, 2)) rfl) ?_
  refine q_fa (ok_iaload (by decide +kernel : decode cX0_addNode 266 = .ok (.iaload, 1)) rfl) ?_
  refine q_fa (ok_aload_n (by decide +kernel : decode cX0_addNode 267 = .ok (.aload_n 0, 1)) rfl rfl) ?_
  refine q_fa (ok_get (by decide +kernel : decode cX0_addNode 268 = .ok (.getfield 19, 3)) rfl (rfl : vwCl[0]? = some (RX0, TX0, 9)) inX0 (by decide) g100) ?_
  refine q_fa (ok_iload (by decide +kernel : decode cX0_addNode 271 = .ok (.iload 5, 2)) rfl) ?_
  refine q_fa (ok_iaload (by decide +kernel : decode cX0_addNode 273 = .ok (.iaload, 1)) rfl) ?_
  refine q_fa (ok_ior (by decide +kernel : decode cX0_addNode 274 = .ok (.ior, 1)) rfl) ?_
  refine q_fa (ok_iastore (by decide +kernel : decode cX0_addNode 275 = .ok (.iastore, 1)) rfl) ?_
  refine q_fa (ok_goto (by decide +kernel : decode cX0_addNode 276 = .ok (.goto 82, 3)) (by decide)) ?_
  refine q_fa (ok_aload_n (by decide +kernel : decode cX0_addNode 279 = .ok (.aload_n 0, 1)) rfl rfl) ?_
  refine q_fa (ok_get (by decide +kernel : decode cX0_addNode 280 = .ok (.getfield 9, 3)) rfl (rfl : vwCl[0]? = some (RX0, TX0, 9)) inX0 (by decide) g98) ?_
  refine q_fa (ok_iload_n (by decide +kernel : decode cX0_addNode 283 = .ok (.iload_n 2, 1)) rfl rfl) ?_
  refine q_fa (ok_aload_n (by decide +kernel : decode cX0_addNode 284 = .ok (.aload_n 0, 1)) rfl rfl) ?_
  refine q_fa (ok_get (by decide +kernel : decode cX0_addNode 285 = .ok (.getfield 9, 3)) rfl (rfl : vwCl[0]? = some (RX0, TX0, 9)) inX0 (by decide) g98) ?_
  refine q_fa (ok_iload (by decide +kernel : decode cX0_addNode 288 = .ok (.iload 4, 2)) rfl) ?_
  refine q_fa (ok_zaload (by decide +kernel : decode cX0_addNode 290 = .ok (.baload, 1)) rfl) ?_
  refine q_fa (ok_if1ne (by decide +kernel : decode cX0_addNode 291 = .ok (.ifCond .ne 8, 3)) (by decide) rfl) ?_
  refine q_fa (ok_iload_n (by decide +kernel : decode cX0_addNode 294 = .ok (.iload_n 3, 1)) rfl rfl) ?_
  refine q_fa (ok_iconst (by decide +kernel : decode cX0_addNode 295 = .ok (.iconst 5, 1)) rfl (by decide +kernel)) ?_
  refine q_fa (ok_if2ne (by decide +kernel : decode cX0_addNode 296 = .ok (.if_icmp .ne 7, 3)) (by decide) rfl) ?_
  refine q_fa (ok_iconst (by decide +kernel : decode cX0_addNode 299 = .ok (.iconst 1, 1)) rfl (by decide +kernel)) ?_
  refine q_fa (ok_goto (by decide +kernel : decode cX0_addNode 300 = .ok (.goto 4, 3)) (by decide)) ?_
  refine q_fa (ok_iconst (by decide +kernel : decode cX0_addNode 303 = .ok (.iconst 0, 1)) rfl (by decide +kernel)) ?_
  refine q_fa (ok_zastore (by decide +kernel : decode cX0_addNode 304 = .ok (.bastore, 1)) rfl) ?_
  refine q_fa (ok_aload_n (by decide +kernel : decode cX0_addNode 305 = .ok (.aload_n 0, 1)) rfl rfl) ?_
  refine q_fa (ok_get (by decide +kernel : decode cX0_addNode 306 = .ok (.getfield 15, 3)) rfl (rfl : vwCl[0]? = some (RX0, TX0, 9)) inX0 (by decide) g99) ?_
  refine q_fa (ok_iload_n (by decide +kernel : decode cX0_addNode 309 = .ok (.iload_n 2, 1)) rfl rfl) ?_
  refine q_fa (ok_aload_n (by decide +kernel : decode cX0_addNode 310 = .ok (.aload_n 0, 1)) rfl rfl) ?_
  refine q_fa (ok_get (by decide +kernel : decode cX0_addNode 311 = .ok (.getfield 15, 3)) rfl (rfl : vwCl[0]? = some (RX0, TX0, 9)) inX0 (by decide) g99) ?_
  refine q_fa (ok_iload (by decide +kernel : decode cX0_addNode 314 = .ok (.iload 4, 2)) rfl) ?_
  refine q_fa (ok_iaload (by decide +kernel : decode cX0_addNode 316 = .ok (.iaload, 1)) rfl) ?_
  refine q_fa (ok_iastore (by decide +kernel : decode cX0_addNode 317 = .ok (.iastore, 1)) rfl) ?_
  refine q_fa (ok_aload_n (by decide +kernel : decode cX0_addNode 318 = .ok (.aload_n 0, 1)) rfl rfl) ?_
  refine q_fa (ok_get (by decide +kernel : decode cX0_addNode 319 = .ok (.getfield 19, 3)) rfl (rfl : vwCl[0]? = some (RX0, TX0, 9)) inX0 (by decide) g100) ?_
  refine q_fa (ok_iload_n (by decide +kernel : decode cX0_addNode 322 = .ok (.iload_n 2, 1)) rfl rfl) ?_
  refine q_fa (ok_aload_n (by decide +kernel : decode cX0_addNode 323 = .ok (.aload_n 0, 1)) rfl rfl) ?_
  refine q_fa (ok_get (by decide +kernel : decode cX0_addNode 324 = .ok (.getfield 19, 3)) rfl (rfl : vwCl[0]? = some (RX0, TX0, 9)) inX0 (by decide) g100) ?_
  refine q_fa (ok_iload (by decide +kernel : decode cX0_addNode 327 = .ok (.iload 4, 2)) rfl) ?_
  refine q_fa (ok_iaload (by decide +kernel : decode cX0_addNode 329 = .ok (.iaload, 1)) rfl) ?_
  refine q_fa (ok_iastore (by decide +kernel : decode cX0_addNode 330 = .ok (.iastore, 1)) rfl) ?_
  refine q_fa (ok_aload_n (by decide +kernel : decode cX0_addNode 331 = .ok (.aload_n 0, 1)) rfl rfl) ?_
  refine q_fa (ok_iload_n (by decide +kernel : decode cX0_addNode 332 = .ok (.iload_n 3, 1)) rfl rfl) ?_
  refine q_fa (ok_iconst (by decide +kernel : decode cX0_addNode 333 = .ok (.iconst 4, 1)) rfl (by decide +kernel)) ?_
  refine q_fa (ok_if2ne (by decide +kernel : decode cX0_addNode 334 = .ok (.if_icmp .ne 13, 3)) (by decide) rfl) ?_
  refine q_fa (ok_aload_n (by decide +kernel : decode cX0_addNode 337 = .ok (.aload_n 0, 1)) rfl rfl) ?_
  refine q_fa (ok_get (by decide +kernel : decode cX0_addNode 338 = .ok (.getfield 19, 3)) rfl (rfl : vwCl[0]? = some (RX0, TX0, 9)) inX0 (by decide) g100) ?_
  refine q_fa (ok_iload (by decide +kernel : decode cX0_addNode 341 = .ok (.iload 4, 2)) rfl) ?_
  refine q_fa (ok_iaload (by decide +kernel : decode cX0_addNode 343 = .ok (.iaload, 1)) rfl) ?_
  refine q_fa (ok_goto (by decide +kernel : decode cX0_addNode 344 = .ok (.goto 4, 3)) (by decide)) ?_
  refine q_fa (ok_iconst (by decide +kernel : decode cX0_addNode 347 = .ok (.iconst 0, 1)) rfl (by decide +kernel)) ?_
  refine q_fa (ok_aload_n (by decide +kernel : decode cX0_addNode 348 = .ok (.aload_n 0, 1)) rfl rfl) ?_
  refine q_fa (ok_get (by decide +kernel : decode cX0_addNode 349 = .ok (.getfield 15, 3)) rfl (rfl : vwCl[0]? = some (RX0, TX0, 9)) inX0 (by decide) g99) ?_
  refine q_fa (ok_iload (by decide +kernel : decode cX0_addNode 352 = .ok (.iload 4, 2)) rfl) ?_
  refine q_fa (ok_iaload (by decide +kernel : decode cX0_addNode 354 = .ok (.iaload, 1)) rfl) ?_
  refine q_fa (ok_callV (by decide +kernel : decode cX0_addNode 355 = .ok (.invokevirtual 89, 3)) rfl kX0_follow.1 kX0_follow.2.1 kX0_follow.2.2.1 kX0_follow.2.2.2.1 kX0_follow.2.2.2.2 (rfl : vwCl[0]? = some (RX0, TX0, 9)) g514 gs23 g512) ?_
  refine q_fa (ok_vret (by decide +kernel : decode cX0_addNode 358 = .ok (.return_, 1)) rfl) ?_
  exact q_fa0
theorem exX0_addNode : ∃ t : Nat → qP, t = uX0_addNode := ⟨_, rfl⟩
noncomputable def tX0_addNode : Nat → qP := Classical.choose exX0_addNode
theorem teX0_addNode : tX0_addNode = uX0_addNode := Classical.choose_spec exX0_addNode
theorem sX0_addNode : q_Snd mX0_addNode tX0_addNode := by rw [teX0_addNode]; exact suX0_addNode
theorem tX0_addNode_0 : tX0_addNode 0 = oAl 1 1 := (congrFun teX0_addNode 0).trans rfl
theorem tX0_addNode_1 : tX0_addNode 1 = oIl 2 2 := (congrFun teX0_addNode 1).trans rfl
theorem tX0_addNode_2 : tX0_addNode 2 = oCallV 4 mX4_kindOf 1 5 := (congrFun teX0_addNode 2).trans rfl
theorem tX0_addNode_5 : tX0_addNode 5 = oIs 3 6 := (congrFun teX0_addNode 5).trans rfl
theorem tX0_addNode_6 : tX0_addNode 6 = oAl 1 7 := (congrFun teX0_addNode 6).trans rfl
theorem tX0_addNode_7 : tX0_addNode 7 = oIl 2 8 := (congrFun teX0_addNode 7).trans rfl
theorem tX0_addNode_8 : tX0_addNode 8 = oCallV 4 mX4_leftOf 1 11 := (congrFun teX0_addNode 8).trans rfl
theorem tX0_addNode_11 : tX0_addNode 11 = oIs 4 13 := (congrFun teX0_addNode 11).trans rfl
theorem tX0_addNode_13 : tX0_addNode 13 = oAl 1 14 := (congrFun teX0_addNode 13).trans rfl
theorem tX0_addNode_14 : tX0_addNode 14 = oIl 2 15 := (congrFun teX0_addNode 14).trans rfl
theorem tX0_addNode_15 : tX0_addNode 15 = oCallV 4 mX4_rightOf 1 18 := (congrFun teX0_addNode 15).trans rfl
theorem tX0_addNode_18 : tX0_addNode 18 = oIs 5 20 := (congrFun teX0_addNode 18).trans rfl
theorem tX0_addNode_20 : tX0_addNode 20 = oIl 3 21 := (congrFun teX0_addNode 20).trans rfl
theorem tX0_addNode_21 : tX0_addNode 21 = oCallS mX11_isLeaf 1 24 := (congrFun teX0_addNode 21).trans rfl
theorem tX0_addNode_24 : tX0_addNode 24 = oIf1eq 48 27 := (congrFun teX0_addNode 24).trans rfl
theorem tX0_addNode_27 : tX0_addNode 27 = oAl 0 28 := (congrFun teX0_addNode 27).trans rfl
theorem tX0_addNode_28 : tX0_addNode 28 = oIl 2 29 := (congrFun teX0_addNode 28).trans rfl
theorem tX0_addNode_29 : tX0_addNode 29 = oIl 3 30 := (congrFun teX0_addNode 29).trans rfl
theorem tX0_addNode_30 : tX0_addNode 30 = oIf1ne 40 33 := (congrFun teX0_addNode 30).trans rfl
theorem tX0_addNode_33 : tX0_addNode 33 = oK (.int (nI 1)) 34 := (congrFun teX0_addNode 33).trans rfl
theorem tX0_addNode_34 : tX0_addNode 34 = oIl 4 36 := (congrFun teX0_addNode 34).trans rfl
theorem tX0_addNode_36 : tX0_addNode 36 = oShl 37 := (congrFun teX0_addNode 36).trans rfl
theorem tX0_addNode_37 : tX0_addNode 37 = oGo 42 := (congrFun teX0_addNode 37).trans rfl
theorem tX0_addNode_40 : tX0_addNode 40 = oIl 4 42 := (congrFun teX0_addNode 40).trans rfl
theorem tX0_addNode_42 : tX0_addNode 42 = oCallV 0 mX0_addLeaf 2 45 := (congrFun teX0_addNode 42).trans rfl
theorem tX0_addNode_45 : tX0_addNode 45 = oGo 358 := (congrFun teX0_addNode 45).trans rfl
theorem tX0_addNode_48 : tX0_addNode 48 = oIl 4 50 := (congrFun teX0_addNode 48).trans rfl
theorem tX0_addNode_50 : tX0_addNode 50 = oIf1lt 70 53 := (congrFun teX0_addNode 50).trans rfl
theorem tX0_addNode_53 : tX0_addNode 53 = oIl 4 55 := (congrFun teX0_addNode 53).trans rfl
theorem tX0_addNode_55 : tX0_addNode 55 = oIl 2 56 := (congrFun teX0_addNode 55).trans rfl
theorem tX0_addNode_56 : tX0_addNode 56 = oIf2ge 70 59 := (congrFun teX0_addNode 56).trans rfl
theorem tX0_addNode_59 : tX0_addNode 59 = oIl 5 61 := (congrFun teX0_addNode 59).trans rfl
theorem tX0_addNode_61 : tX0_addNode 61 = oIf1lt 70 64 := (congrFun teX0_addNode 61).trans rfl
theorem tX0_addNode_64 : tX0_addNode 64 = oIl 5 66 := (congrFun teX0_addNode 64).trans rfl
theorem tX0_addNode_66 : tX0_addNode 66 = oIl 2 67 := (congrFun teX0_addNode 66).trans rfl
theorem tX0_addNode_67 : tX0_addNode 67 = oIf2lt 71 70 := (congrFun teX0_addNode 67).trans rfl
theorem tX0_addNode_70 : tX0_addNode 70 = oVret := (congrFun teX0_addNode 70).trans rfl
theorem tX0_addNode_71 : tX0_addNode 71 = oIl 3 72 := (congrFun teX0_addNode 71).trans rfl
theorem tX0_addNode_72 : tX0_addNode 72 = oK (.int (nI 2)) 73 := (congrFun teX0_addNode 72).trans rfl
theorem tX0_addNode_73 : tX0_addNode 73 = oIf2ne 198 76 := (congrFun teX0_addNode 73).trans rfl
theorem tX0_addNode_76 : tX0_addNode 76 = oAl 0 77 := (congrFun teX0_addNode 76).trans rfl
theorem tX0_addNode_77 : tX0_addNode 77 = oGet 0 0 80 := (congrFun teX0_addNode 77).trans rfl
theorem tX0_addNode_80 : tX0_addNode 80 = oIl 2 81 := (congrFun teX0_addNode 80).trans rfl
theorem tX0_addNode_81 : tX0_addNode 81 = oAl 0 82 := (congrFun teX0_addNode 81).trans rfl
theorem tX0_addNode_82 : tX0_addNode 82 = oGet 0 0 85 := (congrFun teX0_addNode 82).trans rfl
theorem tX0_addNode_85 : tX0_addNode 85 = oIl 4 87 := (congrFun teX0_addNode 85).trans rfl
theorem tX0_addNode_87 : tX0_addNode 87 = oZald 88 := (congrFun teX0_addNode 87).trans rfl
theorem tX0_addNode_88 : tX0_addNode 88 = oIf1eq 105 91 := (congrFun teX0_addNode 88).trans rfl
theorem tX0_addNode_91 : tX0_addNode 91 = oAl 0 92 := (congrFun teX0_addNode 91).trans rfl
theorem tX0_addNode_92 : tX0_addNode 92 = oGet 0 0 95 := (congrFun teX0_addNode 92).trans rfl
theorem tX0_addNode_95 : tX0_addNode 95 = oIl 5 97 := (congrFun teX0_addNode 95).trans rfl
theorem tX0_addNode_97 : tX0_addNode 97 = oZald 98 := (congrFun teX0_addNode 97).trans rfl
theorem tX0_addNode_98 : tX0_addNode 98 = oIf1eq 105 101 := (congrFun teX0_addNode 98).trans rfl
theorem tX0_addNode_101 : tX0_addNode 101 = oK (.int (nI 1)) 102 := (congrFun teX0_addNode 101).trans rfl
theorem tX0_addNode_102 : tX0_addNode 102 = oGo 106 := (congrFun teX0_addNode 102).trans rfl
theorem tX0_addNode_105 : tX0_addNode 105 = oK (.int (nI 0)) 106 := (congrFun teX0_addNode 105).trans rfl
theorem tX0_addNode_106 : tX0_addNode 106 = oZast 107 := (congrFun teX0_addNode 106).trans rfl
theorem tX0_addNode_107 : tX0_addNode 107 = oAl 0 108 := (congrFun teX0_addNode 107).trans rfl
theorem tX0_addNode_108 : tX0_addNode 108 = oGet 0 1 111 := (congrFun teX0_addNode 108).trans rfl
theorem tX0_addNode_111 : tX0_addNode 111 = oIl 2 112 := (congrFun teX0_addNode 111).trans rfl
theorem tX0_addNode_112 : tX0_addNode 112 = oAl 0 113 := (congrFun teX0_addNode 112).trans rfl
theorem tX0_addNode_113 : tX0_addNode 113 = oGet 0 1 116 := (congrFun teX0_addNode 113).trans rfl
theorem tX0_addNode_116 : tX0_addNode 116 = oIl 4 118 := (congrFun teX0_addNode 116).trans rfl
theorem tX0_addNode_118 : tX0_addNode 118 = oIald 119 := (congrFun teX0_addNode 118).trans rfl
theorem tX0_addNode_119 : tX0_addNode 119 = oAl 0 120 := (congrFun teX0_addNode 119).trans rfl
theorem tX0_addNode_120 : tX0_addNode 120 = oGet 0 0 123 := (congrFun teX0_addNode 120).trans rfl
theorem tX0_addNode_123 : tX0_addNode 123 = oIl 4 125 := (congrFun teX0_addNode 123).trans rfl
theorem tX0_addNode_125 : tX0_addNode 125 = oZald 126 := (congrFun teX0_addNode 125).trans rfl
theorem tX0_addNode_126 : tX0_addNode 126 = oIf1eq 139 129 := (congrFun teX0_addNode 126).trans rfl
theorem tX0_addNode_129 : tX0_addNode 129 = oAl 0 130 := (congrFun teX0_addNode 129).trans rfl
theorem tX0_addNode_130 : tX0_addNode 130 = oGet 0 1 133 := (congrFun teX0_addNode 130).trans rfl
theorem tX0_addNode_133 : tX0_addNode 133 = oIl 5 135 := (congrFun teX0_addNode 133).trans rfl
theorem tX0_addNode_135 : tX0_addNode 135 = oIald 136 := (congrFun teX0_addNode 135).trans rfl
theorem tX0_addNode_136 : tX0_addNode 136 = oGo 140 := (congrFun teX0_addNode 136).trans rfl
theorem tX0_addNode_139 : tX0_addNode 139 = oK (.int (nI 0)) 140 := (congrFun teX0_addNode 139).trans rfl
theorem tX0_addNode_140 : tX0_addNode 140 = oOr 141 := (congrFun teX0_addNode 140).trans rfl
theorem tX0_addNode_141 : tX0_addNode 141 = oIast 142 := (congrFun teX0_addNode 141).trans rfl
theorem tX0_addNode_142 : tX0_addNode 142 = oAl 0 143 := (congrFun teX0_addNode 142).trans rfl
theorem tX0_addNode_143 : tX0_addNode 143 = oGet 0 2 146 := (congrFun teX0_addNode 143).trans rfl
theorem tX0_addNode_146 : tX0_addNode 146 = oIl 2 147 := (congrFun teX0_addNode 146).trans rfl
theorem tX0_addNode_147 : tX0_addNode 147 = oAl 0 148 := (congrFun teX0_addNode 147).trans rfl
theorem tX0_addNode_148 : tX0_addNode 148 = oGet 0 2 151 := (congrFun teX0_addNode 148).trans rfl
theorem tX0_addNode_151 : tX0_addNode 151 = oIl 5 153 := (congrFun teX0_addNode 151).trans rfl
theorem tX0_addNode_153 : tX0_addNode 153 = oIald 154 := (congrFun teX0_addNode 153).trans rfl
theorem tX0_addNode_154 : tX0_addNode 154 = oAl 0 155 := (congrFun teX0_addNode 154).trans rfl
theorem tX0_addNode_155 : tX0_addNode 155 = oGet 0 0 158 := (congrFun teX0_addNode 155).trans rfl
theorem tX0_addNode_158 : tX0_addNode 158 = oIl 5 160 := (congrFun teX0_addNode 158).trans rfl
theorem tX0_addNode_160 : tX0_addNode 160 = oZald 161 := (congrFun teX0_addNode 160).trans rfl
theorem tX0_addNode_161 : tX0_addNode 161 = oIf1eq 174 164 := (congrFun teX0_addNode 161).trans rfl
theorem tX0_addNode_164 : tX0_addNode 164 = oAl 0 165 := (congrFun teX0_addNode 164).trans rfl
theorem tX0_addNode_165 : tX0_addNode 165 = oGet 0 2 168 := (congrFun teX0_addNode 165).trans rfl
theorem tX0_addNode_168 : tX0_addNode 168 = oIl 4 170 := (congrFun teX0_addNode 168).trans rfl
theorem tX0_addNode_170 : tX0_addNode 170 = oIald 171 := (congrFun teX0_addNode 170).trans rfl
theorem tX0_addNode_171 : tX0_addNode 171 = oGo 175 := (congrFun teX0_addNode 171).trans rfl
theorem tX0_addNode_174 : tX0_addNode 174 = oK (.int (nI 0)) 175 := (congrFun teX0_addNode 174).trans rfl
theorem tX0_addNode_175 : tX0_addNode 175 = oOr 176 := (congrFun teX0_addNode 175).trans rfl
theorem tX0_addNode_176 : tX0_addNode 176 = oIast 177 := (congrFun teX0_addNode 176).trans rfl
theorem tX0_addNode_177 : tX0_addNode 177 = oAl 0 178 := (congrFun teX0_addNode 177).trans rfl
theorem tX0_addNode_178 : tX0_addNode 178 = oAl 0 179 := (congrFun teX0_addNode 178).trans rfl
theorem tX0_addNode_179 : tX0_addNode 179 = oGet 0 2 182 := (congrFun teX0_addNode 179).trans rfl
theorem tX0_addNode_182 : tX0_addNode 182 = oIl 4 184 := (congrFun teX0_addNode 182).trans rfl
theorem tX0_addNode_184 : tX0_addNode 184 = oIald 185 := (congrFun teX0_addNode 184).trans rfl
theorem tX0_addNode_185 : tX0_addNode 185 = oAl 0 186 := (congrFun teX0_addNode 185).trans rfl
theorem tX0_addNode_186 : tX0_addNode 186 = oGet 0 1 189 := (congrFun teX0_addNode 186).trans rfl
theorem tX0_addNode_189 : tX0_addNode 189 = oIl 5 191 := (congrFun teX0_addNode 189).trans rfl
theorem tX0_addNode_191 : tX0_addNode 191 = oIald 192 := (congrFun teX0_addNode 191).trans rfl
theorem tX0_addNode_192 : tX0_addNode 192 = oCallV 0 mX0_follow 2 195 := (congrFun teX0_addNode 192).trans rfl
theorem tX0_addNode_195 : tX0_addNode 195 = oGo 358 := (congrFun teX0_addNode 195).trans rfl
theorem tX0_addNode_198 : tX0_addNode 198 = oIl 3 199 := (congrFun teX0_addNode 198).trans rfl
theorem tX0_addNode_199 : tX0_addNode 199 = oK (.int (nI 3)) 200 := (congrFun teX0_addNode 199).trans rfl
theorem tX0_addNode_200 : tX0_addNode 200 = oIf2ne 279 203 := (congrFun teX0_addNode 200).trans rfl
theorem tX0_addNode_203 : tX0_addNode 203 = oAl 0 204 := (congrFun teX0_addNode 203).trans rfl
theorem tX0_addNode_204 : tX0_addNode 204 = oGet 0 0 207 := (congrFun teX0_addNode 204).trans rfl
theorem tX0_addNode_207 : tX0_addNode 207 = oIl 2 208 := (congrFun teX0_addNode 207).trans rfl
theorem tX0_addNode_208 : tX0_addNode 208 = oAl 0 209 := (congrFun teX0_addNode 208).trans rfl
theorem tX0_addNode_209 : tX0_addNode 209 = oGet 0 0 212 := (congrFun teX0_addNode 209).trans rfl
theorem tX0_addNode_212 : tX0_addNode 212 = oIl 4 214 := (congrFun teX0_addNode 212).trans rfl
theorem tX0_addNode_214 : tX0_addNode 214 = oZald 215 := (congrFun teX0_addNode 214).trans rfl
theorem tX0_addNode_215 : tX0_addNode 215 = oIf1ne 228 218 := (congrFun teX0_addNode 215).trans rfl
theorem tX0_addNode_218 : tX0_addNode 218 = oAl 0 219 := (congrFun teX0_addNode 218).trans rfl
theorem tX0_addNode_219 : tX0_addNode 219 = oGet 0 0 222 := (congrFun teX0_addNode 219).trans rfl
theorem tX0_addNode_222 : tX0_addNode 222 = oIl 5 224 := (congrFun teX0_addNode 222).trans rfl
theorem tX0_addNode_224 : tX0_addNode 224 = oZald 225 := (congrFun teX0_addNode 224).trans rfl
theorem tX0_addNode_225 : tX0_addNode 225 = oIf1eq 232 228 := (congrFun teX0_addNode 225).trans rfl
theorem tX0_addNode_228 : tX0_addNode 228 = oK (.int (nI 1)) 229 := (congrFun teX0_addNode 228).trans rfl
theorem tX0_addNode_229 : tX0_addNode 229 = oGo 233 := (congrFun teX0_addNode 229).trans rfl
theorem tX0_addNode_232 : tX0_addNode 232 = oK (.int (nI 0)) 233 := (congrFun teX0_addNode 232).trans rfl
theorem tX0_addNode_233 : tX0_addNode 233 = oZast 234 := (congrFun teX0_addNode 233).trans rfl
theorem tX0_addNode_234 : tX0_addNode 234 = oAl 0 235 := (congrFun teX0_addNode 234).trans rfl
theorem tX0_addNode_235 : tX0_addNode 235 = oGet 0 1 238 := (congrFun teX0_addNode 235).trans rfl
theorem tX0_addNode_238 : tX0_addNode 238 = oIl 2 239 := (congrFun teX0_addNode 238).trans rfl
theorem tX0_addNode_239 : tX0_addNode 239 = oAl 0 240 := (congrFun teX0_addNode 239).trans rfl
theorem tX0_addNode_240 : tX0_addNode 240 = oGet 0 1 243 := (congrFun teX0_addNode 240).trans rfl
theorem tX0_addNode_243 : tX0_addNode 243 = oIl 4 245 := (congrFun teX0_addNode 243).trans rfl
theorem tX0_addNode_245 : tX0_addNode 245 = oIald 246 := (congrFun teX0_addNode 245).trans rfl
theorem tX0_addNode_246 : tX0_addNode 246 = oAl 0 247 := (congrFun teX0_addNode 246).trans rfl
theorem tX0_addNode_247 : tX0_addNode 247 = oGet 0 1 250 := (congrFun teX0_addNode 247).trans rfl
theorem tX0_addNode_250 : tX0_addNode 250 = oIl 5 252 := (congrFun teX0_addNode 250).trans rfl
theorem tX0_addNode_252 : tX0_addNode 252 = oIald 253 := (congrFun teX0_addNode 252).trans rfl
theorem tX0_addNode_253 : tX0_addNode 253 = oOr 254 := (congrFun teX0_addNode 253).trans rfl
theorem tX0_addNode_254 : tX0_addNode 254 = oIast 255 := (congrFun teX0_addNode 254).trans rfl
theorem tX0_addNode_255 : tX0_addNode 255 = oAl 0 256 := (congrFun teX0_addNode 255).trans rfl
theorem tX0_addNode_256 : tX0_addNode 256 = oGet 0 2 259 := (congrFun teX0_addNode 256).trans rfl
theorem tX0_addNode_259 : tX0_addNode 259 = oIl 2 260 := (congrFun teX0_addNode 259).trans rfl
theorem tX0_addNode_260 : tX0_addNode 260 = oAl 0 261 := (congrFun teX0_addNode 260).trans rfl
theorem tX0_addNode_261 : tX0_addNode 261 = oGet 0 2 264 := (congrFun teX0_addNode 261).trans rfl
theorem tX0_addNode_264 : tX0_addNode 264 = oIl 4 266 := (congrFun teX0_addNode 264).trans rfl
theorem tX0_addNode_266 : tX0_addNode 266 = oIald 267 := (congrFun teX0_addNode 266).trans rfl
theorem tX0_addNode_267 : tX0_addNode 267 = oAl 0 268 := (congrFun teX0_addNode 267).trans rfl
theorem tX0_addNode_268 : tX0_addNode 268 = oGet 0 2 271 := (congrFun teX0_addNode 268).trans rfl
theorem tX0_addNode_271 : tX0_addNode 271 = oIl 5 273 := (congrFun teX0_addNode 271).trans rfl
theorem tX0_addNode_273 : tX0_addNode 273 = oIald 274 := (congrFun teX0_addNode 273).trans rfl
theorem tX0_addNode_274 : tX0_addNode 274 = oOr 275 := (congrFun teX0_addNode 274).trans rfl
theorem tX0_addNode_275 : tX0_addNode 275 = oIast 276 := (congrFun teX0_addNode 275).trans rfl
theorem tX0_addNode_276 : tX0_addNode 276 = oGo 358 := (congrFun teX0_addNode 276).trans rfl
theorem tX0_addNode_279 : tX0_addNode 279 = oAl 0 280 := (congrFun teX0_addNode 279).trans rfl
theorem tX0_addNode_280 : tX0_addNode 280 = oGet 0 0 283 := (congrFun teX0_addNode 280).trans rfl
theorem tX0_addNode_283 : tX0_addNode 283 = oIl 2 284 := (congrFun teX0_addNode 283).trans rfl
theorem tX0_addNode_284 : tX0_addNode 284 = oAl 0 285 := (congrFun teX0_addNode 284).trans rfl
theorem tX0_addNode_285 : tX0_addNode 285 = oGet 0 0 288 := (congrFun teX0_addNode 285).trans rfl
theorem tX0_addNode_288 : tX0_addNode 288 = oIl 4 290 := (congrFun teX0_addNode 288).trans rfl
theorem tX0_addNode_290 : tX0_addNode 290 = oZald 291 := (congrFun teX0_addNode 290).trans rfl
theorem tX0_addNode_291 : tX0_addNode 291 = oIf1ne 299 294 := (congrFun teX0_addNode 291).trans rfl
theorem tX0_addNode_294 : tX0_addNode 294 = oIl 3 295 := (congrFun teX0_addNode 294).trans rfl
theorem tX0_addNode_295 : tX0_addNode 295 = oK (.int (nI 5)) 296 := (congrFun teX0_addNode 295).trans rfl
theorem tX0_addNode_296 : tX0_addNode 296 = oIf2ne 303 299 := (congrFun teX0_addNode 296).trans rfl
theorem tX0_addNode_299 : tX0_addNode 299 = oK (.int (nI 1)) 300 := (congrFun teX0_addNode 299).trans rfl
theorem tX0_addNode_300 : tX0_addNode 300 = oGo 304 := (congrFun teX0_addNode 300).trans rfl
theorem tX0_addNode_303 : tX0_addNode 303 = oK (.int (nI 0)) 304 := (congrFun teX0_addNode 303).trans rfl
theorem tX0_addNode_304 : tX0_addNode 304 = oZast 305 := (congrFun teX0_addNode 304).trans rfl
theorem tX0_addNode_305 : tX0_addNode 305 = oAl 0 306 := (congrFun teX0_addNode 305).trans rfl
theorem tX0_addNode_306 : tX0_addNode 306 = oGet 0 1 309 := (congrFun teX0_addNode 306).trans rfl
theorem tX0_addNode_309 : tX0_addNode 309 = oIl 2 310 := (congrFun teX0_addNode 309).trans rfl
theorem tX0_addNode_310 : tX0_addNode 310 = oAl 0 311 := (congrFun teX0_addNode 310).trans rfl
theorem tX0_addNode_311 : tX0_addNode 311 = oGet 0 1 314 := (congrFun teX0_addNode 311).trans rfl
theorem tX0_addNode_314 : tX0_addNode 314 = oIl 4 316 := (congrFun teX0_addNode 314).trans rfl
theorem tX0_addNode_316 : tX0_addNode 316 = oIald 317 := (congrFun teX0_addNode 316).trans rfl
theorem tX0_addNode_317 : tX0_addNode 317 = oIast 318 := (congrFun teX0_addNode 317).trans rfl
theorem tX0_addNode_318 : tX0_addNode 318 = oAl 0 319 := (congrFun teX0_addNode 318).trans rfl
theorem tX0_addNode_319 : tX0_addNode 319 = oGet 0 2 322 := (congrFun teX0_addNode 319).trans rfl
theorem tX0_addNode_322 : tX0_addNode 322 = oIl 2 323 := (congrFun teX0_addNode 322).trans rfl
theorem tX0_addNode_323 : tX0_addNode 323 = oAl 0 324 := (congrFun teX0_addNode 323).trans rfl
theorem tX0_addNode_324 : tX0_addNode 324 = oGet 0 2 327 := (congrFun teX0_addNode 324).trans rfl
theorem tX0_addNode_327 : tX0_addNode 327 = oIl 4 329 := (congrFun teX0_addNode 327).trans rfl
theorem tX0_addNode_329 : tX0_addNode 329 = oIald 330 := (congrFun teX0_addNode 329).trans rfl
theorem tX0_addNode_330 : tX0_addNode 330 = oIast 331 := (congrFun teX0_addNode 330).trans rfl
theorem tX0_addNode_331 : tX0_addNode 331 = oAl 0 332 := (congrFun teX0_addNode 331).trans rfl
theorem tX0_addNode_332 : tX0_addNode 332 = oIl 3 333 := (congrFun teX0_addNode 332).trans rfl
theorem tX0_addNode_333 : tX0_addNode 333 = oK (.int (nI 4)) 334 := (congrFun teX0_addNode 333).trans rfl
theorem tX0_addNode_334 : tX0_addNode 334 = oIf2ne 347 337 := (congrFun teX0_addNode 334).trans rfl
theorem tX0_addNode_337 : tX0_addNode 337 = oAl 0 338 := (congrFun teX0_addNode 337).trans rfl
theorem tX0_addNode_338 : tX0_addNode 338 = oGet 0 2 341 := (congrFun teX0_addNode 338).trans rfl
theorem tX0_addNode_341 : tX0_addNode 341 = oIl 4 343 := (congrFun teX0_addNode 341).trans rfl
theorem tX0_addNode_343 : tX0_addNode 343 = oIald 344 := (congrFun teX0_addNode 343).trans rfl
theorem tX0_addNode_344 : tX0_addNode 344 = oGo 348 := (congrFun teX0_addNode 344).trans rfl
theorem tX0_addNode_347 : tX0_addNode 347 = oK (.int (nI 0)) 348 := (congrFun teX0_addNode 347).trans rfl
theorem tX0_addNode_348 : tX0_addNode 348 = oAl 0 349 := (congrFun teX0_addNode 348).trans rfl
theorem tX0_addNode_349 : tX0_addNode 349 = oGet 0 1 352 := (congrFun teX0_addNode 349).trans rfl
set_option maxRecDepth 20000 in
theorem tX0_addNode_352 : tX0_addNode 352 = oIl 4 354 := (congrFun teX0_addNode 352).trans rfl
set_option maxRecDepth 20000 in
theorem tX0_addNode_354 : tX0_addNode 354 = oIald 355 := (congrFun teX0_addNode 354).trans rfl
set_option maxRecDepth 20000 in
theorem tX0_addNode_355 : tX0_addNode 355 = oCallV 0 mX0_follow 2 358 := (congrFun teX0_addNode 355).trans rfl
set_option maxRecDepth 20000 in
theorem tX0_addNode_358 : tX0_addNode 358 = oVret := (congrFun teX0_addNode 358).trans rfl
def lX0_addLeaf : List (Nat × qP) := [(0, oIl 1 1), (1, oIf1lt 19 4), (4, oIl 1 5), (5, oK (.int (nI 12)) 7), (7, oIf2ge 19 10), (10, oAl 0 11), (11, oGet 0 6 14), (14, oK (.int (nI 6)) 16), (16, oIf2lt 20 19), (19, oVret), (20, oK (.int (nI 0)) 21), (21, oIs 3 22), (22, oIl 3 23), (23, oK (.int (nI 3)) 24), (24, oIf2ge 57 27), (27, oIl 2 28), (28, oIl 3 29), (29, oShr 30), (30, oK (.int (nI 1)) 31), (31, oAnd 32), (32, oK (.int (nI 1)) 33), (33, oIf2ne 51 36), (36, oAl 0 37), (37, oGet 0 4 40), (40, oIl 3 41), (41, oDup2 42), (42, oIald 43), (43, oK (.int (nI 1)) 44), (44, oAl 0 45), (45, oGet 0 6 48), (48, oShl 49), (49, oOr 50), (50, oIast 51), (51, oInc 3 (nI 1) 54), (54, oGo 22), (57, oAl 0 58), (58, oGet 0 0 61), (61, oIl 1 62), (62, oK (.int (nI 0)) 63), (63, oZast 64), (64, oAl 0 65), (65, oGet 0 1 68), (68, oIl 1 69), (69, oK (.int (nI 1)) 70), (70, oAl 0 71), (71, oGet 0 6 74), (74, oShl 75), (75, oIast 76), (76, oAl 0 77), (77, oGet 0 2 80), (80, oIl 1 81), (81, oK (.int (nI 1)) 82), (82, oAl 0 83), (83, oGet 0 6 86), (86, oShl 87), (87, oIast 88), (88, oAl 0 89), (89, oDup 90), (90, oGet 0 6 93), (93, oK (.int (nI 1)) 94), (94, oAdd 95), (95, oPutI 0 6 98), (98, oVret)]
def uX0_addLeaf : Nat → qP := q_tb lX0_addLeaf
set_option maxRecDepth 20000 in
theorem suX0_addLeaf : q_Snd mX0_addLeaf uX0_addLeaf := by
  refine q_tb_ok ?_
  unfold lX0_addLeaf
  refine q_fa (ok_iload_n (by decide +kernel : decode cX0_addLeaf 0 = .ok (.iload_n 1, 1)) rfl rfl) ?_
  refine q_fa (ok_if1lt (by decide +kernel : decode cX0_addLeaf 1 = .ok (.ifCond .lt 18, 3)) (by decide) rfl) ?_
  refine q_fa (ok_iload_n (by decide +kernel : decode cX0_addLeaf 4 = .ok (.iload_n 1, 1)) rfl rfl) ?_
  refine q_fa (ok_bipush (by decide +kernel : decode cX0_addLeaf 5 = .ok (.bipush 12, 2)) rfl (by decide +kernel)) ?_
  refine q_fa (ok_if2ge (by decide +kernel : decode cX0_addLeaf 7 = .ok (.if_icmp .ge 12, 3)) (by decide) rfl) ?_
  refine q_fa (ok_aload_n (by decide +kernel : decode cX0_addLeaf 10 = .ok (.aload_n 0, 1)) rfl rfl) ?_
  refine q_fa (ok_get (by decide +kernel : decode cX0_addLeaf 11 = .ok (.getfield 31, 3)) rfl (rfl : vwCl[0]? = some (RX0, TX0, 9)) inX0 (by decide) g104) ?_
  refine q_fa (ok_bipush (by decide +kernel : decode cX0_addLeaf 14 = .ok (.bipush 6, 2)) rfl (by decide +kernel)) ?_
  refine q_fa (ok_if2lt (by decide +kernel : decode cX0_addLeaf 16 = .ok (.if_icmp .lt 4, 3)) (by decide) rfl) ?_
  refine q_fa (ok_vret (by decide +kernel : decode cX0_addLeaf 19 = .ok (.return_, 1)) rfl) ?_
  refine q_fa (ok_iconst (by decide +kernel : decode cX0_addLeaf 20 = .ok (.iconst 0, 1)) rfl (by decide +kernel)) ?_
  refine q_fa (ok_istore_n (by decide +kernel : decode cX0_addLeaf 21 = .ok (.istore_n 3, 1)) rfl rfl (by decide)) ?_
  refine q_fa (ok_iload_n (by decide +kernel : decode cX0_addLeaf 22 = .ok (.iload_n 3, 1)) rfl rfl) ?_
  refine q_fa (ok_iconst (by decide +kernel : decode cX0_addLeaf 23 = .ok (.iconst 3, 1)) rfl (by decide +kernel)) ?_
  refine q_fa (ok_if2ge (by decide +kernel : decode cX0_addLeaf 24 = .ok (.if_icmp .ge 33, 3)) (by decide) rfl) ?_
  refine q_fa (ok_iload_n (by decide +kernel : decode cX0_addLeaf 27 = .ok (.iload_n 2, 1)) rfl rfl) ?_
  refine q_fa (ok_iload_n (by decide +kernel : decode cX0_addLeaf 28 = .ok (.iload_n 3, 1)) rfl rfl) ?_
  refine q_fa (ok_ishr (by decide +kernel : decode cX0_addLeaf 29 = .ok (.ishr, 1)) rfl) ?_
  refine q_fa (ok_iconst (by decide +kernel : decode cX0_addLeaf 30 = .ok (.iconst 1, 1)) rfl (by decide +kernel)) ?_
  refine q_fa (ok_iand (by decide +kernel : decode cX0_addLeaf 31 = .ok (.iand, 1)) rfl) ?_
  refine q_fa (ok_iconst (by decide +kernel : decode cX0_addLeaf 32 = .ok (.iconst 1, 1)) rfl (by decide +kernel)) ?_
  refine q_fa (ok_if2ne (by decide +kernel : decode cX0_addLeaf 33 = .ok (.if_icmp .ne 18, 3)) (by decide) rfl) ?_
  refine q_fa (ok_aload_n (by decide +kernel : decode cX0_addLeaf 36 = .ok (.aload_n 0, 1)) rfl rfl) ?_
  refine q_fa (ok_get (by decide +kernel : decode cX0_addLeaf 37 = .ok (.getfield 25, 3)) rfl (rfl : vwCl[0]? = some (RX0, TX0, 9)) inX0 (by decide) g102) ?_
  refine q_fa (ok_iload_n (by decide +kernel : decode cX0_addLeaf 40 = .ok (.iload_n 3, 1)) rfl rfl) ?_
  refine q_fa (ok_dup2 (by decide +kernel : decode cX0_addLeaf 41 = .ok (.dup2, 1)) rfl) ?_
  refine q_fa (ok_iaload (by decide +kernel : decode cX0_addLeaf 42 = .ok (.iaload, 1)) rfl) ?_
  refine q_fa (ok_iconst (by decide +kernel : decode cX0_addLeaf 43 = .ok (.iconst 1, 1)) rfl (by decide +kernel)) ?_
  refine q_fa (ok_aload_n (by decide +kernel : decode cX0_addLeaf 44 = .ok (.aload_n 0, 1)) rfl rfl) ?_
  refine q_fa (ok_get (by decide +kernel : decode cX0_addLeaf 45 = .ok (.getfield 31, 3)) rfl (rfl : vwCl[0]? = some (RX0, TX0, 9)) inX0 (by decide) g104) ?_
  refine q_fa (ok_ishl (by decide +kernel : decode cX0_addLeaf 48 = .ok (.ishl, 1)) rfl) ?_
  refine q_fa (ok_ior (by decide +kernel : decode cX0_addLeaf 49 = .ok (.ior, 1)) rfl) ?_
  refine q_fa (ok_iastore (by decide +kernel : decode cX0_addLeaf 50 = .ok (.iastore, 1)) rfl) ?_
  refine q_fa (ok_iinc (by decide +kernel : decode cX0_addLeaf 51 = .ok (.iinc 3 1, 3)) rfl (by decide +kernel) (by decide)) ?_
  refine q_fa (ok_goto (by decide +kernel : decode cX0_addLeaf 54 = .ok (.goto (-32), 3)) (by decide)) ?_
  refine q_fa (ok_aload_n (by decide +kernel : decode cX0_addLeaf 57 = .ok (.aload_n 0, 1)) rfl rfl) ?_
  refine q_fa (ok_get (by decide +kernel : decode cX0_addLeaf 58 = .ok (.getfield 9, 3)) rfl (rfl : vwCl[0]? = some (RX0, TX0, 9)) inX0 (by decide) g98) ?_
  refine q_fa (ok_iload_n (by decide +kernel : decode cX0_addLeaf 61 = .ok (.iload_n 1, 1)) rfl rfl) ?_
  refine q_fa (ok_iconst (by decide +kernel : decode cX0_addLeaf 62 = .ok (.iconst 0, 1)) rfl (by decide +kernel)) ?_
  refine q_fa (ok_zastore (by decide +kernel : decode cX0_addLeaf 63 = .ok (.bastore, 1)) rfl) ?_
  refine q_fa (ok_aload_n (by decide +kernel : decode cX0_addLeaf 64 = .ok (.aload_n 0, 1)) rfl rfl) ?_
  refine q_fa (ok_get (by decide +kernel : decode cX0_addLeaf 65 = .ok (.getfield 15, 3)) rfl (rfl : vwCl[0]? = some (RX0, TX0, 9)) inX0 (by decide) g99) ?_
  refine q_fa (ok_iload_n (by decide +kernel : decode cX0_addLeaf 68 = .ok (.iload_n 1, 1)) rfl rfl) ?_
  refine q_fa (ok_iconst (by decide +kernel : decode cX0_addLeaf 69 = .ok (.iconst 1, 1)) rfl (by decide +kernel)) ?_
  refine q_fa (ok_aload_n (by decide +kernel : decode cX0_addLeaf 70 = .ok (.aload_n 0, 1)) rfl rfl) ?_
  refine q_fa (ok_get (by decide +kernel : decode cX0_addLeaf 71 = .ok (.getfield 31, 3)) rfl (rfl : vwCl[0]? = some (RX0, TX0, 9)) inX0 (by decide) g104) ?_
  refine q_fa (ok_ishl (by decide +kernel : decode cX0_addLeaf 74 = .ok (.ishl, 1)) rfl) ?_
  refine q_fa (ok_iastore (by decide +kernel : decode cX0_addLeaf 75 = .ok (.iastore, 1)) rfl) ?_
  refine q_fa (ok_aload_n (by decide +kernel : decode cX0_addLeaf 76 = .ok (.aload_n 0, 1)) rfl rfl) ?_
  refine q_fa (ok_get (by decide +kernel : decode cX0_addLeaf 77 = .ok (.getfield 19, 3)) rfl (rfl : vwCl[0]? = some (RX0, TX0, 9)) inX0 (by decide) g100) ?_
  refine q_fa (ok_iload_n (by decide +kernel : decode cX0_addLeaf 80 = .ok (.iload_n 1, 1)) rfl rfl) ?_
  refine q_fa (ok_iconst (by decide +kernel : decode cX0_addLeaf 81 = .ok (.iconst 1, 1)) rfl (by decide +kernel)) ?_
  refine q_fa (ok_aload_n (by decide +kernel : decode cX0_addLeaf 82 = .ok (.aload_n 0, 1)) rfl rfl) ?_
  refine q_fa (ok_get (by decide +kernel : decode cX0_addLeaf 83 = .ok (.getfield 31, 3)) rfl (rfl : vwCl[0]? = some (RX0, TX0, 9)) inX0 (by decide) g104) ?_
  refine q_fa (ok_ishl (by decide +kernel : decode cX0_addLeaf 86 = .ok (.ishl, 1)) rfl) ?_
  refine q_fa (ok_iastore (by decide +kernel : decode cX0_addLeaf 87 = .ok (.iastore, 1)) rfl) ?_
  refine q_fa (ok_aload_n (by decide +kernel : decode cX0_addLeaf 88 = .ok (.aload_n 0, 1)) rfl rfl) ?_
  refine q_fa (ok_dup (by decide +kernel : decode cX0_addLeaf 89 = .ok (.dup, 1)) rfl) ?_
  refine q_fa (ok_get (by decide +kernel : decode cX0_addLeaf 90 = .ok (.getfield 31, 3)) rfl (rfl : vwCl[0]? = some (RX0, TX0, 9)) inX0 (by decide) g104) ?_
  refine q_fa (ok_iconst (by decide +kernel : decode cX0_addLeaf 93 = .ok (.iconst 1, 1)) rfl (by decide +kernel)) ?_
  refine q_fa (ok_iadd (by decide +kernel : decode cX0_addLeaf 94 = .ok (.iadd, 1)) rfl) ?_
  refine q_fa (ok_putI tyX0 (by decide +kernel : decode cX0_addLeaf 95 = .ok (.putfield 31, 3)) rfl (rfl : vwCl[0]? = some (RX0, TX0, 9)) inX0 tyX0_ok nmX0 (by decide) g104 (Or.inl rfl) (by decide +kernel)) ?_
  refine q_fa (ok_vret (by decide +kernel : decode cX0_addLeaf 98 = .ok (.return_, 1)) rfl) ?_
  exact q_fa0
theorem exX0_addLeaf : ∃ t : Nat → qP, t = uX0_addLeaf := ⟨_, rfl⟩
noncomputable def tX0_addLeaf : Nat → qP := Classical.choose exX0_addLeaf
theorem teX0_addLeaf : tX0_addLeaf = uX0_addLeaf := Classical.choose_spec exX0_addLeaf
theorem sX0_addLeaf : q_Snd mX0_addLeaf tX0_addLeaf := by rw [teX0_addLeaf]; exact suX0_addLeaf
theorem tX0_addLeaf_0 : tX0_addLeaf 0 = oIl 1 1 := (congrFun teX0_addLeaf 0).trans rfl
theorem tX0_addLeaf_1 : tX0_addLeaf 1 = oIf1lt 19 4 := (congrFun teX0_addLeaf 1).trans rfl
theorem tX0_addLeaf_4 : tX0_addLeaf 4 = oIl 1 5 := (congrFun teX0_addLeaf 4).trans rfl
theorem tX0_addLeaf_5 : tX0_addLeaf 5 = oK (.int (nI 12)) 7 := (congrFun teX0_addLeaf 5).trans rfl
theorem tX0_addLeaf_7 : tX0_addLeaf 7 = oIf2ge 19 10 := (congrFun teX0_addLeaf 7).trans rfl
theorem tX0_addLeaf_10 : tX0_addLeaf 10 = oAl 0 11 := (congrFun teX0_addLeaf 10).trans rfl
theorem tX0_addLeaf_11 : tX0_addLeaf 11 = oGet 0 6 14 := (congrFun teX0_addLeaf 11).trans rfl
theorem tX0_addLeaf_14 : tX0_addLeaf 14 = oK (.int (nI 6)) 16 := (congrFun teX0_addLeaf 14).trans rfl
theorem tX0_addLeaf_16 : tX0_addLeaf 16 = oIf2lt 20 19 := (congrFun teX0_addLeaf 16).trans rfl
theorem tX0_addLeaf_19 : tX0_addLeaf 19 = oVret := (congrFun teX0_addLeaf 19).trans rfl
theorem tX0_addLeaf_20 : tX0_addLeaf 20 = oK (.int (nI 0)) 21 := (congrFun teX0_addLeaf 20).trans rfl
theorem tX0_addLeaf_21 : tX0_addLeaf 21 = oIs 3 22 := (congrFun teX0_addLeaf 21).trans rfl
theorem tX0_addLeaf_22 : tX0_addLeaf 22 = oIl 3 23 := (congrFun teX0_addLeaf 22).trans rfl
theorem tX0_addLeaf_23 : tX0_addLeaf 23 = oK (.int (nI 3)) 24 := (congrFun teX0_addLeaf 23).trans rfl
theorem tX0_addLeaf_24 : tX0_addLeaf 24 = oIf2ge 57 27 := (congrFun teX0_addLeaf 24).trans rfl
theorem tX0_addLeaf_27 : tX0_addLeaf 27 = oIl 2 28 := (congrFun teX0_addLeaf 27).trans rfl
theorem tX0_addLeaf_28 : tX0_addLeaf 28 = oIl 3 29 := (congrFun teX0_addLeaf 28).trans rfl
theorem tX0_addLeaf_29 : tX0_addLeaf 29 = oShr 30 := (congrFun teX0_addLeaf 29).trans rfl
theorem tX0_addLeaf_30 : tX0_addLeaf 30 = oK (.int (nI 1)) 31 := (congrFun teX0_addLeaf 30).trans rfl
theorem tX0_addLeaf_31 : tX0_addLeaf 31 = oAnd 32 := (congrFun teX0_addLeaf 31).trans rfl
theorem tX0_addLeaf_32 : tX0_addLeaf 32 = oK (.int (nI 1)) 33 := (congrFun teX0_addLeaf 32).trans rfl
theorem tX0_addLeaf_33 : tX0_addLeaf 33 = oIf2ne 51 36 := (congrFun teX0_addLeaf 33).trans rfl
theorem tX0_addLeaf_36 : tX0_addLeaf 36 = oAl 0 37 := (congrFun teX0_addLeaf 36).trans rfl
theorem tX0_addLeaf_37 : tX0_addLeaf 37 = oGet 0 4 40 := (congrFun teX0_addLeaf 37).trans rfl
theorem tX0_addLeaf_40 : tX0_addLeaf 40 = oIl 3 41 := (congrFun teX0_addLeaf 40).trans rfl
theorem tX0_addLeaf_41 : tX0_addLeaf 41 = oDup2 42 := (congrFun teX0_addLeaf 41).trans rfl
theorem tX0_addLeaf_42 : tX0_addLeaf 42 = oIald 43 := (congrFun teX0_addLeaf 42).trans rfl
theorem tX0_addLeaf_43 : tX0_addLeaf 43 = oK (.int (nI 1)) 44 := (congrFun teX0_addLeaf 43).trans rfl
theorem tX0_addLeaf_44 : tX0_addLeaf 44 = oAl 0 45 := (congrFun teX0_addLeaf 44).trans rfl
theorem tX0_addLeaf_45 : tX0_addLeaf 45 = oGet 0 6 48 := (congrFun teX0_addLeaf 45).trans rfl
theorem tX0_addLeaf_48 : tX0_addLeaf 48 = oShl 49 := (congrFun teX0_addLeaf 48).trans rfl
theorem tX0_addLeaf_49 : tX0_addLeaf 49 = oOr 50 := (congrFun teX0_addLeaf 49).trans rfl
theorem tX0_addLeaf_50 : tX0_addLeaf 50 = oIast 51 := (congrFun teX0_addLeaf 50).trans rfl
theorem tX0_addLeaf_51 : tX0_addLeaf 51 = oInc 3 (nI 1) 54 := (congrFun teX0_addLeaf 51).trans rfl
theorem tX0_addLeaf_54 : tX0_addLeaf 54 = oGo 22 := (congrFun teX0_addLeaf 54).trans rfl
theorem tX0_addLeaf_57 : tX0_addLeaf 57 = oAl 0 58 := (congrFun teX0_addLeaf 57).trans rfl
theorem tX0_addLeaf_58 : tX0_addLeaf 58 = oGet 0 0 61 := (congrFun teX0_addLeaf 58).trans rfl
theorem tX0_addLeaf_61 : tX0_addLeaf 61 = oIl 1 62 := (congrFun teX0_addLeaf 61).trans rfl
theorem tX0_addLeaf_62 : tX0_addLeaf 62 = oK (.int (nI 0)) 63 := (congrFun teX0_addLeaf 62).trans rfl
theorem tX0_addLeaf_63 : tX0_addLeaf 63 = oZast 64 := (congrFun teX0_addLeaf 63).trans rfl
theorem tX0_addLeaf_64 : tX0_addLeaf 64 = oAl 0 65 := (congrFun teX0_addLeaf 64).trans rfl
theorem tX0_addLeaf_65 : tX0_addLeaf 65 = oGet 0 1 68 := (congrFun teX0_addLeaf 65).trans rfl
theorem tX0_addLeaf_68 : tX0_addLeaf 68 = oIl 1 69 := (congrFun teX0_addLeaf 68).trans rfl
theorem tX0_addLeaf_69 : tX0_addLeaf 69 = oK (.int (nI 1)) 70 := (congrFun teX0_addLeaf 69).trans rfl
theorem tX0_addLeaf_70 : tX0_addLeaf 70 = oAl 0 71 := (congrFun teX0_addLeaf 70).trans rfl
theorem tX0_addLeaf_71 : tX0_addLeaf 71 = oGet 0 6 74 := (congrFun teX0_addLeaf 71).trans rfl
theorem tX0_addLeaf_74 : tX0_addLeaf 74 = oShl 75 := (congrFun teX0_addLeaf 74).trans rfl
theorem tX0_addLeaf_75 : tX0_addLeaf 75 = oIast 76 := (congrFun teX0_addLeaf 75).trans rfl
theorem tX0_addLeaf_76 : tX0_addLeaf 76 = oAl 0 77 := (congrFun teX0_addLeaf 76).trans rfl
theorem tX0_addLeaf_77 : tX0_addLeaf 77 = oGet 0 2 80 := (congrFun teX0_addLeaf 77).trans rfl
theorem tX0_addLeaf_80 : tX0_addLeaf 80 = oIl 1 81 := (congrFun teX0_addLeaf 80).trans rfl
theorem tX0_addLeaf_81 : tX0_addLeaf 81 = oK (.int (nI 1)) 82 := (congrFun teX0_addLeaf 81).trans rfl
theorem tX0_addLeaf_82 : tX0_addLeaf 82 = oAl 0 83 := (congrFun teX0_addLeaf 82).trans rfl
theorem tX0_addLeaf_83 : tX0_addLeaf 83 = oGet 0 6 86 := (congrFun teX0_addLeaf 83).trans rfl
theorem tX0_addLeaf_86 : tX0_addLeaf 86 = oShl 87 := (congrFun teX0_addLeaf 86).trans rfl
theorem tX0_addLeaf_87 : tX0_addLeaf 87 = oIast 88 := (congrFun teX0_addLeaf 87).trans rfl
theorem tX0_addLeaf_88 : tX0_addLeaf 88 = oAl 0 89 := (congrFun teX0_addLeaf 88).trans rfl
theorem tX0_addLeaf_89 : tX0_addLeaf 89 = oDup 90 := (congrFun teX0_addLeaf 89).trans rfl
theorem tX0_addLeaf_90 : tX0_addLeaf 90 = oGet 0 6 93 := (congrFun teX0_addLeaf 90).trans rfl
theorem tX0_addLeaf_93 : tX0_addLeaf 93 = oK (.int (nI 1)) 94 := (congrFun teX0_addLeaf 93).trans rfl
theorem tX0_addLeaf_94 : tX0_addLeaf 94 = oAdd 95 := (congrFun teX0_addLeaf 94).trans rfl
theorem tX0_addLeaf_95 : tX0_addLeaf 95 = oPutI 0 6 98 := (congrFun teX0_addLeaf 95).trans rfl
theorem tX0_addLeaf_98 : tX0_addLeaf 98 = oVret := (congrFun teX0_addLeaf 98).trans rfl
def lX0_follow : List (Nat × qP) := [(0, oK (.int (nI 0)) 1), (1, oIs 3 2), (2, oIl 3 3), (3, oK (.int (nI 6)) 5), (5, oIf2ge 33 8), (8, oIl 1 9), (9, oIl 3 10), (10, oShr 11), (11, oK (.int (nI 1)) 12), (12, oAnd 13), (13, oK (.int (nI 1)) 14), (14, oIf2ne 27 17), (17, oAl 0 18), (18, oGet 0 3 21), (21, oIl 3 22), (22, oDup2 23), (23, oIald 24), (24, oIl 2 25), (25, oOr 26), (26, oIast 27), (27, oInc 3 (nI 1) 30), (30, oGo 2), (33, oVret)]
def uX0_follow : Nat → qP := q_tb lX0_follow
set_option maxRecDepth 20000 in
theorem suX0_follow : q_Snd mX0_follow uX0_follow := by
  refine q_tb_ok ?_
  unfold lX0_follow
  refine q_fa (ok_iconst (by decide +kernel : decode cX0_follow 0 = .ok (.iconst 0, 1)) rfl (by decide +kernel)) ?_
  refine q_fa (ok_istore_n (by decide +kernel : decode cX0_follow 1 = .ok (.istore_n 3, 1)) rfl rfl (by decide)) ?_
  refine q_fa (ok_iload_n (by decide +kernel : decode cX0_follow 2 = .ok (.iload_n 3, 1)) rfl rfl) ?_
  refine q_fa (ok_bipush (by decide +kernel : decode cX0_follow 3 = .ok (.bipush 6, 2)) rfl (by decide +kernel)) ?_
  refine q_fa (ok_if2ge (by decide +kernel : decode cX0_follow 5 = .ok (.if_icmp .ge 28, 3)) (by decide) rfl) ?_
  refine q_fa (ok_iload_n (by decide +kernel : decode cX0_follow 8 = .ok (.iload_n 1, 1)) rfl rfl) ?_
  refine q_fa (ok_iload_n (by decide +kernel : decode cX0_follow 9 = .ok (.iload_n 3, 1)) rfl rfl) ?_
  refine q_fa (ok_ishr (by decide +kernel : decode cX0_follow 10 = .ok (.ishr, 1)) rfl) ?_
  refine q_fa (ok_iconst (by decide +kernel : decode cX0_follow 11 = .ok (.iconst 1, 1)) rfl (by decide +kernel)) ?_
  refine q_fa (ok_iand (by decide +kernel : decode cX0_follow 12 = .ok (.iand, 1)) rfl) ?_
  refine q_fa (ok_iconst (by decide +kernel : decode cX0_follow 13 = .ok (.iconst 1, 1)) rfl (by decide +kernel)) ?_
  refine q_fa (ok_if2ne (by decide +kernel : decode cX0_follow 14 = .ok (.if_icmp .ne 13, 3)) (by decide) rfl) ?_
  refine q_fa (ok_aload_n (by decide +kernel : decode cX0_follow 17 = .ok (.aload_n 0, 1)) rfl rfl) ?_
  refine q_fa (ok_get (by decide +kernel : decode cX0_follow 18 = .ok (.getfield 22, 3)) rfl (rfl : vwCl[0]? = some (RX0, TX0, 9)) inX0 (by decide) g101) ?_
  refine q_fa (ok_iload_n (by decide +kernel : decode cX0_follow 21 = .ok (.iload_n 3, 1)) rfl rfl) ?_
  refine q_fa (ok_dup2 (by decide +kernel : decode cX0_follow 22 = .ok (.dup2, 1)) rfl) ?_
  refine q_fa (ok_iaload (by decide +kernel : decode cX0_follow 23 = .ok (.iaload, 1)) rfl) ?_
  refine q_fa (ok_iload_n (by decide +kernel : decode cX0_follow 24 = .ok (.iload_n 2, 1)) rfl rfl) ?_
  refine q_fa (ok_ior (by decide +kernel : decode cX0_follow 25 = .ok (.ior, 1)) rfl) ?_
  refine q_fa (ok_iastore (by decide +kernel : decode cX0_follow 26 = .ok (.iastore, 1)) rfl) ?_
  refine q_fa (ok_iinc (by decide +kernel : decode cX0_follow 27 = .ok (.iinc 3 1, 3)) rfl (by decide +kernel) (by decide)) ?_
  refine q_fa (ok_goto (by decide +kernel : decode cX0_follow 30 = .ok (.goto (-28), 3)) (by decide)) ?_
  refine q_fa (ok_vret (by decide +kernel : decode cX0_follow 33 = .ok (.return_, 1)) rfl) ?_
  exact q_fa0
theorem exX0_follow : ∃ t : Nat → qP, t = uX0_follow := ⟨_, rfl⟩
noncomputable def tX0_follow : Nat → qP := Classical.choose exX0_follow
theorem teX0_follow : tX0_follow = uX0_follow := Classical.choose_spec exX0_follow
theorem sX0_follow : q_Snd mX0_follow tX0_follow := by rw [teX0_follow]; exact suX0_follow
theorem tX0_follow_0 : tX0_follow 0 = oK (.int (nI 0)) 1 := (congrFun teX0_follow 0).trans rfl
theorem tX0_follow_1 : tX0_follow 1 = oIs 3 2 := (congrFun teX0_follow 1).trans rfl
theorem tX0_follow_2 : tX0_follow 2 = oIl 3 3 := (congrFun teX0_follow 2).trans rfl
theorem tX0_follow_3 : tX0_follow 3 = oK (.int (nI 6)) 5 := (congrFun teX0_follow 3).trans rfl
theorem tX0_follow_5 : tX0_follow 5 = oIf2ge 33 8 := (congrFun teX0_follow 5).trans rfl
theorem tX0_follow_8 : tX0_follow 8 = oIl 1 9 := (congrFun teX0_follow 8).trans rfl
theorem tX0_follow_9 : tX0_follow 9 = oIl 3 10 := (congrFun teX0_follow 9).trans rfl
theorem tX0_follow_10 : tX0_follow 10 = oShr 11 := (congrFun teX0_follow 10).trans rfl
theorem tX0_follow_11 : tX0_follow 11 = oK (.int (nI 1)) 12 := (congrFun teX0_follow 11).trans rfl
theorem tX0_follow_12 : tX0_follow 12 = oAnd 13 := (congrFun teX0_follow 12).trans rfl
theorem tX0_follow_13 : tX0_follow 13 = oK (.int (nI 1)) 14 := (congrFun teX0_follow 13).trans rfl
theorem tX0_follow_14 : tX0_follow 14 = oIf2ne 27 17 := (congrFun teX0_follow 14).trans rfl
theorem tX0_follow_17 : tX0_follow 17 = oAl 0 18 := (congrFun teX0_follow 17).trans rfl
theorem tX0_follow_18 : tX0_follow 18 = oGet 0 3 21 := (congrFun teX0_follow 18).trans rfl
theorem tX0_follow_21 : tX0_follow 21 = oIl 3 22 := (congrFun teX0_follow 21).trans rfl
theorem tX0_follow_22 : tX0_follow 22 = oDup2 23 := (congrFun teX0_follow 22).trans rfl
theorem tX0_follow_23 : tX0_follow 23 = oIald 24 := (congrFun teX0_follow 23).trans rfl
theorem tX0_follow_24 : tX0_follow 24 = oIl 2 25 := (congrFun teX0_follow 24).trans rfl
theorem tX0_follow_25 : tX0_follow 25 = oOr 26 := (congrFun teX0_follow 25).trans rfl
theorem tX0_follow_26 : tX0_follow 26 = oIast 27 := (congrFun teX0_follow 26).trans rfl
theorem tX0_follow_27 : tX0_follow 27 = oInc 3 (nI 1) 30 := (congrFun teX0_follow 27).trans rfl
theorem tX0_follow_30 : tX0_follow 30 = oGo 2 := (congrFun teX0_follow 30).trans rfl
theorem tX0_follow_33 : tX0_follow 33 = oVret := (congrFun teX0_follow 33).trans rfl
def lX0_fillSteps : List (Nat × qP) := [(0, oK (.int (nI 0)) 1), (1, oIs 2 2), (2, oIl 2 3), (3, oK (.int (nI 3)) 4), (4, oIf2ge 121 7), (7, oAl 0 8), (8, oGet 0 5 11), (11, oK (.int (nI 192)) 14), (14, oIl 2 15), (15, oAdd 16), (16, oIl 1 17), (17, oAl 0 18), (18, oGet 0 4 21), (21, oIl 2 22), (22, oIald 23), (23, oAnd 24), (24, oIast 25), (25, oAl 0 26), (26, oGet 0 5 29), (29, oIl 2 30), (30, oK (.int (nI 0)) 31), (31, oIast 32), (32, oK (.int (nI 0)) 33), (33, oIs 3 34), (34, oIl 3 35), (35, oAl 0 36), (36, oGet 0 6 39), (39, oIf2ge 115 42), (42, oIl 3 43), (43, oK (.int (nI 6)) 45), (45, oIf2ge 115 48), (48, oAl 0 49), (49, oGet 0 3 52), (52, oIl 3 53), (53, oIald 54), (54, oAl 0 55), (55, oGet 0 4 58), (58, oIl 2 59), (59, oIald 60), (60, oAnd 61), (61, oIs 4 63), (63, oK (.int (nI 0)) 64), (64, oIs 5 66), (66, oIl 5 68), (68, oK (.int (nI 1)) 69), (69, oIl 3 70), (70, oShl 71), (71, oIf2ge 109 74), (74, oAl 0 75), (75, oGet 0 5 78), (78, oIl 5 80), (80, oK (.int (nI 1)) 81), (81, oIl 3 82), (82, oShl 83), (83, oOr 84), (84, oK (.int (nI 3)) 85), (85, oMul 86), (86, oIl 2 87), (87, oAdd 88), (88, oAl 0 89), (89, oGet 0 5 92), (92, oIl 5 94), (94, oK (.int (nI 3)) 95), (95, oMul 96), (96, oIl 2 97), (97, oAdd 98), (98, oIald 99), (99, oIl 4 101), (101, oOr 102), (102, oIast 103), (103, oInc 5 (nI 1) 106), (106, oGo 66), (109, oInc 3 (nI 1) 112), (112, oGo 34), (115, oInc 2 (nI 1) 118), (118, oGo 2), (121, oVret)]
def uX0_fillSteps : Nat → qP := q_tb lX0_fillSteps
set_option maxRecDepth 20000 in
theorem suX0_fillSteps : q_Snd mX0_fillSteps uX0_fillSteps := by
  refine q_tb_ok ?_
  unfold lX0_fillSteps
  refine q_fa (ok_iconst (by decide +kernel : decode cX0_fillSteps 0 = .ok (.iconst 0, 1)) rfl (by decide +kernel)) ?_
  refine q_fa (ok_istore_n (by decide +kernel : decode cX0_fillSteps 1 = .ok (.istore_n 2, 1)) rfl rfl (by decide)) ?_
  refine q_fa (ok_iload_n (by decide +kernel : decode cX0_fillSteps 2 = .ok (.iload_n 2, 1)) rfl rfl) ?_
  refine q_fa (ok_iconst (by decide +kernel : decode cX0_fillSteps 3 = .ok (.iconst 3, 1)) rfl (by decide +kernel)) ?_
  refine q_fa (ok_if2ge (by decide +kernel : decode cX0_fillSteps 4 = .ok (.if_icmp .ge 117, 3)) (by decide) rfl) ?_
  refine q_fa (ok_aload_n (by decide +kernel : decode cX0_fillSteps 7 = .ok (.aload_n 0, 1)) rfl rfl) ?_
  refine q_fa (ok_get (by decide +kernel : decode cX0_fillSteps 8 = .ok (.getfield 28, 3)) rfl (rfl : vwCl[0]? = some (RX0, TX0, 9)) inX0 (by decide) g103) ?_
  refine q_fa (ok_sipush (by decide +kernel : decode cX0_fillSteps 11 = .ok (.sipush 192, 3)) rfl (by decide +kernel)) ?_
  refine q_fa (ok_iload_n (by decide +kernel : decode cX0_fillSteps 14 = .ok (.iload_n 2, 1)) rfl rfl) ?_
  refine q_fa (ok_iadd (by decide +kernel : decode cX0_fillSteps 15 = .ok (.iadd, 1)) rfl) ?_
  refine q_fa (ok_iload_n (by decide +kernel : decode cX0_fillSteps 16 = .ok (.iload_n 1, 1)) rfl rfl) ?_
  refine q_fa (ok_aload_n (by decide +kernel : decode cX0_fillSteps 17 = .ok (.aload_n 0, 1)) rfl rfl) ?_
  refine q_fa (ok_get (by decide +kernel : decode cX0_fillSteps 18 = .ok (.getfield 25, 3)) rfl (rfl : vwCl[0]? = some (RX0, TX0, 9)) inX0 (by decide) g102) ?_
  refine q_fa (ok_iload_n (by decide +kernel : decode cX0_fillSteps 21 = .ok (.iload_n 2, 1)) rfl rfl) ?_
  refine q_fa (ok_iaload (by decide +kernel : decode cX0_fillSteps 22 = .ok (.iaload, 1)) rfl) ?_
  refine q_fa (ok_iand (by decide +kernel : decode cX0_fillSteps 23 = .ok (.iand, 1)) rfl) ?_
  refine q_fa (ok_iastore (by decide +kernel : decode cX0_fillSteps 24 = .ok (.iastore, 1)) rfl) ?_
  refine q_fa (ok_aload_n (by decide +kernel : decode cX0_fillSteps 25 = .ok (.aload_n 0, 1)) rfl rfl) ?_
  refine q_fa (ok_get (by decide +kernel : decode cX0_fillSteps 26 = .ok (.getfield 28, 3)) rfl (rfl : vwCl[0]? = some (RX0, TX0, 9)) inX0 (by decide) g103) ?_
  refine q_fa (ok_iload_n (by decide +kernel : decode cX0_fillSteps 29 = .ok (.iload_n 2, 1)) rfl rfl) ?_
  refine q_fa (ok_iconst (by decide +kernel : decode cX0_fillSteps 30 = .ok (.iconst 0, 1)) rfl (by decide +kernel)) ?_
  refine q_fa (ok_iastore (by decide +kernel : decode cX0_fillSteps 31 = .ok (.iastore, 1)) rfl) ?_
  refine q_fa (ok_iconst (by decide +kernel : decode cX0_fillSteps 32 = .ok (.iconst 0, 1)) rfl (by decide +kernel)) ?_
  refine q_fa (ok_istore_n (by decide +kernel : decode cX0_fillSteps 33 = .ok (.istore_n 3, 1)) rfl rfl (by decide)) ?_
  refine q_fa (ok_iload_n (by decide +kernel : decode cX0_fillSteps 34 = .ok (.iload_n 3, 1)) rfl rfl) ?_
  refine q_fa (ok_aload_n (by decide +kernel : decode cX0_fillSteps 35 = .ok (.aload_n 0, 1)) rfl rfl) ?_
  refine q_fa (ok_get (by decide +kernel : decode cX0_fillSteps 36 = .ok (.getfield 31, 3)) rfl (rfl : vwCl[0]? = some (RX0, TX0, 9)) inX0 (by decide) g104) ?_
  refine q_fa (ok_if2ge (by decide +kernel : decode cX0_fillSteps 39 = .ok (.if_icmp .ge 76, 3)) (by decide) rfl) ?_
  refine q_fa (ok_iload_n (by decide +kernel : decode cX0_fillSteps 42 = .ok (.iload_n 3, 1)) rfl rfl) ?_
  refine q_fa (ok_bipush (by decide +kernel : decode cX0_fillSteps 43 = .ok (.bipush 6, 2)) rfl (by decide +kernel)) ?_
  refine q_fa (ok_if2ge (by decide +kernel : decode cX0_fillSteps 45 = .ok (.if_icmp .ge 70, 3)) (by decide) rfl) ?_
  refine q_fa (ok_aload_n (by decide +kernel : decode cX0_fillSteps 48 = .ok (.aload_n 0, 1)) rfl rfl) ?_
  refine q_fa (ok_get (by decide +kernel : decode cX0_fillSteps 49 = .ok (.getfield 22, 3)) rfl (rfl : vwCl[0]? = some (RX0, TX0, 9)) inX0 (by decide) g101) ?_
  refine q_fa (ok_iload_n (by decide +kernel : decode cX0_fillSteps 52 = .ok (.iload_n 3, 1)) rfl rfl) ?_
  refine q_fa (ok_iaload (by decide +kernel : decode cX0_fillSteps 53 = .ok (.iaload, 1)) rfl) ?_
  refine q_fa (ok_aload_n (by decide +kernel : decode cX0_fillSteps 54 = .ok (.aload_n 0, 1)) rfl rfl) ?_
  refine q_fa (ok_get (by decide +kernel : decode cX0_fillSteps 55 = .ok (.getfield 25, 3)) rfl (rfl : vwCl[0]? = some (RX0, TX0, 9)) inX0 (by decide) g102) ?_
  refine q_fa (ok_iload_n (by decide +kernel : decode cX0_fillSteps 58 = .ok (.iload_n 2, 1)) rfl rfl) ?_
  refine q_fa (ok_iaload (by decide +kernel : decode cX0_fillSteps 59 = .ok (.iaload, 1)) rfl) ?_
  refine q_fa (ok_iand (by decide +kernel : decode cX0_fillSteps 60 = .ok (.iand, 1)) rfl) ?_
  refine q_fa (ok_istore (by decide +kernel : decode cX0_fillSteps 61 = .ok (.istore 4, 2)) rfl (by decide)) ?_
  refine q_fa (ok_iconst (by decide +kernel : decode cX0_fillSteps 63 = .ok (.iconst 0, 1)) rfl (by decide +kernel)) ?_
  refine q_fa (ok_istore (by decide +kernel : decode cX0_fillSteps 64 = .ok (.istore 5, 2)) rfl (by decide)) ?_
  refine q_fa (ok_iload (by decide +kernel : decode cX0_fillSteps 66 = .ok (.iload 5, 2)) rfl) ?_
  refine q_fa (ok_iconst (by decide +kernel : decode cX0_fillSteps 68 = .ok (.iconst 1, 1)) rfl (by decide +kernel)) ?_
  refine q_fa (ok_iload_n (by decide +kernel : decode cX0_fillSteps 69 = .ok (.iload_n 3, 1)) rfl rfl) ?_
  refine q_fa (ok_ishl (by decide +kernel : decode cX0_fillSteps 70 = .ok (.ishl, 1)) rfl) ?_
  refine q_fa (ok_if2ge (by decide +kernel : decode cX0_fillSteps 71 = .ok (.if_icmp .ge 38, 3)) (by decide) rfl) ?_
  refine q_fa (ok_aload_n (by decide +kernel : decode cX0_fillSteps 74 = .ok (.aload_n 0, 1)) rfl rfl) ?_
  refine q_fa (ok_get (by decide +kernel : decode cX0_fillSteps 75 = .ok (.getfield 28, 3)) rfl (rfl : vwCl[0]? = some (RX0, TX0, 9)) inX0 (by decide) g103) ?_
  refine q_fa (ok_iload (by decide +kernel : decode cX0_fillSteps 78 = .ok (.iload 5, 2)) rfl) ?_
  refine q_fa (ok_iconst (by decide +kernel : decode cX0_fillSteps 80 = .ok (.iconst 1, 1)) rfl (by decide +kernel)) ?_
  refine q_fa (ok_iload_n (by decide +kernel : decode cX0_fillSteps 81 = .ok (.iload_n 3, 1)) rfl rfl) ?_
  refine q_fa (ok_ishl (by decide +kernel : decode cX0_fillSteps 82 = .ok (.ishl, 1)) rfl) ?_
  refine q_fa (ok_ior (by decide +kernel : decode cX0_fillSteps 83 = .ok (.ior, 1)) rfl) ?_
  refine q_fa (ok_iconst (by decide +kernel : decode cX0_fillSteps 84 = .ok (.iconst 3, 1)) rfl (by decide +kernel)) ?_
  refine q_fa (ok_imul (by decide +kernel : decode cX0_fillSteps 85 = .ok (.imul, 1)) rfl) ?_
  refine q_fa (ok_iload_n (by decide +kernel : decode cX0_fillSteps 86 = .ok (.iload_n 2, 1)) rfl rfl) ?_
  refine q_fa (ok_iadd (by decide +kernel : decode cX0_fillSteps 87 = .ok (.iadd, 1)) rfl) ?_
  refine q_fa (ok_aload_n (by decide +kernel : decode cX0_fillSteps 88 = .ok (.aload_n 0, 1)) rfl rfl) ?_
  refine q_fa (ok_get (by decide +kernel : decode cX0_fillSteps 89 = .ok (.getfield 28, 3)) rfl (rfl : vwCl[0]? = some (RX0, TX0, 9)) inX0 (by decide) g103) ?_
  refine q_fa (ok_iload (by decide +kernel : decode cX0_fillSteps 92 = .ok (.iload 5, 2)) rfl) ?_
  refine q_fa (ok_iconst (by decide +kernel : decode cX0_fillSteps 94 = .ok (.iconst 3, 1)) rfl (by decide +kernel)) ?_
  refine q_fa (ok_imul (by decide +kernel : decode cX0_fillSteps 95 = .ok (.imul, 1)) rfl) ?_
  refine q_fa (ok_iload_n (by decide +kernel : decode cX0_fillSteps 96 = .ok (.iload_n 2, 1)) rfl rfl) ?_
  refine q_fa (ok_iadd (by decide +kernel : decode cX0_fillSteps 97 = .ok (.iadd, 1)) rfl) ?_
  refine q_fa (ok_iaload (by decide +kernel : decode cX0_fillSteps 98 = .ok (.iaload, 1)) rfl) ?_
  refine q_fa (ok_iload (by decide +kernel : decode cX0_fillSteps 99 = .ok (.iload 4, 2)) rfl) ?_
  refine q_fa (ok_ior (by decide +kernel : decode cX0_fillSteps 101 = .ok (.ior, 1)) rfl) ?_
  refine q_fa (ok_iastore (by decide +kernel : decode cX0_fillSteps 102 = .ok (.iastore, 1)) rfl) ?_
  refine q_fa (ok_iinc (by decide +kernel : decode cX0_fillSteps 103 = .ok (.iinc 5 1, 3)) rfl (by decide +kernel) (by decide)) ?_
  refine q_fa (ok_goto (by decide +kernel : decode cX0_fillSteps 106 = .ok (.goto (-40), 3)) (by decide)) ?_
  refine q_fa (ok_iinc (by decide +kernel : decode cX0_fillSteps 109 = .ok (.iinc 3 1, 3)) rfl (by decide +kernel) (by decide)) ?_
  refine q_fa (ok_goto (by decide +kernel : decode cX0_fillSteps 112 = .ok (.goto (-78), 3)) (by decide)) ?_
  refine q_fa (ok_iinc (by decide +kernel : decode cX0_fillSteps 115 = .ok (.iinc 2 1, 3)) rfl (by decide +kernel) (by decide)) ?_
  refine q_fa (ok_goto (by decide +kernel : decode cX0_fillSteps 118 = .ok (.goto (-116), 3)) (by decide)) ?_
  refine q_fa (ok_vret (by decide +kernel : decode cX0_fillSteps 121 = .ok (.return_, 1)) rfl) ?_
  exact q_fa0
theorem exX0_fillSteps : ∃ t : Nat → qP, t = uX0_fillSteps := ⟨_, rfl⟩
noncomputable def tX0_fillSteps : Nat → qP := Classical.choose exX0_fillSteps
theorem teX0_fillSteps : tX0_fillSteps = uX0_fillSteps := Classical.choose_spec exX0_fillSteps
theorem sX0_fillSteps : q_Snd mX0_fillSteps tX0_fillSteps := by rw [teX0_fillSteps]; exact suX0_fillSteps
theorem tX0_fillSteps_0 : tX0_fillSteps 0 = oK (.int (nI 0)) 1 := (congrFun teX0_fillSteps 0).trans rfl
theorem tX0_fillSteps_1 : tX0_fillSteps 1 = oIs 2 2 := (congrFun teX0_fillSteps 1).trans rfl
theorem tX0_fillSteps_2 : tX0_fillSteps 2 = oIl 2 3 := (congrFun teX0_fillSteps 2).trans rfl
theorem tX0_fillSteps_3 : tX0_fillSteps 3 = oK (.int (nI 3)) 4 := (congrFun teX0_fillSteps 3).trans rfl
theorem tX0_fillSteps_4 : tX0_fillSteps 4 = oIf2ge 121 7 := (congrFun teX0_fillSteps 4).trans rfl
theorem tX0_fillSteps_7 : tX0_fillSteps 7 = oAl 0 8 := (congrFun teX0_fillSteps 7).trans rfl
theorem tX0_fillSteps_8 : tX0_fillSteps 8 = oGet 0 5 11 := (congrFun teX0_fillSteps 8).trans rfl
theorem tX0_fillSteps_11 : tX0_fillSteps 11 = oK (.int (nI 192)) 14 := (congrFun teX0_fillSteps 11).trans rfl
theorem tX0_fillSteps_14 : tX0_fillSteps 14 = oIl 2 15 := (congrFun teX0_fillSteps 14).trans rfl
theorem tX0_fillSteps_15 : tX0_fillSteps 15 = oAdd 16 := (congrFun teX0_fillSteps 15).trans rfl
theorem tX0_fillSteps_16 : tX0_fillSteps 16 = oIl 1 17 := (congrFun teX0_fillSteps 16).trans rfl
theorem tX0_fillSteps_17 : tX0_fillSteps 17 = oAl 0 18 := (congrFun teX0_fillSteps 17).trans rfl
theorem tX0_fillSteps_18 : tX0_fillSteps 18 = oGet 0 4 21 := (congrFun teX0_fillSteps 18).trans rfl
theorem tX0_fillSteps_21 : tX0_fillSteps 21 = oIl 2 22 := (congrFun teX0_fillSteps 21).trans rfl
theorem tX0_fillSteps_22 : tX0_fillSteps 22 = oIald 23 := (congrFun teX0_fillSteps 22).trans rfl
theorem tX0_fillSteps_23 : tX0_fillSteps 23 = oAnd 24 := (congrFun teX0_fillSteps 23).trans rfl
theorem tX0_fillSteps_24 : tX0_fillSteps 24 = oIast 25 := (congrFun teX0_fillSteps 24).trans rfl
theorem tX0_fillSteps_25 : tX0_fillSteps 25 = oAl 0 26 := (congrFun teX0_fillSteps 25).trans rfl
theorem tX0_fillSteps_26 : tX0_fillSteps 26 = oGet 0 5 29 := (congrFun teX0_fillSteps 26).trans rfl
theorem tX0_fillSteps_29 : tX0_fillSteps 29 = oIl 2 30 := (congrFun teX0_fillSteps 29).trans rfl
theorem tX0_fillSteps_30 : tX0_fillSteps 30 = oK (.int (nI 0)) 31 := (congrFun teX0_fillSteps 30).trans rfl
theorem tX0_fillSteps_31 : tX0_fillSteps 31 = oIast 32 := (congrFun teX0_fillSteps 31).trans rfl
theorem tX0_fillSteps_32 : tX0_fillSteps 32 = oK (.int (nI 0)) 33 := (congrFun teX0_fillSteps 32).trans rfl
theorem tX0_fillSteps_33 : tX0_fillSteps 33 = oIs 3 34 := (congrFun teX0_fillSteps 33).trans rfl
theorem tX0_fillSteps_34 : tX0_fillSteps 34 = oIl 3 35 := (congrFun teX0_fillSteps 34).trans rfl
theorem tX0_fillSteps_35 : tX0_fillSteps 35 = oAl 0 36 := (congrFun teX0_fillSteps 35).trans rfl
theorem tX0_fillSteps_36 : tX0_fillSteps 36 = oGet 0 6 39 := (congrFun teX0_fillSteps 36).trans rfl
theorem tX0_fillSteps_39 : tX0_fillSteps 39 = oIf2ge 115 42 := (congrFun teX0_fillSteps 39).trans rfl
theorem tX0_fillSteps_42 : tX0_fillSteps 42 = oIl 3 43 := (congrFun teX0_fillSteps 42).trans rfl
theorem tX0_fillSteps_43 : tX0_fillSteps 43 = oK (.int (nI 6)) 45 := (congrFun teX0_fillSteps 43).trans rfl
theorem tX0_fillSteps_45 : tX0_fillSteps 45 = oIf2ge 115 48 := (congrFun teX0_fillSteps 45).trans rfl
theorem tX0_fillSteps_48 : tX0_fillSteps 48 = oAl 0 49 := (congrFun teX0_fillSteps 48).trans rfl
theorem tX0_fillSteps_49 : tX0_fillSteps 49 = oGet 0 3 52 := (congrFun teX0_fillSteps 49).trans rfl
theorem tX0_fillSteps_52 : tX0_fillSteps 52 = oIl 3 53 := (congrFun teX0_fillSteps 52).trans rfl
theorem tX0_fillSteps_53 : tX0_fillSteps 53 = oIald 54 := (congrFun teX0_fillSteps 53).trans rfl
theorem tX0_fillSteps_54 : tX0_fillSteps 54 = oAl 0 55 := (congrFun teX0_fillSteps 54).trans rfl
theorem tX0_fillSteps_55 : tX0_fillSteps 55 = oGet 0 4 58 := (congrFun teX0_fillSteps 55).trans rfl
theorem tX0_fillSteps_58 : tX0_fillSteps 58 = oIl 2 59 := (congrFun teX0_fillSteps 58).trans rfl
theorem tX0_fillSteps_59 : tX0_fillSteps 59 = oIald 60 := (congrFun teX0_fillSteps 59).trans rfl
theorem tX0_fillSteps_60 : tX0_fillSteps 60 = oAnd 61 := (congrFun teX0_fillSteps 60).trans rfl
theorem tX0_fillSteps_61 : tX0_fillSteps 61 = oIs 4 63 := (congrFun teX0_fillSteps 61).trans rfl
theorem tX0_fillSteps_63 : tX0_fillSteps 63 = oK (.int (nI 0)) 64 := (congrFun teX0_fillSteps 63).trans rfl
theorem tX0_fillSteps_64 : tX0_fillSteps 64 = oIs 5 66 := (congrFun teX0_fillSteps 64).trans rfl
theorem tX0_fillSteps_66 : tX0_fillSteps 66 = oIl 5 68 := (congrFun teX0_fillSteps 66).trans rfl
theorem tX0_fillSteps_68 : tX0_fillSteps 68 = oK (.int (nI 1)) 69 := (congrFun teX0_fillSteps 68).trans rfl
theorem tX0_fillSteps_69 : tX0_fillSteps 69 = oIl 3 70 := (congrFun teX0_fillSteps 69).trans rfl
theorem tX0_fillSteps_70 : tX0_fillSteps 70 = oShl 71 := (congrFun teX0_fillSteps 70).trans rfl
theorem tX0_fillSteps_71 : tX0_fillSteps 71 = oIf2ge 109 74 := (congrFun teX0_fillSteps 71).trans rfl
theorem tX0_fillSteps_74 : tX0_fillSteps 74 = oAl 0 75 := (congrFun teX0_fillSteps 74).trans rfl
theorem tX0_fillSteps_75 : tX0_fillSteps 75 = oGet 0 5 78 := (congrFun teX0_fillSteps 75).trans rfl
theorem tX0_fillSteps_78 : tX0_fillSteps 78 = oIl 5 80 := (congrFun teX0_fillSteps 78).trans rfl
theorem tX0_fillSteps_80 : tX0_fillSteps 80 = oK (.int (nI 1)) 81 := (congrFun teX0_fillSteps 80).trans rfl
theorem tX0_fillSteps_81 : tX0_fillSteps 81 = oIl 3 82 := (congrFun teX0_fillSteps 81).trans rfl
theorem tX0_fillSteps_82 : tX0_fillSteps 82 = oShl 83 := (congrFun teX0_fillSteps 82).trans rfl
theorem tX0_fillSteps_83 : tX0_fillSteps 83 = oOr 84 := (congrFun teX0_fillSteps 83).trans rfl
theorem tX0_fillSteps_84 : tX0_fillSteps 84 = oK (.int (nI 3)) 85 := (congrFun teX0_fillSteps 84).trans rfl
theorem tX0_fillSteps_85 : tX0_fillSteps 85 = oMul 86 := (congrFun teX0_fillSteps 85).trans rfl
theorem tX0_fillSteps_86 : tX0_fillSteps 86 = oIl 2 87 := (congrFun teX0_fillSteps 86).trans rfl
theorem tX0_fillSteps_87 : tX0_fillSteps 87 = oAdd 88 := (congrFun teX0_fillSteps 87).trans rfl
theorem tX0_fillSteps_88 : tX0_fillSteps 88 = oAl 0 89 := (congrFun teX0_fillSteps 88).trans rfl
theorem tX0_fillSteps_89 : tX0_fillSteps 89 = oGet 0 5 92 := (congrFun teX0_fillSteps 89).trans rfl
theorem tX0_fillSteps_92 : tX0_fillSteps 92 = oIl 5 94 := (congrFun teX0_fillSteps 92).trans rfl
theorem tX0_fillSteps_94 : tX0_fillSteps 94 = oK (.int (nI 3)) 95 := (congrFun teX0_fillSteps 94).trans rfl
theorem tX0_fillSteps_95 : tX0_fillSteps 95 = oMul 96 := (congrFun teX0_fillSteps 95).trans rfl
theorem tX0_fillSteps_96 : tX0_fillSteps 96 = oIl 2 97 := (congrFun teX0_fillSteps 96).trans rfl
theorem tX0_fillSteps_97 : tX0_fillSteps 97 = oAdd 98 := (congrFun teX0_fillSteps 97).trans rfl
theorem tX0_fillSteps_98 : tX0_fillSteps 98 = oIald 99 := (congrFun teX0_fillSteps 98).trans rfl
theorem tX0_fillSteps_99 : tX0_fillSteps 99 = oIl 4 101 := (congrFun teX0_fillSteps 99).trans rfl
theorem tX0_fillSteps_101 : tX0_fillSteps 101 = oOr 102 := (congrFun teX0_fillSteps 101).trans rfl
theorem tX0_fillSteps_102 : tX0_fillSteps 102 = oIast 103 := (congrFun teX0_fillSteps 102).trans rfl
theorem tX0_fillSteps_103 : tX0_fillSteps 103 = oInc 5 (nI 1) 106 := (congrFun teX0_fillSteps 103).trans rfl
theorem tX0_fillSteps_106 : tX0_fillSteps 106 = oGo 66 := (congrFun teX0_fillSteps 106).trans rfl
theorem tX0_fillSteps_109 : tX0_fillSteps 109 = oInc 3 (nI 1) 112 := (congrFun teX0_fillSteps 109).trans rfl
theorem tX0_fillSteps_112 : tX0_fillSteps 112 = oGo 34 := (congrFun teX0_fillSteps 112).trans rfl
theorem tX0_fillSteps_115 : tX0_fillSteps 115 = oInc 2 (nI 1) 118 := (congrFun teX0_fillSteps 115).trans rfl
theorem tX0_fillSteps_118 : tX0_fillSteps 118 = oGo 2 := (congrFun teX0_fillSteps 118).trans rfl
theorem tX0_fillSteps_121 : tX0_fillSteps 121 = oVret := (congrFun teX0_fillSteps 121).trans rfl
def lX0_after : List (Nat × qP) := [(0, oIl 1 1), (1, oK (.int (nI 3)) 2), (2, oMul 3), (3, oIl 2 4), (4, oAdd 5), (5, oIs 3 6), (6, oIl 3 7), (7, oIf1lt 28 10), (10, oIl 3 11), (11, oAl 0 12), (12, oGet 0 5 15), (15, oAlen 16), (16, oIf2ge 28 19), (19, oAl 0 20), (20, oGet 0 5 23), (23, oIl 3 24), (24, oIald 25), (25, oGo 29), (28, oK (.int (nI 0)) 29), (29, oIret)]
def uX0_after : Nat → qP := q_tb lX0_after
set_option maxRecDepth 20000 in
theorem suX0_after : q_Snd mX0_after uX0_after := by
  refine q_tb_ok ?_
  unfold lX0_after
  refine q_fa (ok_iload_n (by decide +kernel : decode cX0_after 0 = .ok (.iload_n 1, 1)) rfl rfl) ?_
  refine q_fa (ok_iconst (by decide +kernel : decode cX0_after 1 = .ok (.iconst 3, 1)) rfl (by decide +kernel)) ?_
  refine q_fa (ok_imul (by decide +kernel : decode cX0_after 2 = .ok (.imul, 1)) rfl) ?_
  refine q_fa (ok_iload_n (by decide +kernel : decode cX0_after 3 = .ok (.iload_n 2, 1)) rfl rfl) ?_
  refine q_fa (ok_iadd (by decide +kernel : decode cX0_after 4 = .ok (.iadd, 1)) rfl) ?_
  refine q_fa (ok_istore_n (by decide +kernel : decode cX0_after 5 = .ok (.istore_n 3, 1)) rfl rfl (by decide)) ?_
  refine q_fa (ok_iload_n (by decide +kernel : decode cX0_after 6 = .ok (.iload_n 3, 1)) rfl rfl) ?_
  refine q_fa (ok_if1lt (by decide +kernel : decode cX0_after 7 = .ok (.ifCond .lt 21, 3)) (by decide) rfl) ?_
  refine q_fa (ok_iload_n (by decide +kernel : decode cX0_after 10 = .ok (.iload_n 3, 1)) rfl rfl) ?_
  refine q_fa (ok_aload_n (by decide +kernel : decode cX0_after 11 = .ok (.aload_n 0, 1)) rfl rfl) ?_
  refine q_fa (ok_get (by decide +kernel : decode cX0_after 12 = .ok (.getfield 28, 3)) rfl (rfl : vwCl[0]? = some (RX0, TX0, 9)) inX0 (by decide) g103) ?_
  refine q_fa (ok_alen (by decide +kernel : decode cX0_after 15 = .ok (.arraylength, 1)) rfl) ?_
  refine q_fa (ok_if2ge (by decide +kernel : decode cX0_after 16 = .ok (.if_icmp .ge 12, 3)) (by decide) rfl) ?_
  refine q_fa (ok_aload_n (by decide +kernel : decode cX0_after 19 = .ok (.aload_n 0, 1)) rfl rfl) ?_
  refine q_fa (ok_get (by decide +kernel : decode cX0_after 20 = .ok (.getfield 28, 3)) rfl (rfl : vwCl[0]? = some (RX0, TX0, 9)) inX0 (by decide) g103) ?_
  refine q_fa (ok_iload_n (by decide +kernel : decode cX0_after 23 = .ok (.iload_n 3, 1)) rfl rfl) ?_
  refine q_fa (ok_iaload (by decide +kernel : decode cX0_after 24 = .ok (.iaload, 1)) rfl) ?_
  refine q_fa (ok_goto (by decide +kernel : decode cX0_after 25 = .ok (.goto 4, 3)) (by decide)) ?_
  refine q_fa (ok_iconst (by decide +kernel : decode cX0_after 28 = .ok (.iconst 0, 1)) rfl (by decide +kernel)) ?_
  refine q_fa (ok_iret (by decide +kernel : decode cX0_after 29 = .ok (.ireturn, 1)) rfl) ?_
  exact q_fa0
theorem exX0_after : ∃ t : Nat → qP, t = uX0_after := ⟨_, rfl⟩
noncomputable def tX0_after : Nat → qP := Classical.choose exX0_after
theorem teX0_after : tX0_after = uX0_after := Classical.choose_spec exX0_after
theorem sX0_after : q_Snd mX0_after tX0_after := by rw [teX0_after]; exact suX0_after
theorem tX0_after_0 : tX0_after 0 = oIl 1 1 := (congrFun teX0_after 0).trans rfl
theorem tX0_after_1 : tX0_after 1 = oK (.int (nI 3)) 2 := (congrFun teX0_after 1).trans rfl
theorem tX0_after_2 : tX0_after 2 = oMul 3 := (congrFun teX0_after 2).trans rfl
theorem tX0_after_3 : tX0_after 3 = oIl 2 4 := (congrFun teX0_after 3).trans rfl
theorem tX0_after_4 : tX0_after 4 = oAdd 5 := (congrFun teX0_after 4).trans rfl
theorem tX0_after_5 : tX0_after 5 = oIs 3 6 := (congrFun teX0_after 5).trans rfl
theorem tX0_after_6 : tX0_after 6 = oIl 3 7 := (congrFun teX0_after 6).trans rfl
theorem tX0_after_7 : tX0_after 7 = oIf1lt 28 10 := (congrFun teX0_after 7).trans rfl
theorem tX0_after_10 : tX0_after 10 = oIl 3 11 := (congrFun teX0_after 10).trans rfl
theorem tX0_after_11 : tX0_after 11 = oAl 0 12 := (congrFun teX0_after 11).trans rfl
theorem tX0_after_12 : tX0_after 12 = oGet 0 5 15 := (congrFun teX0_after 12).trans rfl
theorem tX0_after_15 : tX0_after 15 = oAlen 16 := (congrFun teX0_after 15).trans rfl
theorem tX0_after_16 : tX0_after 16 = oIf2ge 28 19 := (congrFun teX0_after 16).trans rfl
theorem tX0_after_19 : tX0_after 19 = oAl 0 20 := (congrFun teX0_after 19).trans rfl
theorem tX0_after_20 : tX0_after 20 = oGet 0 5 23 := (congrFun teX0_after 20).trans rfl
theorem tX0_after_23 : tX0_after 23 = oIl 3 24 := (congrFun teX0_after 23).trans rfl
theorem tX0_after_24 : tX0_after 24 = oIald 25 := (congrFun teX0_after 24).trans rfl
theorem tX0_after_25 : tX0_after 25 = oGo 29 := (congrFun teX0_after 25).trans rfl
theorem tX0_after_28 : tX0_after 28 = oK (.int (nI 0)) 29 := (congrFun teX0_after 28).trans rfl
theorem tX0_after_29 : tX0_after 29 = oIret := (congrFun teX0_after 29).trans rfl
def lX0_endsAt : List (Nat × qP) := [(0, oIl 1 1), (1, oK (.int (nI 64)) 3), (3, oIf2ne 13 6), (6, oAl 0 7), (7, oGet 0 8 10), (10, oGo 27), (13, oIl 1 14), (14, oAl 0 15), (15, oGet 0 7 18), (18, oAnd 19), (19, oIf1eq 26 22), (22, oK (.int (nI 1)) 23), (23, oGo 27), (26, oK (.int (nI 0)) 27), (27, oZret)]
def uX0_endsAt : Nat → qP := q_tb lX0_endsAt
set_option maxRecDepth 20000 in
theorem suX0_endsAt : q_Snd mX0_endsAt uX0_endsAt := by
  refine q_tb_ok ?_
  unfold lX0_endsAt
  refine q_fa (ok_iload_n (by decide +kernel : decode cX0_endsAt 0 = .ok (.iload_n 1, 1)) rfl rfl) ?_
  refine q_fa (ok_bipush (by decide +kernel : decode cX0_endsAt 1 = .ok (.bipush 64, 2)) rfl (by decide +kernel)) ?_
  refine q_fa (ok_if2ne (by decide +kernel : decode cX0_endsAt 3 = .ok (.if_icmp .ne 10, 3)) (by decide) rfl) ?_
  refine q_fa (ok_aload_n (by decide +kernel : decode cX0_endsAt 6 = .ok (.aload_n 0, 1)) rfl rfl) ?_
  refine q_fa (ok_get (by decide +kernel : decode cX0_endsAt 7 = .ok (.getfield 63, 3)) rfl (rfl : vwCl[0]? = some (RX0, TX0, 9)) inX0 (by decide) g106) ?_
  refine q_fa (ok_goto (by decide +kernel : decode cX0_endsAt 10 = .ok (.goto 17, 3)) (by decide)) ?_
  refine q_fa (ok_iload_n (by decide +kernel : decode cX0_endsAt 13 = .ok (.iload_n 1, 1)) rfl rfl) ?_
  refine q_fa (ok_aload_n (by decide +kernel : decode cX0_endsAt 14 = .ok (.aload_n 0, 1)) rfl rfl) ?_
  refine q_fa (ok_get (by decide +kernel : decode cX0_endsAt 15 = .ok (.getfield 60, 3)) rfl (rfl : vwCl[0]? = some (RX0, TX0, 9)) inX0 (by decide) g105) ?_
  refine q_fa (ok_iand (by decide +kernel : decode cX0_endsAt 18 = .ok (.iand, 1)) rfl) ?_
  refine q_fa (ok_if1eq (by decide +kernel : decode cX0_endsAt 19 = .ok (.ifCond .eq 7, 3)) (by decide) rfl) ?_
  refine q_fa (ok_iconst (by decide +kernel : decode cX0_endsAt 22 = .ok (.iconst 1, 1)) rfl (by decide +kernel)) ?_
  refine q_fa (ok_goto (by decide +kernel : decode cX0_endsAt 23 = .ok (.goto 4, 3)) (by decide)) ?_
  refine q_fa (ok_iconst (by decide +kernel : decode cX0_endsAt 26 = .ok (.iconst 0, 1)) rfl (by decide +kernel)) ?_
  refine q_fa (ok_zret (by decide +kernel : decode cX0_endsAt 27 = .ok (.ireturn, 1)) rfl) ?_
  exact q_fa0
theorem exX0_endsAt : ∃ t : Nat → qP, t = uX0_endsAt := ⟨_, rfl⟩
noncomputable def tX0_endsAt : Nat → qP := Classical.choose exX0_endsAt
theorem teX0_endsAt : tX0_endsAt = uX0_endsAt := Classical.choose_spec exX0_endsAt
theorem sX0_endsAt : q_Snd mX0_endsAt tX0_endsAt := by rw [teX0_endsAt]; exact suX0_endsAt
theorem tX0_endsAt_0 : tX0_endsAt 0 = oIl 1 1 := (congrFun teX0_endsAt 0).trans rfl
theorem tX0_endsAt_1 : tX0_endsAt 1 = oK (.int (nI 64)) 3 := (congrFun teX0_endsAt 1).trans rfl
theorem tX0_endsAt_3 : tX0_endsAt 3 = oIf2ne 13 6 := (congrFun teX0_endsAt 3).trans rfl
theorem tX0_endsAt_6 : tX0_endsAt 6 = oAl 0 7 := (congrFun teX0_endsAt 6).trans rfl
theorem tX0_endsAt_7 : tX0_endsAt 7 = oGet 0 8 10 := (congrFun teX0_endsAt 7).trans rfl
theorem tX0_endsAt_10 : tX0_endsAt 10 = oGo 27 := (congrFun teX0_endsAt 10).trans rfl
theorem tX0_endsAt_13 : tX0_endsAt 13 = oIl 1 14 := (congrFun teX0_endsAt 13).trans rfl
theorem tX0_endsAt_14 : tX0_endsAt 14 = oAl 0 15 := (congrFun teX0_endsAt 14).trans rfl
theorem tX0_endsAt_15 : tX0_endsAt 15 = oGet 0 7 18 := (congrFun teX0_endsAt 15).trans rfl
theorem tX0_endsAt_18 : tX0_endsAt 18 = oAnd 19 := (congrFun teX0_endsAt 18).trans rfl
theorem tX0_endsAt_19 : tX0_endsAt 19 = oIf1eq 26 22 := (congrFun teX0_endsAt 19).trans rfl
theorem tX0_endsAt_22 : tX0_endsAt 22 = oK (.int (nI 1)) 23 := (congrFun teX0_endsAt 22).trans rfl
theorem tX0_endsAt_23 : tX0_endsAt 23 = oGo 27 := (congrFun teX0_endsAt 23).trans rfl
theorem tX0_endsAt_26 : tX0_endsAt 26 = oK (.int (nI 0)) 27 := (congrFun teX0_endsAt 26).trans rfl
theorem tX0_endsAt_27 : tX0_endsAt 27 = oZret := (congrFun teX0_endsAt 27).trans rfl
def lX0_longestFit : List (Nat × qP) := [(0, oK (.int (nI 64)) 2), (2, oIs 4 4), (4, oAl 0 5), (5, oGet 0 8 8), (8, oIf1eq 15 11), (11, oIl 3 12), (12, oGo 16), (15, oK (.int (-1)) 16), (16, oIs 5 18), (18, oIl 3 19), (19, oIs 6 21), (21, oIl 6 23), (23, oIl 2 24), (24, oIf2ge 63 27), (27, oAl 0 28), (28, oIl 4 30), (30, oIl 1 31), (31, oIl 2 32), (32, oIl 6 34), (34, oCallS mX11_letterAt 3 37), (37, oCallV 0 mX0_after 2 40), (40, oIs 4 42), (42, oAl 0 43), (43, oIl 4 45), (45, oCallV 0 mX0_endsAt 1 48), (48, oIf1eq 57 51), (51, oIl 6 53), (53, oK (.int (nI 1)) 54), (54, oAdd 55), (55, oIs 5 57), (57, oInc 6 (nI 1) 60), (60, oGo 21), (63, oIl 5 65), (65, oIret)]
def uX0_longestFit : Nat → qP := q_tb lX0_longestFit
set_option maxRecDepth 20000 in
theorem suX0_longestFit : q_Snd mX0_longestFit uX0_longestFit := by
  refine q_tb_ok ?_
  unfold lX0_longestFit
  refine q_fa (ok_bipush (by decide +kernel : decode cX0_longestFit 0 = .ok (.bipush 64, 2)) rfl (by decide +kernel)) ?_
  refine q_fa (ok_istore (by decide +kernel : decode cX0_longestFit 2 = .ok (.istore 4, 2)) rfl (by decide)) ?_
  refine q_fa (ok_aload_n (by decide +kernel : decode cX0_longestFit 4 = .ok (.aload_n 0, 1)) rfl rfl) ?_
  refine q_fa (ok_get (by decide +kernel : decode cX0_longestFit 5 = .ok (.getfield 63, 3)) rfl (rfl : vwCl[0]? = some (RX0, TX0, 9)) inX0 (by decide) g106) ?_
  refine q_fa (ok_if1eq (by decide +kernel : decode cX0_longestFit 8 = .ok (.ifCond .eq 7, 3)) (by decide) rfl) ?_
  refine q_fa (ok_iload_n (by decide +kernel : decode cX0_longestFit 11 = .ok (.iload_n 3, 1)) rfl rfl) ?_
  refine q_fa (ok_goto (by decide +kernel : decode cX0_longestFit 12 = .ok (.goto 4, 3)) (by decide)) ?_
  refine q_fa (ok_iconst (by decide +kernel : decode cX0_longestFit 15 = .ok (.iconst (-1), 1)) rfl (by decide +kernel)) ?_
  refine q_fa (ok_istore (by decide +kernel : decode cX0_longestFit 16 = .ok (.istore 5, 2)) rfl (by decide)) ?_
  refine q_fa (ok_iload_n (by decide +kernel : decode cX0_longestFit 18 = .ok (.iload_n 3, 1)) rfl rfl) ?_
  refine q_fa (ok_istore (by decide +kernel : decode cX0_longestFit 19 = .ok (.istore 6, 2)) rfl (by decide)) ?_
  refine q_fa (ok_iload (by decide +kernel : decode cX0_longestFit 21 = .ok (.iload 6, 2)) rfl) ?_
  refine q_fa (ok_iload_n (by decide +kernel : decode cX0_longestFit 23 = .ok (.iload_n 2, 1)) rfl rfl) ?_
  refine q_fa (ok_if2ge (by decide +kernel : decode cX0_longestFit 24 = .ok (.if_icmp .ge 39, 3)) (by decide) rfl) ?_
  refine q_fa (ok_aload_n (by decide +kernel : decode cX0_longestFit 27 = .ok (.aload_n 0, 1)) rfl rfl) ?_
  refine q_fa (ok_iload (by decide +kernel : decode cX0_longestFit 28 = .ok (.iload 4, 2)) rfl) ?_
  refine q_fa (ok_iload_n (by decide +kernel : decode cX0_longestFit 30 = .ok (.iload_n 1, 1)) rfl rfl) ?_
  refine q_fa (ok_iload_n (by decide +kernel : decode cX0_longestFit 31 = .ok (.iload_n 2, 1)) rfl rfl) ?_
  refine q_fa (ok_iload (by decide +kernel : decode cX0_longestFit 32 = .ok (.iload 6, 2)) rfl) ?_
  refine q_fa (ok_callSN (by decide +kernel : decode cX0_longestFit 34 = .ok (.invokestatic 92, 3)) rfl kX11_letterAt.1 kX11_letterAt.2.1 kX11_letterAt.2.2.1 kX11_letterAt.2.2.2.1 kX11_letterAt.2.2.2.2 g526 gn525) ?_
  refine q_fa (ok_callV (by decide +kernel : decode cX0_longestFit 37 = .ok (.invokevirtual 96, 3)) rfl kX0_after.1 kX0_after.2.1 kX0_after.2.2.1 kX0_after.2.2.2.1 kX0_after.2.2.2.2 (rfl : vwCl[0]? = some (RX0, TX0, 9)) g529 g530 g528) ?_
  refine q_fa (ok_istore (by decide +kernel : decode cX0_longestFit 40 = .ok (.istore 4, 2)) rfl (by decide)) ?_
  refine q_fa (ok_aload_n (by decide +kernel : decode cX0_longestFit 42 = .ok (.aload_n 0, 1)) rfl rfl) ?_
  refine q_fa (ok_iload (by decide +kernel : decode cX0_longestFit 43 = .ok (.iload 4, 2)) rfl) ?_
  refine q_fa (ok_callV (by decide +kernel : decode cX0_longestFit 45 = .ok (.invokevirtual 99, 3)) rfl kX0_endsAt.1 kX0_endsAt.2.1 kX0_endsAt.2.2.1 kX0_endsAt.2.2.2.1 kX0_endsAt.2.2.2.2 (rfl : vwCl[0]? = some (RX0, TX0, 9)) g533 g534 g532) ?_
  refine q_fa (ok_if1eq (by decide +kernel : decode cX0_longestFit 48 = .ok (.ifCond .eq 9, 3)) (by decide) rfl) ?_
  refine q_fa (ok_iload (by decide +kernel : decode cX0_longestFit 51 = .ok (.iload 6, 2)) rfl) ?_
  refine q_fa (ok_iconst (by decide +kernel : decode cX0_longestFit 53 = .ok (.iconst 1, 1)) rfl (by decide +kernel)) ?_
  refine q_fa (ok_iadd (by decide +kernel : decode cX0_longestFit 54 = .ok (.iadd, 1)) rfl) ?_
  refine q_fa (ok_istore (by decide +kernel : decode cX0_longestFit 55 = .ok (.istore 5, 2)) rfl (by decide)) ?_
  refine q_fa (ok_iinc (by decide +kernel : decode cX0_longestFit 57 = .ok (.iinc 6 1, 3)) rfl (by decide +kernel) (by decide)) ?_
  refine q_fa (ok_goto (by decide +kernel : decode cX0_longestFit 60 = .ok (.goto (-39), 3)) (by decide)) ?_
  refine q_fa (ok_iload (by decide +kernel : decode cX0_longestFit 63 = .ok (.iload 5, 2)) rfl) ?_
  refine q_fa (ok_iret (by decide +kernel : decode cX0_longestFit 65 = .ok (.ireturn, 1)) rfl) ?_
  exact q_fa0
theorem exX0_longestFit : ∃ t : Nat → qP, t = uX0_longestFit := ⟨_, rfl⟩
noncomputable def tX0_longestFit : Nat → qP := Classical.choose exX0_longestFit
theorem teX0_longestFit : tX0_longestFit = uX0_longestFit := Classical.choose_spec exX0_longestFit
theorem sX0_longestFit : q_Snd mX0_longestFit tX0_longestFit := by rw [teX0_longestFit]; exact suX0_longestFit
theorem tX0_longestFit_0 : tX0_longestFit 0 = oK (.int (nI 64)) 2 := (congrFun teX0_longestFit 0).trans rfl
theorem tX0_longestFit_2 : tX0_longestFit 2 = oIs 4 4 := (congrFun teX0_longestFit 2).trans rfl
theorem tX0_longestFit_4 : tX0_longestFit 4 = oAl 0 5 := (congrFun teX0_longestFit 4).trans rfl
theorem tX0_longestFit_5 : tX0_longestFit 5 = oGet 0 8 8 := (congrFun teX0_longestFit 5).trans rfl
theorem tX0_longestFit_8 : tX0_longestFit 8 = oIf1eq 15 11 := (congrFun teX0_longestFit 8).trans rfl
theorem tX0_longestFit_11 : tX0_longestFit 11 = oIl 3 12 := (congrFun teX0_longestFit 11).trans rfl
theorem tX0_longestFit_12 : tX0_longestFit 12 = oGo 16 := (congrFun teX0_longestFit 12).trans rfl
theorem tX0_longestFit_15 : tX0_longestFit 15 = oK (.int (-1)) 16 := (congrFun teX0_longestFit 15).trans rfl
theorem tX0_longestFit_16 : tX0_longestFit 16 = oIs 5 18 := (congrFun teX0_longestFit 16).trans rfl
theorem tX0_longestFit_18 : tX0_longestFit 18 = oIl 3 19 := (congrFun teX0_longestFit 18).trans rfl
theorem tX0_longestFit_19 : tX0_longestFit 19 = oIs 6 21 := (congrFun teX0_longestFit 19).trans rfl
theorem tX0_longestFit_21 : tX0_longestFit 21 = oIl 6 23 := (congrFun teX0_longestFit 21).trans rfl
theorem tX0_longestFit_23 : tX0_longestFit 23 = oIl 2 24 := (congrFun teX0_longestFit 23).trans rfl
theorem tX0_longestFit_24 : tX0_longestFit 24 = oIf2ge 63 27 := (congrFun teX0_longestFit 24).trans rfl
theorem tX0_longestFit_27 : tX0_longestFit 27 = oAl 0 28 := (congrFun teX0_longestFit 27).trans rfl
theorem tX0_longestFit_28 : tX0_longestFit 28 = oIl 4 30 := (congrFun teX0_longestFit 28).trans rfl
theorem tX0_longestFit_30 : tX0_longestFit 30 = oIl 1 31 := (congrFun teX0_longestFit 30).trans rfl
theorem tX0_longestFit_31 : tX0_longestFit 31 = oIl 2 32 := (congrFun teX0_longestFit 31).trans rfl
theorem tX0_longestFit_32 : tX0_longestFit 32 = oIl 6 34 := (congrFun teX0_longestFit 32).trans rfl
theorem tX0_longestFit_34 : tX0_longestFit 34 = oCallS mX11_letterAt 3 37 := (congrFun teX0_longestFit 34).trans rfl
theorem tX0_longestFit_37 : tX0_longestFit 37 = oCallV 0 mX0_after 2 40 := (congrFun teX0_longestFit 37).trans rfl
theorem tX0_longestFit_40 : tX0_longestFit 40 = oIs 4 42 := (congrFun teX0_longestFit 40).trans rfl
theorem tX0_longestFit_42 : tX0_longestFit 42 = oAl 0 43 := (congrFun teX0_longestFit 42).trans rfl
theorem tX0_longestFit_43 : tX0_longestFit 43 = oIl 4 45 := (congrFun teX0_longestFit 43).trans rfl
theorem tX0_longestFit_45 : tX0_longestFit 45 = oCallV 0 mX0_endsAt 1 48 := (congrFun teX0_longestFit 45).trans rfl
theorem tX0_longestFit_48 : tX0_longestFit 48 = oIf1eq 57 51 := (congrFun teX0_longestFit 48).trans rfl
theorem tX0_longestFit_51 : tX0_longestFit 51 = oIl 6 53 := (congrFun teX0_longestFit 51).trans rfl
theorem tX0_longestFit_53 : tX0_longestFit 53 = oK (.int (nI 1)) 54 := (congrFun teX0_longestFit 53).trans rfl
theorem tX0_longestFit_54 : tX0_longestFit 54 = oAdd 55 := (congrFun teX0_longestFit 54).trans rfl
theorem tX0_longestFit_55 : tX0_longestFit 55 = oIs 5 57 := (congrFun teX0_longestFit 55).trans rfl
theorem tX0_longestFit_57 : tX0_longestFit 57 = oInc 6 (nI 1) 60 := (congrFun teX0_longestFit 57).trans rfl
theorem tX0_longestFit_60 : tX0_longestFit 60 = oGo 21 := (congrFun teX0_longestFit 60).trans rfl
theorem tX0_longestFit_63 : tX0_longestFit 63 = oIl 5 65 := (congrFun teX0_longestFit 63).trans rfl
theorem tX0_longestFit_65 : tX0_longestFit 65 = oIret := (congrFun teX0_longestFit 65).trans rfl
def lX1_init : List (Nat × qP) := [(0, oAl 0 1), (1, oObj 4), (4, oAl 0 5), (5, oNew 4 4 [.null, .null, .null, .int 0] 8), (8, oDup 9), (9, oK (.int (nI 4937)) 12), (12, oCallI mX4_init 1 15), (15, oPutR 1 0 18), (18, oAl 0 19), (19, oK (.int (nI 12)) 21), (21, oNewa 1 23), (23, oPutR 1 1 26), (26, oAl 0 27), (27, oK (.int (nI 4937)) 30), (30, oNewa 1 32), (32, oPutR 1 2 35), (35, oAl 0 36), (36, oK (.int (nI 12)) 38), (38, oNewa 1 40), (40, oPutR 1 3 43), (43, oAl 0 44), (44, oK (.int (nI 12)) 46), (46, oNewa 1 48), (48, oPutR 1 4 51), (51, oK (.int (nI 2)) 52), (52, oIs 1 53), (53, oIl 1 54), (54, oK (.int (nI 10)) 56), (56, oIf2gt 119 59), (59, oAl 0 60), (60, oGet 1 1 63), (63, oIl 1 64), (64, oAl 0 65), (65, oGet 1 0 68), (68, oCallV 4 mX4_size 0 71), (71, oIast 72), (72, oAl 0 73), (73, oIl 1 74), (74, oK (.int (nI 0)) 75), (75, oK (.int (nI 0)) 76), (76, oK (.int (nI 2)) 77), (77, oCallV 1 mX1_addLeaves 4 80), (80, oAl 0 81), (81, oIl 1 82), (82, oK (.int (nI 1)) 83), (83, oK (.int (nI 1)) 84), (84, oK (.int (nI 7)) 86), (86, oCallV 1 mX1_addLeaves 4 89), (89, oAl 0 90), (90, oIl 1 91), (91, oK (.int (nI 2)) 92), (92, oCallV 1 mX1_addPairs 2 95), (95, oAl 0 96), (96, oIl 1 97), (97, oK (.int (nI 3)) 98), (98, oCallV 1 mX1_addPairs 2 101), (101, oAl 0 102), (102, oIl 1 103), (103, oK (.int (nI 4)) 104), (104, oCallV 1 mX1_addSingles 2 107), (107, oAl 0 108), (108, oIl 1 109), (109, oK (.int (nI 5)) 110), (110, oCallV 1 mX1_addSingles 2 113), (113, oInc 1 (nI 1) 116), (116, oGo 53), (119, oAl 0 120), (120, oGet 1 1 123), (123, oK (.int (nI 11)) 125), (125, oAl 0 126), (126, oGet 1 0 129), (129, oCallV 4 mX4_size 0 132), (132, oIast 133), (133, oVret)]
def uX1_init : Nat → qP := q_tb lX1_init
set_option maxRecDepth 20000 in
theorem suX1_init : q_Snd mX1_init uX1_init := by
  refine q_tb_ok ?_
  unfold lX1_init
  refine q_fa (ok_aload_n (by decide +kernel : decode cX1_init 0 = .ok (.aload_n 0, 1)) rfl rfl) ?_
  refine q_fa (ok_obj (by decide +kernel : decode cX1_init 1 = .ok (.invokespecial 3, 3)) rfl g396 g24 g25) ?_
  refine q_fa (ok_aload_n (by decide +kernel : decode cX1_init 4 = .ok (.aload_n 0, 1)) rfl rfl) ?_
  refine q_fa (ok_new tyX4 (by decide +kernel : decode cX1_init 5 = .ok (.new 9, 3)) rfl (rfl : vwCl[4]? = some (RX4, TX4, 4)) inX4 tyX4_ok g397 g35 g3 (by decide +kernel)) ?_
  refine q_fa (ok_dup (by decide +kernel : decode cX1_init 8 = .ok (.dup, 1)) rfl) ?_
  refine q_fa (ok_sipush (by decide +kernel : decode cX1_init 9 = .ok (.sipush 4937, 3)) rfl (by decide +kernel)) ?_
  refine q_fa (ok_callI (by decide +kernel : decode cX1_init 12 = .ok (.invokespecial 11, 3)) rfl kX4_init.1 kX4_init.2.1 kX4_init.2.2.1 kX4_init.2.2.2.1 kX4_init.2.2.2.2 rfl rfl g37 g398) ?_
  refine q_fa (ok_putR tyX1 (by decide +kernel : decode cX1_init 15 = .ok (.putfield 14, 3)) rfl (rfl : vwCl[1]? = some (RX1, TX1, 5)) inX1 tyX1_ok nmX1 (by decide) g431 (Or.inr ⟨rfl, rfl, rfl⟩) (by decide +kernel : parseFieldDescriptor (TX1 0).2.2.1 = some (tyX1 0)) (q_rfO _)) ?_
  refine q_fa (ok_aload_n (by decide +kernel : decode cX1_init 18 = .ok (.aload_n 0, 1)) rfl rfl) ?_
  refine q_fa (ok_bipush (by decide +kernel : decode cX1_init 19 = .ok (.bipush 12, 2)) rfl (by decide +kernel)) ?_
  refine q_fa (ok_newa_int (by decide +kernel : decode cX1_init 21 = .ok (.newarray .int, 2)) rfl g56) ?_
  refine q_fa (ok_putR tyX1 (by decide +kernel : decode cX1_init 23 = .ok (.putfield 20, 3)) rfl (rfl : vwCl[1]? = some (RX1, TX1, 5)) inX1 tyX1_ok nmX1 (by decide) g432 (Or.inr ⟨rfl, rfl, rfl⟩) (by decide +kernel : parseFieldDescriptor (TX1 1).2.2.1 = some (tyX1 1)) (q_rfA _)) ?_
  refine q_fa (ok_aload_n (by decide +kernel : decode cX1_init 26 = .ok (.aload_n 0, 1)) rfl rfl) ?_
  refine q_fa (ok_sipush (by decide +kernel : decode cX1_init 27 = .ok (.sipush 4937, 3)) rfl (by decide +kernel)) ?_
  refine q_fa (ok_newa_int (by decide +kernel : decode cX1_init 30 = .ok (.newarray .int, 2)) rfl g56) ?_
  refine q_fa (ok_putR tyX1 (by decide +kernel : decode cX1_init 32 = .ok (.putfield 24, 3)) rfl (rfl : vwCl[1]? = some (RX1, TX1, 5)) inX1 tyX1_ok nmX1 (by decide) g433 (Or.inr ⟨rfl, rfl, rfl⟩) (by decide +kernel : parseFieldDescriptor (TX1 2).2.2.1 = some (tyX1 2)) (q_rfA _)) ?_
  refine q_fa (ok_aload_n (by decide +kernel : decode cX1_init 35 = .ok (.aload_n 0, 1)) rfl rfl) ?_
  refine q_fa (ok_bipush (by decide +kernel : decode cX1_init 36 = .ok (.bipush 12, 2)) rfl (by decide +kernel)) ?_
  refine q_fa (ok_newa_int (by decide +kernel : decode cX1_init 38 = .ok (.newarray .int, 2)) rfl g56) ?_
  refine q_fa (ok_putR tyX1 (by decide +kernel : decode cX1_init 40 = .ok (.putfield 27, 3)) rfl (rfl : vwCl[1]? = some (RX1, TX1, 5)) inX1 tyX1_ok nmX1 (by decide) g434 (Or.inr ⟨rfl, rfl, rfl⟩) (by decide +kernel : parseFieldDescriptor (TX1 3).2.2.1 = some (tyX1 3)) (q_rfA _)) ?_
  refine q_fa (ok_aload_n (by decide +kernel : decode cX1_init 43 = .ok (.aload_n 0, 1)) rfl rfl) ?_
  refine q_fa (ok_bipush (by decide +kernel : decode cX1_init 44 = .ok (.bipush 12, 2)) rfl (by decide +kernel)) ?_
  refine q_fa (ok_newa_int (by decide +kernel : decode cX1_init 46 = .ok (.newarray .int, 2)) rfl g56) ?_
  refine q_fa (ok_putR tyX1 (by decide +kernel : decode cX1_init 48 = .ok (.putfield 30, 3)) rfl (rfl : vwCl[1]? = some (RX1, TX1, 5)) inX1 tyX1_ok nmX1 (by decide) g435 (Or.inr ⟨rfl, rfl, rfl⟩) (by decide +kernel : parseFieldDescriptor (TX1 4).2.2.1 = some (tyX1 4)) (q_rfA _)) ?_
  refine q_fa (ok_iconst (by decide +kernel : decode cX1_init 51 = .ok (.iconst 2, 1)) rfl (by decide +kernel)) ?_
  refine q_fa (ok_istore_n (by decide +kernel : decode cX1_init 52 = .ok (.istore_n 1, 1)) rfl rfl (by decide)) ?_
  refine q_fa (ok_iload_n (by decide +kernel : decode cX1_init 53 = .ok (.iload_n 1, 1)) rfl rfl) ?_
  refine q_fa (ok_bipush (by decide +kernel : decode cX1_init 54 = .ok (.bipush 10, 2)) rfl (by decide +kernel)) ?_
  refine q_fa (ok_if2gt (by decide +kernel : decode cX1_init 56 = .ok (.if_icmp .gt 63, 3)) (by decide) rfl) ?_
  refine q_fa (ok_aload_n (by decide +kernel : decode cX1_init 59 = .ok (.aload_n 0, 1)) rfl rfl) ?_
  refine q_fa (ok_get (by decide +kernel : decode cX1_init 60 = .ok (.getfield 20, 3)) rfl (rfl : vwCl[1]? = some (RX1, TX1, 5)) inX1 (by decide) g432) ?_
  refine q_fa (ok_iload_n (by decide +kernel : decode cX1_init 63 = .ok (.iload_n 1, 1)) rfl rfl) ?_
  refine q_fa (ok_aload_n (by decide +kernel : decode cX1_init 64 = .ok (.aload_n 0, 1)) rfl rfl) ?_
  refine q_fa (ok_get (by decide +kernel : decode cX1_init 65 = .ok (.getfield 14, 3)) rfl (rfl : vwCl[1]? = some (RX1, TX1, 5)) inX1 (by decide) g431) ?_
  refine q_fa (ok_callV (by decide +kernel : decode cX1_init 68 = .ok (.invokevirtual 33, 3)) rfl kX4_size.1 kX4_size.2.1 kX4_size.2.2.1 kX4_size.2.2.2.1 kX4_size.2.2.2.2 (rfl : vwCl[4]? = some (RX4, TX4, 4)) g307 g308 g399) ?_
  refine q_fa (ok_iastore (by decide +kernel : decode cX1_init 71 = .ok (.iastore, 1)) rfl) ?_
  refine q_fa (ok_aload_n (by decide +kernel : decode cX1_init 72 = .ok (.aload_n 0, 1)) rfl rfl) ?_
  refine q_fa (ok_iload_n (by decide +kernel : decode cX1_init 73 = .ok (.iload_n 1, 1)) rfl rfl) ?_
  refine q_fa (ok_iconst (by decide +kernel : decode cX1_init 74 = .ok (.iconst 0, 1)) rfl (by decide +kernel)) ?_
  refine q_fa (ok_iconst (by decide +kernel : decode cX1_init 75 = .ok (.iconst 0, 1)) rfl (by decide +kernel)) ?_
  refine q_fa (ok_iconst (by decide +kernel : decode cX1_init 76 = .ok (.iconst 2, 1)) rfl (by decide +kernel)) ?_
  refine q_fa (ok_callV (by decide +kernel : decode cX1_init 77 = .ok (.invokevirtual 37, 3)) rfl kX1_addLeaves.1 kX1_addLeaves.2.1 kX1_addLeaves.2.2.1 kX1_addLeaves.2.2.2.1 kX1_addLeaves.2.2.2.2 (rfl : vwCl[1]? = some (RX1, TX1, 5)) g402 gs15 g400) ?_
  refine q_fa (ok_aload_n (by decide +kernel : decode cX1_init 80 = .ok (.aload_n 0, 1)) rfl rfl) ?_
  refine q_fa (ok_iload_n (by decide +kernel : decode cX1_init 81 = .ok (.iload_n 1, 1)) rfl rfl) ?_
  refine q_fa (ok_iconst (by decide +kernel : decode cX1_init 82 = .ok (.iconst 1, 1)) rfl (by decide +kernel)) ?_
  refine q_fa (ok_iconst (by decide +kernel : decode cX1_init 83 = .ok (.iconst 1, 1)) rfl (by decide +kernel)) ?_
  refine q_fa (ok_bipush (by decide +kernel : decode cX1_init 84 = .ok (.bipush 7, 2)) rfl (by decide +kernel)) ?_
  refine q_fa (ok_callV (by decide +kernel : decode cX1_init 86 = .ok (.invokevirtual 37, 3)) rfl kX1_addLeaves.1 kX1_addLeaves.2.1 kX1_addLeaves.2.2.1 kX1_addLeaves.2.2.2.1 kX1_addLeaves.2.2.2.2 (rfl : vwCl[1]? = some (RX1, TX1, 5)) g402 gs15 g400) ?_
  refine q_fa (ok_aload_n (by decide +kernel : decode cX1_init 89 = .ok (.aload_n 0, 1)) rfl rfl) ?_
  refine q_fa (ok_iload_n (by decide +kernel : decode cX1_init 90 = .ok (.iload_n 1, 1)) rfl rfl) ?_
  refine q_fa (ok_iconst (by decide +kernel : decode cX1_init 91 = .ok (.iconst 2, 1)) rfl (by decide +kernel)) ?_
  refine q_fa (ok_callV (by decide +kernel : decode cX1_init 92 = .ok (.invokevirtual 41, 3)) rfl kX1_addPairs.1 kX1_addPairs.2.1 kX1_addPairs.2.2.1 kX1_addPairs.2.2.2.1 kX1_addPairs.2.2.2.2 (rfl : vwCl[1]? = some (RX1, TX1, 5)) g412 gs17 g410) ?_
  refine q_fa (ok_aload_n (by decide +kernel : decode cX1_init 95 = .ok (.aload_n 0, 1)) rfl rfl) ?_
  refine q_fa (ok_iload_n (by decide +kernel : decode cX1_init 96 = .ok (.iload_n 1, 1)) rfl rfl) ?_
  refine q_fa (ok_iconst (by decide +kernel : decode cX1_init 97 = .ok (.iconst 3, 1)) rfl (by decide +kernel)) ?_
  refine q_fa (ok_callV (by decide +kernel : decode cX1_init 98 = .ok (.invokevirtual 41, 3)) rfl kX1_addPairs.1 kX1_addPairs.2.1 kX1_addPairs.2.2.1 kX1_addPairs.2.2.2.1 kX1_addPairs.2.2.2.2 (rfl : vwCl[1]? = some (RX1, TX1, 5)) g412 gs17 g410) ?_
  refine q_fa (ok_aload_n (by decide +kernel : decode cX1_init 101 = .ok (.aload_n 0, 1)) rfl rfl) ?_
  refine q_fa (ok_iload_n (by decide +kernel : decode cX1_init 102 = .ok (.iload_n 1, 1)) rfl rfl) ?_
  refine q_fa (ok_iconst (by decide +kernel : decode cX1_init 103 = .ok (.iconst 4, 1)) rfl (by decide +kernel)) ?_
  refine q_fa (ok_callV (by decide +kernel : decode cX1_init 104 = .ok (.invokevirtual 45, 3)) rfl kX1_addSingles.1 kX1_addSingles.2.1 kX1_addSingles.2.2.1 kX1_addSingles.2.2.2.1 kX1_addSingles.2.2.2.2 (rfl : vwCl[1]? = some (RX1, TX1, 5)) g429 gs18 g427) ?_
  refine q_fa (ok_aload_n (by decide +kernel : decode cX1_init 107 = .ok (.aload_n 0, 1)) rfl rfl) ?_
  refine q_fa (ok_iload_n (by decide +kernel : decode cX1_init 108 = .ok (.iload_n 1, 1)) rfl rfl) ?_
  refine q_fa (ok_iconst (by decide +kernel : decode cX1_init 109 = .ok (.iconst 5, 1)) rfl (by decide +kernel)) ?_
  refine q_fa (ok_callV (by decide +kernel : decode cX1_init 110 = .ok (.invokevirtual 45, 3)) rfl kX1_addSingles.1 kX1_addSingles.2.1 kX1_addSingles.2.2.1 kX1_addSingles.2.2.2.1 kX1_addSingles.2.2.2.2 (rfl : vwCl[1]? = some (RX1, TX1, 5)) g429 gs18 g427) ?_
  refine q_fa (ok_iinc (by decide +kernel : decode cX1_init 113 = .ok (.iinc 1 1, 3)) rfl (by decide +kernel) (by decide)) ?_
  refine q_fa (ok_goto (by decide +kernel : decode cX1_init 116 = .ok (.goto (-63), 3)) (by decide)) ?_
  refine q_fa (ok_aload_n (by decide +kernel : decode cX1_init 119 = .ok (.aload_n 0, 1)) rfl rfl) ?_
  refine q_fa (ok_get (by decide +kernel : decode cX1_init 120 = .ok (.getfield 20, 3)) rfl (rfl : vwCl[1]? = some (RX1, TX1, 5)) inX1 (by decide) g432) ?_
  refine q_fa (ok_bipush (by decide +kernel : decode cX1_init 123 = .ok (.bipush 11, 2)) rfl (by decide +kernel)) ?_
  refine q_fa (ok_aload_n (by decide +kernel : decode cX1_init 125 = .ok (.aload_n 0, 1)) rfl rfl) ?_
  refine q_fa (ok_get (by decide +kernel : decode cX1_init 126 = .ok (.getfield 14, 3)) rfl (rfl : vwCl[1]? = some (RX1, TX1, 5)) inX1 (by decide) g431) ?_
  refine q_fa (ok_callV (by decide +kernel : decode cX1_init 129 = .ok (.invokevirtual 33, 3)) rfl kX4_size.1 kX4_size.2.1 kX4_size.2.2.1 kX4_size.2.2.2.1 kX4_size.2.2.2.2 (rfl : vwCl[4]? = some (RX4, TX4, 4)) g307 g308 g399) ?_
  refine q_fa (ok_iastore (by decide +kernel : decode cX1_init 132 = .ok (.iastore, 1)) rfl) ?_
  refine q_fa (ok_vret (by decide +kernel : decode cX1_init 133 = .ok (.return_, 1)) rfl) ?_
  exact q_fa0
theorem exX1_init : ∃ t : Nat → qP, t = uX1_init := ⟨_, rfl⟩
noncomputable def tX1_init : Nat → qP := Classical.choose exX1_init
theorem teX1_init : tX1_init = uX1_init := Classical.choose_spec exX1_init
theorem sX1_init : q_Snd mX1_init tX1_init := by rw [teX1_init]; exact suX1_init
theorem tX1_init_0 : tX1_init 0 = oAl 0 1 := (congrFun teX1_init 0).trans rfl
theorem tX1_init_1 : tX1_init 1 = oObj 4 := (congrFun teX1_init 1).trans rfl
theorem tX1_init_4 : tX1_init 4 = oAl 0 5 := (congrFun teX1_init 4).trans rfl
theorem tX1_init_5 : tX1_init 5 = oNew 4 4 [.null, .null, .null, .int 0] 8 := (congrFun teX1_init 5).trans rfl
theorem tX1_init_8 : tX1_init 8 = oDup 9 := (congrFun teX1_init 8).trans rfl
theorem tX1_init_9 : tX1_init 9 = oK (.int (nI 4937)) 12 := (congrFun teX1_init 9).trans rfl
theorem tX1_init_12 : tX1_init 12 = oCallI mX4_init 1 15 := (congrFun teX1_init 12).trans rfl
theorem tX1_init_15 : tX1_init 15 = oPutR 1 0 18 := (congrFun teX1_init 15).trans rfl
theorem tX1_init_18 : tX1_init 18 = oAl 0 19 := (congrFun teX1_init 18).trans rfl
theorem tX1_init_19 : tX1_init 19 = oK (.int (nI 12)) 21 := (congrFun teX1_init 19).trans rfl
theorem tX1_init_21 : tX1_init 21 = oNewa 1 23 := (congrFun teX1_init 21).trans rfl
theorem tX1_init_23 : tX1_init 23 = oPutR 1 1 26 := (congrFun teX1_init 23).trans rfl
theorem tX1_init_26 : tX1_init 26 = oAl 0 27 := (congrFun teX1_init 26).trans rfl
theorem tX1_init_27 : tX1_init 27 = oK (.int (nI 4937)) 30 := (congrFun teX1_init 27).trans rfl
theorem tX1_init_30 : tX1_init 30 = oNewa 1 32 := (congrFun teX1_init 30).trans rfl
theorem tX1_init_32 : tX1_init 32 = oPutR 1 2 35 := (congrFun teX1_init 32).trans rfl
theorem tX1_init_35 : tX1_init 35 = oAl 0 36 := (congrFun teX1_init 35).trans rfl
theorem tX1_init_36 : tX1_init 36 = oK (.int (nI 12)) 38 := (congrFun teX1_init 36).trans rfl
theorem tX1_init_38 : tX1_init 38 = oNewa 1 40 := (congrFun teX1_init 38).trans rfl
theorem tX1_init_40 : tX1_init 40 = oPutR 1 3 43 := (congrFun teX1_init 40).trans rfl
theorem tX1_init_43 : tX1_init 43 = oAl 0 44 := (congrFun teX1_init 43).trans rfl
theorem tX1_init_44 : tX1_init 44 = oK (.int (nI 12)) 46 := (congrFun teX1_init 44).trans rfl
theorem tX1_init_46 : tX1_init 46 = oNewa 1 48 := (congrFun teX1_init 46).trans rfl
theorem tX1_init_48 : tX1_init 48 = oPutR 1 4 51 := (congrFun teX1_init 48).trans rfl
theorem tX1_init_51 : tX1_init 51 = oK (.int (nI 2)) 52 := (congrFun teX1_init 51).trans rfl
theorem tX1_init_52 : tX1_init 52 = oIs 1 53 := (congrFun teX1_init 52).trans rfl
theorem tX1_init_53 : tX1_init 53 = oIl 1 54 := (congrFun teX1_init 53).trans rfl
theorem tX1_init_54 : tX1_init 54 = oK (.int (nI 10)) 56 := (congrFun teX1_init 54).trans rfl
theorem tX1_init_56 : tX1_init 56 = oIf2gt 119 59 := (congrFun teX1_init 56).trans rfl
theorem tX1_init_59 : tX1_init 59 = oAl 0 60 := (congrFun teX1_init 59).trans rfl
theorem tX1_init_60 : tX1_init 60 = oGet 1 1 63 := (congrFun teX1_init 60).trans rfl
theorem tX1_init_63 : tX1_init 63 = oIl 1 64 := (congrFun teX1_init 63).trans rfl
theorem tX1_init_64 : tX1_init 64 = oAl 0 65 := (congrFun teX1_init 64).trans rfl
theorem tX1_init_65 : tX1_init 65 = oGet 1 0 68 := (congrFun teX1_init 65).trans rfl
theorem tX1_init_68 : tX1_init 68 = oCallV 4 mX4_size 0 71 := (congrFun teX1_init 68).trans rfl
theorem tX1_init_71 : tX1_init 71 = oIast 72 := (congrFun teX1_init 71).trans rfl
theorem tX1_init_72 : tX1_init 72 = oAl 0 73 := (congrFun teX1_init 72).trans rfl
theorem tX1_init_73 : tX1_init 73 = oIl 1 74 := (congrFun teX1_init 73).trans rfl
theorem tX1_init_74 : tX1_init 74 = oK (.int (nI 0)) 75 := (congrFun teX1_init 74).trans rfl
theorem tX1_init_75 : tX1_init 75 = oK (.int (nI 0)) 76 := (congrFun teX1_init 75).trans rfl
theorem tX1_init_76 : tX1_init 76 = oK (.int (nI 2)) 77 := (congrFun teX1_init 76).trans rfl
theorem tX1_init_77 : tX1_init 77 = oCallV 1 mX1_addLeaves 4 80 := (congrFun teX1_init 77).trans rfl
theorem tX1_init_80 : tX1_init 80 = oAl 0 81 := (congrFun teX1_init 80).trans rfl
theorem tX1_init_81 : tX1_init 81 = oIl 1 82 := (congrFun teX1_init 81).trans rfl
theorem tX1_init_82 : tX1_init 82 = oK (.int (nI 1)) 83 := (congrFun teX1_init 82).trans rfl
theorem tX1_init_83 : tX1_init 83 = oK (.int (nI 1)) 84 := (congrFun teX1_init 83).trans rfl
theorem tX1_init_84 : tX1_init 84 = oK (.int (nI 7)) 86 := (congrFun teX1_init 84).trans rfl
theorem tX1_init_86 : tX1_init 86 = oCallV 1 mX1_addLeaves 4 89 := (congrFun teX1_init 86).trans rfl
theorem tX1_init_89 : tX1_init 89 = oAl 0 90 := (congrFun teX1_init 89).trans rfl
theorem tX1_init_90 : tX1_init 90 = oIl 1 91 := (congrFun teX1_init 90).trans rfl
theorem tX1_init_91 : tX1_init 91 = oK (.int (nI 2)) 92 := (congrFun teX1_init 91).trans rfl
theorem tX1_init_92 : tX1_init 92 = oCallV 1 mX1_addPairs 2 95 := (congrFun teX1_init 92).trans rfl
theorem tX1_init_95 : tX1_init 95 = oAl 0 96 := (congrFun teX1_init 95).trans rfl
theorem tX1_init_96 : tX1_init 96 = oIl 1 97 := (congrFun teX1_init 96).trans rfl
theorem tX1_init_97 : tX1_init 97 = oK (.int (nI 3)) 98 := (congrFun teX1_init 97).trans rfl
theorem tX1_init_98 : tX1_init 98 = oCallV 1 mX1_addPairs 2 101 := (congrFun teX1_init 98).trans rfl
theorem tX1_init_101 : tX1_init 101 = oAl 0 102 := (congrFun teX1_init 101).trans rfl
theorem tX1_init_102 : tX1_init 102 = oIl 1 103 := (congrFun teX1_init 102).trans rfl
theorem tX1_init_103 : tX1_init 103 = oK (.int (nI 4)) 104 := (congrFun teX1_init 103).trans rfl
theorem tX1_init_104 : tX1_init 104 = oCallV 1 mX1_addSingles 2 107 := (congrFun teX1_init 104).trans rfl
theorem tX1_init_107 : tX1_init 107 = oAl 0 108 := (congrFun teX1_init 107).trans rfl
theorem tX1_init_108 : tX1_init 108 = oIl 1 109 := (congrFun teX1_init 108).trans rfl
theorem tX1_init_109 : tX1_init 109 = oK (.int (nI 5)) 110 := (congrFun teX1_init 109).trans rfl
theorem tX1_init_110 : tX1_init 110 = oCallV 1 mX1_addSingles 2 113 := (congrFun teX1_init 110).trans rfl
theorem tX1_init_113 : tX1_init 113 = oInc 1 (nI 1) 116 := (congrFun teX1_init 113).trans rfl
theorem tX1_init_116 : tX1_init 116 = oGo 53 := (congrFun teX1_init 116).trans rfl
theorem tX1_init_119 : tX1_init 119 = oAl 0 120 := (congrFun teX1_init 119).trans rfl
theorem tX1_init_120 : tX1_init 120 = oGet 1 1 123 := (congrFun teX1_init 120).trans rfl
theorem tX1_init_123 : tX1_init 123 = oK (.int (nI 11)) 125 := (congrFun teX1_init 123).trans rfl
theorem tX1_init_125 : tX1_init 125 = oAl 0 126 := (congrFun teX1_init 125).trans rfl
theorem tX1_init_126 : tX1_init 126 = oGet 1 0 129 := (congrFun teX1_init 126).trans rfl
theorem tX1_init_129 : tX1_init 129 = oCallV 4 mX4_size 0 132 := (congrFun teX1_init 129).trans rfl
theorem tX1_init_132 : tX1_init 132 = oIast 133 := (congrFun teX1_init 132).trans rfl
theorem tX1_init_133 : tX1_init 133 = oVret := (congrFun teX1_init 133).trans rfl
def lX1_nodes : List (Nat × qP) := [(0, oAl 0 1), (1, oGet 1 0 4), (4, oAret)]
def uX1_nodes : Nat → qP := q_tb lX1_nodes
set_option maxRecDepth 20000 in
theorem suX1_nodes : q_Snd mX1_nodes uX1_nodes := by
  refine q_tb_ok ?_
  unfold lX1_nodes
  refine q_fa (ok_aload_n (by decide +kernel : decode cX1_nodes 0 = .ok (.aload_n 0, 1)) rfl rfl) ?_
  refine q_fa (ok_get (by decide +kernel : decode cX1_nodes 1 = .ok (.getfield 14, 3)) rfl (rfl : vwCl[1]? = some (RX1, TX1, 5)) inX1 (by decide) g431) ?_
  refine q_fa (ok_aret (by decide +kernel : decode cX1_nodes 4 = .ok (.areturn, 1)) rfl) ?_
  exact q_fa0
theorem exX1_nodes : ∃ t : Nat → qP, t = uX1_nodes := ⟨_, rfl⟩
noncomputable def tX1_nodes : Nat → qP := Classical.choose exX1_nodes
theorem teX1_nodes : tX1_nodes = uX1_nodes := Classical.choose_spec exX1_nodes
theorem sX1_nodes : q_Snd mX1_nodes tX1_nodes := by rw [teX1_nodes]; exact suX1_nodes
theorem tX1_nodes_0 : tX1_nodes 0 = oAl 0 1 := (congrFun teX1_nodes 0).trans rfl
theorem tX1_nodes_1 : tX1_nodes 1 = oGet 1 0 4 := (congrFun teX1_nodes 1).trans rfl
theorem tX1_nodes_4 : tX1_nodes 4 = oAret := (congrFun teX1_nodes 4).trans rfl
def lX1_begin : List (Nat × qP) := [(0, oIl 1 1), (1, oIf1lt 22 4), (4, oIl 1 5), (5, oAl 0 6), (6, oGet 1 1 9), (9, oAlen 10), (10, oIf2ge 22 13), (13, oAl 0 14), (14, oGet 1 1 17), (17, oIl 1 18), (18, oIald 19), (19, oGo 23), (22, oK (.int (nI 0)) 23), (23, oIret)]
def uX1_begin : Nat → qP := q_tb lX1_begin
set_option maxRecDepth 20000 in
theorem suX1_begin : q_Snd mX1_begin uX1_begin := by
  refine q_tb_ok ?_
  unfold lX1_begin
  refine q_fa (ok_iload_n (by decide +kernel : decode cX1_begin 0 = .ok (.iload_n 1, 1)) rfl rfl) ?_
  refine q_fa (ok_if1lt (by decide +kernel : decode cX1_begin 1 = .ok (.ifCond .lt 21, 3)) (by decide) rfl) ?_
  refine q_fa (ok_iload_n (by decide +kernel : decode cX1_begin 4 = .ok (.iload_n 1, 1)) rfl rfl) ?_
  refine q_fa (ok_aload_n (by decide +kernel : decode cX1_begin 5 = .ok (.aload_n 0, 1)) rfl rfl) ?_
  refine q_fa (ok_get (by decide +kernel : decode cX1_begin 6 = .ok (.getfield 20, 3)) rfl (rfl : vwCl[1]? = some (RX1, TX1, 5)) inX1 (by decide) g432) ?_
  refine q_fa (ok_alen (by decide +kernel : decode cX1_begin 9 = .ok (.arraylength, 1)) rfl) ?_
  refine q_fa (ok_if2ge (by decide +kernel : decode cX1_begin 10 = .ok (.if_icmp .ge 12, 3)) (by decide) rfl) ?_
  refine q_fa (ok_aload_n (by decide +kernel : decode cX1_begin 13 = .ok (.aload_n 0, 1)) rfl rfl) ?_
  refine q_fa (ok_get (by decide +kernel : decode cX1_begin 14 = .ok (.getfield 20, 3)) rfl (rfl : vwCl[1]? = some (RX1, TX1, 5)) inX1 (by decide) g432) ?_
  refine q_fa (ok_iload_n (by decide +kernel : decode cX1_begin 17 = .ok (.iload_n 1, 1)) rfl rfl) ?_
  refine q_fa (ok_iaload (by decide +kernel : decode cX1_begin 18 = .ok (.iaload, 1)) rfl) ?_
  refine q_fa (ok_goto (by decide +kernel : decode cX1_begin 19 = .ok (.goto 4, 3)) (by decide)) ?_
  refine q_fa (ok_iconst (by decide +kernel : decode cX1_begin 22 = .ok (.iconst 0, 1)) rfl (by decide +kernel)) ?_
  refine q_fa (ok_iret (by decide +kernel : decode cX1_begin 23 = .ok (.ireturn, 1)) rfl) ?_
  exact q_fa0
theorem exX1_begin : ∃ t : Nat → qP, t = uX1_begin := ⟨_, rfl⟩
noncomputable def tX1_begin : Nat → qP := Classical.choose exX1_begin
theorem teX1_begin : tX1_begin = uX1_begin := Classical.choose_spec exX1_begin
theorem sX1_begin : q_Snd mX1_begin tX1_begin := by rw [teX1_begin]; exact suX1_begin
theorem tX1_begin_0 : tX1_begin 0 = oIl 1 1 := (congrFun teX1_begin 0).trans rfl
theorem tX1_begin_1 : tX1_begin 1 = oIf1lt 22 4 := (congrFun teX1_begin 1).trans rfl
theorem tX1_begin_4 : tX1_begin 4 = oIl 1 5 := (congrFun teX1_begin 4).trans rfl
theorem tX1_begin_5 : tX1_begin 5 = oAl 0 6 := (congrFun teX1_begin 5).trans rfl
theorem tX1_begin_6 : tX1_begin 6 = oGet 1 1 9 := (congrFun teX1_begin 6).trans rfl
theorem tX1_begin_9 : tX1_begin 9 = oAlen 10 := (congrFun teX1_begin 9).trans rfl
theorem tX1_begin_10 : tX1_begin 10 = oIf2ge 22 13 := (congrFun teX1_begin 10).trans rfl
theorem tX1_begin_13 : tX1_begin 13 = oAl 0 14 := (congrFun teX1_begin 13).trans rfl
theorem tX1_begin_14 : tX1_begin 14 = oGet 1 1 17 := (congrFun teX1_begin 14).trans rfl
theorem tX1_begin_17 : tX1_begin 17 = oIl 1 18 := (congrFun teX1_begin 17).trans rfl
theorem tX1_begin_18 : tX1_begin 18 = oIald 19 := (congrFun teX1_begin 18).trans rfl
theorem tX1_begin_19 : tX1_begin 19 = oGo 23 := (congrFun teX1_begin 19).trans rfl
theorem tX1_begin_22 : tX1_begin 22 = oK (.int (nI 0)) 23 := (congrFun teX1_begin 22).trans rfl
theorem tX1_begin_23 : tX1_begin 23 = oIret := (congrFun teX1_begin 23).trans rfl
def lX1_end : List (Nat × qP) := [(0, oAl 0 1), (1, oIl 1 2), (2, oK (.int (nI 1)) 3), (3, oAdd 4), (4, oCallV 1 mX1_begin 1 7), (7, oIret)]
def uX1_end : Nat → qP := q_tb lX1_end
set_option maxRecDepth 20000 in
theorem suX1_end : q_Snd mX1_end uX1_end := by
  refine q_tb_ok ?_
  unfold lX1_end
  refine q_fa (ok_aload_n (by decide +kernel : decode cX1_end 0 = .ok (.aload_n 0, 1)) rfl rfl) ?_
  refine q_fa (ok_iload_n (by decide +kernel : decode cX1_end 1 = .ok (.iload_n 1, 1)) rfl rfl) ?_
  refine q_fa (ok_iconst (by decide +kernel : decode cX1_end 2 = .ok (.iconst 1, 1)) rfl (by decide +kernel)) ?_
  refine q_fa (ok_iadd (by decide +kernel : decode cX1_end 3 = .ok (.iadd, 1)) rfl) ?_
  refine q_fa (ok_callV (by decide +kernel : decode cX1_end 4 = .ok (.invokevirtual 48, 3)) rfl kX1_begin.1 kX1_begin.2.1 kX1_begin.2.2.1 kX1_begin.2.2.2.1 kX1_begin.2.2.2.2 (rfl : vwCl[1]? = some (RX1, TX1, 5)) g415 g416 g414) ?_
  refine q_fa (ok_iret (by decide +kernel : decode cX1_end 7 = .ok (.ireturn, 1)) rfl) ?_
  exact q_fa0
theorem exX1_end : ∃ t : Nat → qP, t = uX1_end := ⟨_, rfl⟩
noncomputable def tX1_end : Nat → qP := Classical.choose exX1_end
theorem teX1_end : tX1_end = uX1_end := Classical.choose_spec exX1_end
theorem sX1_end : q_Snd mX1_end tX1_end := by rw [teX1_end]; exact suX1_end
theorem tX1_end_0 : tX1_end 0 = oAl 0 1 := (congrFun teX1_end 0).trans rfl
theorem tX1_end_1 : tX1_end 1 = oIl 1 2 := (congrFun teX1_end 1).trans rfl
theorem tX1_end_2 : tX1_end 2 = oK (.int (nI 1)) 3 := (congrFun teX1_end 2).trans rfl
theorem tX1_end_3 : tX1_end 3 = oAdd 4 := (congrFun teX1_end 3).trans rfl
theorem tX1_end_4 : tX1_end 4 = oCallV 1 mX1_begin 1 7 := (congrFun teX1_end 4).trans rfl
theorem tX1_end_7 : tX1_end 7 = oIret := (congrFun teX1_end 7).trans rfl
def lX1_size : List (Nat × qP) := [(0, oAl 0 1), (1, oIl 1 2), (2, oCallV 1 mX1_end 1 5), (5, oAl 0 6), (6, oIl 1 7), (7, oCallV 1 mX1_begin 1 10), (10, oSub 11), (11, oIret)]
def uX1_size : Nat → qP := q_tb lX1_size
set_option maxRecDepth 20000 in
theorem suX1_size : q_Snd mX1_size uX1_size := by
  refine q_tb_ok ?_
  unfold lX1_size
  refine q_fa (ok_aload_n (by decide +kernel : decode cX1_size 0 = .ok (.aload_n 0, 1)) rfl rfl) ?_
  refine q_fa (ok_iload_n (by decide +kernel : decode cX1_size 1 = .ok (.iload_n 1, 1)) rfl rfl) ?_
  refine q_fa (ok_callV (by decide +kernel : decode cX1_size 2 = .ok (.invokevirtual 52, 3)) rfl kX1_end.1 kX1_end.2.1 kX1_end.2.2.1 kX1_end.2.2.2.1 kX1_end.2.2.2.2 (rfl : vwCl[1]? = some (RX1, TX1, 5)) g419 g420 g418) ?_
  refine q_fa (ok_aload_n (by decide +kernel : decode cX1_size 5 = .ok (.aload_n 0, 1)) rfl rfl) ?_
  refine q_fa (ok_iload_n (by decide +kernel : decode cX1_size 6 = .ok (.iload_n 1, 1)) rfl rfl) ?_
  refine q_fa (ok_callV (by decide +kernel : decode cX1_size 7 = .ok (.invokevirtual 48, 3)) rfl kX1_begin.1 kX1_begin.2.1 kX1_begin.2.2.1 kX1_begin.2.2.2.1 kX1_begin.2.2.2.2 (rfl : vwCl[1]? = some (RX1, TX1, 5)) g415 g416 g414) ?_
  refine q_fa (ok_isub (by decide +kernel : decode cX1_size 10 = .ok (.isub, 1)) rfl) ?_
  refine q_fa (ok_iret (by decide +kernel : decode cX1_size 11 = .ok (.ireturn, 1)) rfl) ?_
  exact q_fa0
theorem exX1_size : ∃ t : Nat → qP, t = uX1_size := ⟨_, rfl⟩
noncomputable def tX1_size : Nat → qP := Classical.choose exX1_size
theorem teX1_size : tX1_size = uX1_size := Classical.choose_spec exX1_size
theorem sX1_size : q_Snd mX1_size tX1_size := by rw [teX1_size]; exact suX1_size
theorem tX1_size_0 : tX1_size 0 = oAl 0 1 := (congrFun teX1_size 0).trans rfl
theorem tX1_size_1 : tX1_size 1 = oIl 1 2 := (congrFun teX1_size 1).trans rfl
theorem tX1_size_2 : tX1_size 2 = oCallV 1 mX1_end 1 5 := (congrFun teX1_size 2).trans rfl
theorem tX1_size_5 : tX1_size 5 = oAl 0 6 := (congrFun teX1_size 5).trans rfl
theorem tX1_size_6 : tX1_size 6 = oIl 1 7 := (congrFun teX1_size 6).trans rfl
theorem tX1_size_7 : tX1_size 7 = oCallV 1 mX1_begin 1 10 := (congrFun teX1_size 7).trans rfl
theorem tX1_size_10 : tX1_size 10 = oSub 11 := (congrFun teX1_size 10).trans rfl
theorem tX1_size_11 : tX1_size 11 = oIret := (congrFun teX1_size 11).trans rfl
def lX1_kindsOf : List (Nat × qP) := [(0, oIl 1 1), (1, oIf1lt 22 4), (4, oIl 1 5), (5, oAl 0 6), (6, oGet 1 2 9), (9, oAlen 10), (10, oIf2ge 22 13), (13, oAl 0 14), (14, oGet 1 2 17), (17, oIl 1 18), (18, oIald 19), (19, oGo 23), (22, oK (.int (nI 0)) 23), (23, oIret)]
def uX1_kindsOf : Nat → qP := q_tb lX1_kindsOf
set_option maxRecDepth 20000 in
theorem suX1_kindsOf : q_Snd mX1_kindsOf uX1_kindsOf := by
  refine q_tb_ok ?_
  unfold lX1_kindsOf
  refine q_fa (ok_iload_n (by decide +kernel : decode cX1_kindsOf 0 = .ok (.iload_n 1, 1)) rfl rfl) ?_
  refine q_fa (ok_if1lt (by decide +kernel : decode cX1_kindsOf 1 = .ok (.ifCond .lt 21, 3)) (by decide) rfl) ?_
  refine q_fa (ok_iload_n (by decide +kernel : decode cX1_kindsOf 4 = .ok (.iload_n 1, 1)) rfl rfl) ?_
  refine q_fa (ok_aload_n (by decide +kernel : decode cX1_kindsOf 5 = .ok (.aload_n 0, 1)) rfl rfl) ?_
  refine q_fa (ok_get (by decide +kernel : decode cX1_kindsOf 6 = .ok (.getfield 24, 3)) rfl (rfl : vwCl[1]? = some (RX1, TX1, 5)) inX1 (by decide) g433) ?_
  refine q_fa (ok_alen (by decide +kernel : decode cX1_kindsOf 9 = .ok (.arraylength, 1)) rfl) ?_
  refine q_fa (ok_if2ge (by decide +kernel : decode cX1_kindsOf 10 = .ok (.if_icmp .ge 12, 3)) (by decide) rfl) ?_
  refine q_fa (ok_aload_n (by decide +kernel : decode cX1_kindsOf 13 = .ok (.aload_n 0, 1)) rfl rfl) ?_
  refine q_fa (ok_get (by decide +kernel : decode cX1_kindsOf 14 = .ok (.getfield 24, 3)) rfl (rfl : vwCl[1]? = some (RX1, TX1, 5)) inX1 (by decide) g433) ?_
  refine q_fa (ok_iload_n (by decide +kernel : decode cX1_kindsOf 17 = .ok (.iload_n 1, 1)) rfl rfl) ?_
  refine q_fa (ok_iaload (by decide +kernel : decode cX1_kindsOf 18 = .ok (.iaload, 1)) rfl) ?_
  refine q_fa (ok_goto (by decide +kernel : decode cX1_kindsOf 19 = .ok (.goto 4, 3)) (by decide)) ?_
  refine q_fa (ok_iconst (by decide +kernel : decode cX1_kindsOf 22 = .ok (.iconst 0, 1)) rfl (by decide +kernel)) ?_
  refine q_fa (ok_iret (by decide +kernel : decode cX1_kindsOf 23 = .ok (.ireturn, 1)) rfl) ?_
  exact q_fa0
theorem exX1_kindsOf : ∃ t : Nat → qP, t = uX1_kindsOf := ⟨_, rfl⟩
noncomputable def tX1_kindsOf : Nat → qP := Classical.choose exX1_kindsOf
theorem teX1_kindsOf : tX1_kindsOf = uX1_kindsOf := Classical.choose_spec exX1_kindsOf
theorem sX1_kindsOf : q_Snd mX1_kindsOf tX1_kindsOf := by rw [teX1_kindsOf]; exact suX1_kindsOf
theorem tX1_kindsOf_0 : tX1_kindsOf 0 = oIl 1 1 := (congrFun teX1_kindsOf 0).trans rfl
theorem tX1_kindsOf_1 : tX1_kindsOf 1 = oIf1lt 22 4 := (congrFun teX1_kindsOf 1).trans rfl
theorem tX1_kindsOf_4 : tX1_kindsOf 4 = oIl 1 5 := (congrFun teX1_kindsOf 4).trans rfl
theorem tX1_kindsOf_5 : tX1_kindsOf 5 = oAl 0 6 := (congrFun teX1_kindsOf 5).trans rfl
theorem tX1_kindsOf_6 : tX1_kindsOf 6 = oGet 1 2 9 := (congrFun teX1_kindsOf 6).trans rfl
theorem tX1_kindsOf_9 : tX1_kindsOf 9 = oAlen 10 := (congrFun teX1_kindsOf 9).trans rfl
theorem tX1_kindsOf_10 : tX1_kindsOf 10 = oIf2ge 22 13 := (congrFun teX1_kindsOf 10).trans rfl
theorem tX1_kindsOf_13 : tX1_kindsOf 13 = oAl 0 14 := (congrFun teX1_kindsOf 13).trans rfl
theorem tX1_kindsOf_14 : tX1_kindsOf 14 = oGet 1 2 17 := (congrFun teX1_kindsOf 14).trans rfl
theorem tX1_kindsOf_17 : tX1_kindsOf 17 = oIl 1 18 := (congrFun teX1_kindsOf 17).trans rfl
theorem tX1_kindsOf_18 : tX1_kindsOf 18 = oIald 19 := (congrFun teX1_kindsOf 18).trans rfl
theorem tX1_kindsOf_19 : tX1_kindsOf 19 = oGo 23 := (congrFun teX1_kindsOf 19).trans rfl
theorem tX1_kindsOf_22 : tX1_kindsOf 22 = oK (.int (nI 0)) 23 := (congrFun teX1_kindsOf 22).trans rfl
theorem tX1_kindsOf_23 : tX1_kindsOf 23 = oIret := (congrFun teX1_kindsOf 23).trans rfl
def lX1_addLeaves : List (Nat × qP) := [(0, oIl 1 1), (1, oIl 2 2), (2, oCallS mX11_ownCost 1 5), (5, oIf2ne 33 8), (8, oIl 3 9), (9, oIs 5 11), (11, oIl 5 13), (13, oIl 4 15), (15, oIf2gt 33 18), (18, oAl 0 19), (19, oIl 2 20), (20, oIl 5 22), (22, oK (.int (nI 0)) 23), (23, oK (.int (nI 0)) 24), (24, oCallV 1 mX1_add 4 27), (27, oInc 5 (nI 1) 30), (30, oGo 11), (33, oVret)]
def uX1_addLeaves : Nat → qP := q_tb lX1_addLeaves
set_option maxRecDepth 20000 in
theorem suX1_addLeaves : q_Snd mX1_addLeaves uX1_addLeaves := by
  refine q_tb_ok ?_
  unfold lX1_addLeaves
  refine q_fa (ok_iload_n (by decide +kernel : decode cX1_addLeaves 0 = .ok (.iload_n 1, 1)) rfl rfl) ?_
  refine q_fa (ok_iload_n (by decide +kernel : decode cX1_addLeaves 1 = .ok (.iload_n 2, 1)) rfl rfl) ?_
  refine q_fa (ok_callSN (by decide +kernel : decode cX1_addLeaves 2 = .ok (.invokestatic 55, 3)) rfl kX11_ownCost.1 kX11_ownCost.2.1 kX11_ownCost.2.2.1 kX11_ownCost.2.2.2.1 kX11_ownCost.2.2.2.2 g335 gn404) ?_
  refine q_fa (ok_if2ne (by decide +kernel : decode cX1_addLeaves 5 = .ok (.if_icmp .ne 28, 3)) (by decide) rfl) ?_
  refine q_fa (ok_iload_n (by decide +kernel : decode cX1_addLeaves 8 = .ok (.iload_n 3, 1)) rfl rfl) ?_
  refine q_fa (ok_istore (by decide +kernel : decode cX1_addLeaves 9 = .ok (.istore 5, 2)) rfl (by decide)) ?_
  refine q_fa (ok_iload (by decide +kernel : decode cX1_addLeaves 11 = .ok (.iload 5, 2)) rfl) ?_
  refine q_fa (ok_iload (by decide +kernel : decode cX1_addLeaves 13 = .ok (.iload 4, 2)) rfl) ?_
  refine q_fa (ok_if2gt (by decide +kernel : decode cX1_addLeaves 15 = .ok (.if_icmp .gt 18, 3)) (by decide) rfl) ?_
  refine q_fa (ok_aload_n (by decide +kernel : decode cX1_addLeaves 18 = .ok (.aload_n 0, 1)) rfl rfl) ?_
  refine q_fa (ok_iload_n (by decide +kernel : decode cX1_addLeaves 19 = .ok (.iload_n 2, 1)) rfl rfl) ?_
  refine q_fa (ok_iload (by decide +kernel : decode cX1_addLeaves 20 = .ok (.iload 5, 2)) rfl) ?_
  refine q_fa (ok_iconst (by decide +kernel : decode cX1_addLeaves 22 = .ok (.iconst 0, 1)) rfl (by decide +kernel)) ?_
  refine q_fa (ok_iconst (by decide +kernel : decode cX1_addLeaves 23 = .ok (.iconst 0, 1)) rfl (by decide +kernel)) ?_
  refine q_fa (ok_callV (by decide +kernel : decode cX1_addLeaves 24 = .ok (.invokevirtual 58, 3)) rfl kX1_add.1 kX1_add.2.1 kX1_add.2.2.1 kX1_add.2.2.2.1 kX1_add.2.2.2.2 (rfl : vwCl[1]? = some (RX1, TX1, 5)) g407 gs16 g405) ?_
  refine q_fa (ok_iinc (by decide +kernel : decode cX1_addLeaves 27 = .ok (.iinc 5 1, 3)) rfl (by decide +kernel) (by decide)) ?_
  refine q_fa (ok_goto (by decide +kernel : decode cX1_addLeaves 30 = .ok (.goto (-19), 3)) (by decide)) ?_
  refine q_fa (ok_vret (by decide +kernel : decode cX1_addLeaves 33 = .ok (.return_, 1)) rfl) ?_
  exact q_fa0
theorem exX1_addLeaves : ∃ t : Nat → qP, t = uX1_addLeaves := ⟨_, rfl⟩
noncomputable def tX1_addLeaves : Nat → qP := Classical.choose exX1_addLeaves
theorem teX1_addLeaves : tX1_addLeaves = uX1_addLeaves := Classical.choose_spec exX1_addLeaves
theorem sX1_addLeaves : q_Snd mX1_addLeaves tX1_addLeaves := by rw [teX1_addLeaves]; exact suX1_addLeaves
theorem tX1_addLeaves_0 : tX1_addLeaves 0 = oIl 1 1 := (congrFun teX1_addLeaves 0).trans rfl
theorem tX1_addLeaves_1 : tX1_addLeaves 1 = oIl 2 2 := (congrFun teX1_addLeaves 1).trans rfl
theorem tX1_addLeaves_2 : tX1_addLeaves 2 = oCallS mX11_ownCost 1 5 := (congrFun teX1_addLeaves 2).trans rfl
theorem tX1_addLeaves_5 : tX1_addLeaves 5 = oIf2ne 33 8 := (congrFun teX1_addLeaves 5).trans rfl
theorem tX1_addLeaves_8 : tX1_addLeaves 8 = oIl 3 9 := (congrFun teX1_addLeaves 8).trans rfl
theorem tX1_addLeaves_9 : tX1_addLeaves 9 = oIs 5 11 := (congrFun teX1_addLeaves 9).trans rfl
theorem tX1_addLeaves_11 : tX1_addLeaves 11 = oIl 5 13 := (congrFun teX1_addLeaves 11).trans rfl
theorem tX1_addLeaves_13 : tX1_addLeaves 13 = oIl 4 15 := (congrFun teX1_addLeaves 13).trans rfl
theorem tX1_addLeaves_15 : tX1_addLeaves 15 = oIf2gt 33 18 := (congrFun teX1_addLeaves 15).trans rfl
theorem tX1_addLeaves_18 : tX1_addLeaves 18 = oAl 0 19 := (congrFun teX1_addLeaves 18).trans rfl
theorem tX1_addLeaves_19 : tX1_addLeaves 19 = oIl 2 20 := (congrFun teX1_addLeaves 19).trans rfl
theorem tX1_addLeaves_20 : tX1_addLeaves 20 = oIl 5 22 := (congrFun teX1_addLeaves 20).trans rfl
theorem tX1_addLeaves_22 : tX1_addLeaves 22 = oK (.int (nI 0)) 23 := (congrFun teX1_addLeaves 22).trans rfl
theorem tX1_addLeaves_23 : tX1_addLeaves 23 = oK (.int (nI 0)) 24 := (congrFun teX1_addLeaves 23).trans rfl
theorem tX1_addLeaves_24 : tX1_addLeaves 24 = oCallV 1 mX1_add 4 27 := (congrFun teX1_addLeaves 24).trans rfl
theorem tX1_addLeaves_27 : tX1_addLeaves 27 = oInc 5 (nI 1) 30 := (congrFun teX1_addLeaves 27).trans rfl
theorem tX1_addLeaves_30 : tX1_addLeaves 30 = oGo 11 := (congrFun teX1_addLeaves 30).trans rfl
theorem tX1_addLeaves_33 : tX1_addLeaves 33 = oVret := (congrFun teX1_addLeaves 33).trans rfl
def lX1_addPairs : List (Nat × qP) := [(0, oIl 1 1), (1, oIl 2 2), (2, oCallS mX11_ownCost 1 5), (5, oSub 6), (6, oIs 3 7), (7, oK (.int (nI 2)) 8), (8, oIs 4 10), (10, oIl 4 12), (12, oIl 3 13), (13, oK (.int (nI 2)) 14), (14, oSub 15), (15, oIf2gt 123 18), (18, oIl 3 19), (19, oIl 4 21), (21, oSub 22), (22, oIs 5 24), (24, oAl 0 25), (25, oIl 4 27), (27, oCallV 1 mX1_begin 1 30), (30, oIs 6 32), (32, oIl 6 34), (34, oAl 0 35), (35, oIl 4 37), (37, oCallV 1 mX1_end 1 40), (40, oIf2ge 117 43), (43, oIl 2 44), (44, oK (.int (nI 2)) 45), (45, oIf2ne 64 48), (48, oAl 0 49), (49, oGet 1 0 52), (52, oIl 6 54), (54, oCallV 4 mX4_kindOf 1 57), (57, oK (.int (nI 2)) 58), (58, oIf2ne 64 61), (61, oGo 111), (64, oAl 0 65), (65, oIl 5 67), (67, oCallV 1 mX1_begin 1 70), (70, oIs 7 72), (72, oIl 7 74), (74, oAl 0 75), (75, oIl 5 77), (77, oCallV 1 mX1_end 1 80), (80, oIf2ge 111 83), (83, oAl 0 84), (84, oIl 2 85), (85, oIl 6 87), (87, oIl 7 89), (89, oAl 0 90), (90, oIl 6 92), (92, oCallV 1 mX1_kindsOf 1 95), (95, oAl 0 96), (96, oIl 7 98), (98, oCallV 1 mX1_kindsOf 1 101), (101, oOr 102), (102, oCallV 1 mX1_add 4 105), (105, oInc 7 (nI 1) 108), (108, oGo 72), (111, oInc 6 (nI 1) 114), (114, oGo 32), (117, oInc 4 (nI 1) 120), (120, oGo 10), (123, oVret)]
def uX1_addPairs : Nat → qP := q_tb lX1_addPairs
set_option maxRecDepth 20000 in
theorem suX1_addPairs : q_Snd mX1_addPairs uX1_addPairs := by
  refine q_tb_ok ?_
  unfold lX1_addPairs
  refine q_fa (ok_iload_n (by decide +kernel : decode cX1_addPairs 0 = .ok (.iload_n 1, 1)) rfl rfl) ?_
  refine q_fa (ok_iload_n (by decide +kernel : decode cX1_addPairs 1 = .ok (.iload_n 2, 1)) rfl rfl) ?_
  refine q_fa (ok_callSN (by decide +kernel : decode cX1_addPairs 2 = .ok (.invokestatic 55, 3)) rfl kX11_ownCost.1 kX11_ownCost.2.1 kX11_ownCost.2.2.1 kX11_ownCost.2.2.2.1 kX11_ownCost.2.2.2.2 g335 gn404) ?_
  refine q_fa (ok_isub (by decide +kernel : decode cX1_addPairs 5 = .ok (.isub, 1)) rfl) ?_
  refine q_fa (ok_istore_n (by decide +kernel : decode cX1_addPairs 6 = .ok (.istore_n 3, 1)) rfl rfl (by decide)) ?_
  refine q_fa (ok_iconst (by decide +kernel : decode cX1_addPairs 7 = .ok (.iconst 2, 1)) rfl (by decide +kernel)) ?_
  refine q_fa (ok_istore (by decide +kernel : decode cX1_addPairs 8 = .ok (.istore 4, 2)) rfl (by decide)) ?_
  refine q_fa (ok_iload (by decide +kernel : decode cX1_addPairs 10 = .ok (.iload 4, 2)) rfl) ?_
  refine q_fa (ok_iload_n (by decide +kernel : decode cX1_addPairs 12 = .ok (.iload_n 3, 1)) rfl rfl) ?_
  refine q_fa (ok_iconst (by decide +kernel : decode cX1_addPairs 13 = .ok (.iconst 2, 1)) rfl (by decide +kernel)) ?_
  refine q_fa (ok_isub (by decide +kernel : decode cX1_addPairs 14 = .ok (.isub, 1)) rfl) ?_
  refine q_fa (ok_if2gt (by decide +kernel : decode cX1_addPairs 15 = .ok (.if_icmp .gt 108, 3)) (by decide) rfl) ?_
  refine q_fa (ok_iload_n (by decide +kernel : decode cX1_addPairs 18 = .ok (.iload_n 3, 1)) rfl rfl) ?_
  refine q_fa (ok_iload (by decide +kernel : decode cX1_addPairs 19 = .ok (.iload 4, 2)) rfl) ?_
  refine q_fa (ok_isub (by decide +kernel : decode cX1_addPairs 21 = .ok (.isub, 1)) rfl) ?_
  refine q_fa (ok_istore (by decide +kernel : decode cX1_addPairs 22 = .ok (.istore 5, 2)) rfl (by decide)) ?_
  refine q_fa (ok_aload_n (by decide +kernel : decode cX1_addPairs 24 = .ok (.aload_n 0, 1)) rfl rfl) ?_
  refine q_fa (ok_iload (by decide +kernel : decode cX1_addPairs 25 = .ok (.iload 4, 2)) rfl) ?_
  refine q_fa (ok_callV (by decide +kernel : decode cX1_addPairs 27 = .ok (.invokevirtual 48, 3)) rfl kX1_begin.1 kX1_begin.2.1 kX1_begin.2.2.1 kX1_begin.2.2.2.1 kX1_begin.2.2.2.2 (rfl : vwCl[1]? = some (RX1, TX1, 5)) g415 g416 g414) ?_
  refine q_fa (ok_istore (by decide +kernel : decode cX1_addPairs 30 = .ok (.istore 6, 2)) rfl (by decide)) ?_
  refine q_fa (ok_iload (by decide +kernel : decode cX1_addPairs 32 = .ok (.iload 6, 2)) rfl) ?_
  refine q_fa (ok_aload_n (by decide +kernel : decode cX1_addPairs 34 = .ok (.aload_n 0, 1)) rfl rfl) ?_
  refine q_fa (ok_iload (by decide +kernel : decode cX1_addPairs 35 = .ok (.iload 4, 2)) rfl) ?_
  refine q_fa (ok_callV (by decide +kernel : decode cX1_addPairs 37 = .ok (.invokevirtual 52, 3)) rfl kX1_end.1 kX1_end.2.1 kX1_end.2.2.1 kX1_end.2.2.2.1 kX1_end.2.2.2.2 (rfl : vwCl[1]? = some (RX1, TX1, 5)) g419 g420 g418) ?_
  refine q_fa (ok_if2ge (by decide +kernel : decode cX1_addPairs 40 = .ok (.if_icmp .ge 77, 3)) (by decide) rfl) ?_
  refine q_fa (ok_iload_n (by decide +kernel : decode cX1_addPairs 43 = .ok (.iload_n 2, 1)) rfl rfl) ?_
  refine q_fa (ok_iconst (by decide +kernel : decode cX1_addPairs 44 = .ok (.iconst 2, 1)) rfl (by decide +kernel)) ?_
  refine q_fa (ok_if2ne (by decide +kernel : decode cX1_addPairs 45 = .ok (.if_icmp .ne 19, 3)) (by decide) rfl) ?_
  refine q_fa (ok_aload_n (by decide +kernel : decode cX1_addPairs 48 = .ok (.aload_n 0, 1)) rfl rfl) ?_
  refine q_fa (ok_get (by decide +kernel : decode cX1_addPairs 49 = .ok (.getfield 14, 3)) rfl (rfl : vwCl[1]? = some (RX1, TX1, 5)) inX1 (by decide) g431) ?_
  refine q_fa (ok_iload (by decide +kernel : decode cX1_addPairs 52 = .ok (.iload 6, 2)) rfl) ?_
  refine q_fa (ok_callV (by decide +kernel : decode cX1_addPairs 54 = .ok (.invokevirtual 61, 3)) rfl kX4_kindOf.1 kX4_kindOf.2.1 kX4_kindOf.2.2.1 kX4_kindOf.2.2.2.1 kX4_kindOf.2.2.2.2 (rfl : vwCl[4]? = some (RX4, TX4, 4)) g287 g288 g422) ?_
  refine q_fa (ok_iconst (by decide +kernel : decode cX1_addPairs 57 = .ok (.iconst 2, 1)) rfl (by decide +kernel)) ?_
  refine q_fa (ok_if2ne (by decide +kernel : decode cX1_addPairs 58 = .ok (.if_icmp .ne 6, 3)) (by decide) rfl) ?_
  refine q_fa (ok_goto (by decide +kernel : decode cX1_addPairs 61 = .ok (.goto 50, 3)) (by decide)) ?_
  refine q_fa (ok_aload_n (by decide +kernel : decode cX1_addPairs 64 = .ok (.aload_n 0, 1)) rfl rfl) ?_
  refine q_fa (ok_iload (by decide +kernel : decode cX1_addPairs 65 = .ok (.iload 5, 2)) rfl) ?_
  refine q_fa (ok_callV (by decide +kernel : decode cX1_addPairs 67 = .ok (.invokevirtual 48, 3)) rfl kX1_begin.1 kX1_begin.2.1 kX1_begin.2.2.1 kX1_begin.2.2.2.1 kX1_begin.2.2.2.2 (rfl : vwCl[1]? = some (RX1, TX1, 5)) g415 g416 g414) ?_
  refine q_fa (ok_istore (by decide +kernel : decode cX1_addPairs 70 = .ok (.istore 7, 2)) rfl (by decide)) ?_
  refine q_fa (ok_iload (by decide +kernel : decode cX1_addPairs 72 = .ok (.iload 7, 2)) rfl) ?_
  refine q_fa (ok_aload_n (by decide +kernel : decode cX1_addPairs 74 = .ok (.aload_n 0, 1)) rfl rfl) ?_
  refine q_fa (ok_iload (by decide +kernel : decode cX1_addPairs 75 = .ok (.iload 5, 2)) rfl) ?_
  refine q_fa (ok_callV (by decide +kernel : decode cX1_addPairs 77 = .ok (.invokevirtual 52, 3)) rfl kX1_end.1 kX1_end.2.1 kX1_end.2.2.1 kX1_end.2.2.2.1 kX1_end.2.2.2.2 (rfl : vwCl[1]? = some (RX1, TX1, 5)) g419 g420 g418) ?_
  refine q_fa (ok_if2ge (by decide +kernel : decode cX1_addPairs 80 = .ok (.if_icmp .ge 31, 3)) (by decide) rfl) ?_
  refine q_fa (ok_aload_n (by decide +kernel : decode cX1_addPairs 83 = .ok (.aload_n 0, 1)) rfl rfl) ?_
  refine q_fa (ok_iload_n (by decide +kernel : decode cX1_addPairs 84 = .ok (.iload_n 2, 1)) rfl rfl) ?_
  refine q_fa (ok_iload (by decide +kernel : decode cX1_addPairs 85 = .ok (.iload 6, 2)) rfl) ?_
  refine q_fa (ok_iload (by decide +kernel : decode cX1_addPairs 87 = .ok (.iload 7, 2)) rfl) ?_
  refine q_fa (ok_aload_n (by decide +kernel : decode cX1_addPairs 89 = .ok (.aload_n 0, 1)) rfl rfl) ?_
  refine q_fa (ok_iload (by decide +kernel : decode cX1_addPairs 90 = .ok (.iload 6, 2)) rfl) ?_
  refine q_fa (ok_callV (by decide +kernel : decode cX1_addPairs 92 = .ok (.invokevirtual 64, 3)) rfl kX1_kindsOf.1 kX1_kindsOf.2.1 kX1_kindsOf.2.2.1 kX1_kindsOf.2.2.2.1 kX1_kindsOf.2.2.2.2 (rfl : vwCl[1]? = some (RX1, TX1, 5)) g424 g425 g423) ?_
  refine q_fa (ok_aload_n (by decide +kernel : decode cX1_addPairs 95 = .ok (.aload_n 0, 1)) rfl rfl) ?_
  refine q_fa (ok_iload (by decide +kernel : decode cX1_addPairs 96 = .ok (.iload 7, 2)) rfl) ?_
  refine q_fa (ok_callV (by decide +kernel : decode cX1_addPairs 98 = .ok (.invokevirtual 64, 3)) rfl kX1_kindsOf.1 kX1_kindsOf.2.1 kX1_kindsOf.2.2.1 kX1_kindsOf.2.2.2.1 kX1_kindsOf.2.2.2.2 (rfl : vwCl[1]? = some (RX1, TX1, 5)) g424 g425 g423) ?_
  refine q_fa (ok_ior (by decide +kernel : decode cX1_addPairs 101 = .ok (.ior, 1)) rfl) ?_
  refine q_fa (ok_callV (by decide +kernel : decode cX1_addPairs 102 = .ok (.invokevirtual 58, 3)) rfl kX1_add.1 kX1_add.2.1 kX1_add.2.2.1 kX1_add.2.2.2.1 kX1_add.2.2.2.2 (rfl : vwCl[1]? = some (RX1, TX1, 5)) g407 gs16 g405) ?_
  refine q_fa (ok_iinc (by decide +kernel : decode cX1_addPairs 105 = .ok (.iinc 7 1, 3)) rfl (by decide +kernel) (by decide)) ?_
  refine q_fa (ok_goto (by decide +kernel : decode cX1_addPairs 108 = .ok (.goto (-36), 3)) (by decide)) ?_
  refine q_fa (ok_iinc (by decide +kernel : decode cX1_addPairs 111 = .ok (.iinc 6 1, 3)) rfl (by decide +kernel) (by decide)) ?_
  refine q_fa (ok_goto (by decide +kernel : decode cX1_addPairs 114 = .ok (.goto (-82), 3)) (by decide)) ?_
  refine q_fa (ok_iinc (by decide +kernel : decode cX1_addPairs 117 = .ok (.iinc 4 1, 3)) rfl (by decide +kernel) (by decide)) ?_
  refine q_fa (ok_goto (by decide +kernel : decode cX1_addPairs 120 = .ok (.goto (-110), 3)) (by decide)) ?_
  refine q_fa (ok_vret (by decide +kernel : decode cX1_addPairs 123 = .ok (.return_, 1)) rfl) ?_
  exact q_fa0
theorem exX1_addPairs : ∃ t : Nat → qP, t = uX1_addPairs := ⟨_, rfl⟩
noncomputable def tX1_addPairs : Nat → qP := Classical.choose exX1_addPairs
theorem teX1_addPairs : tX1_addPairs = uX1_addPairs := Classical.choose_spec exX1_addPairs
theorem sX1_addPairs : q_Snd mX1_addPairs tX1_addPairs := by rw [teX1_addPairs]; exact suX1_addPairs
theorem tX1_addPairs_0 : tX1_addPairs 0 = oIl 1 1 := (congrFun teX1_addPairs 0).trans rfl
theorem tX1_addPairs_1 : tX1_addPairs 1 = oIl 2 2 := (congrFun teX1_addPairs 1).trans rfl
theorem tX1_addPairs_2 : tX1_addPairs 2 = oCallS mX11_ownCost 1 5 := (congrFun teX1_addPairs 2).trans rfl
theorem tX1_addPairs_5 : tX1_addPairs 5 = oSub 6 := (congrFun teX1_addPairs 5).trans rfl
theorem tX1_addPairs_6 : tX1_addPairs 6 = oIs 3 7 := (congrFun teX1_addPairs 6).trans rfl
theorem tX1_addPairs_7 : tX1_addPairs 7 = oK (.int (nI 2)) 8 := (congrFun teX1_addPairs 7).trans rfl
theorem tX1_addPairs_8 : tX1_addPairs 8 = oIs 4 10 := (congrFun teX1_addPairs 8).trans rfl
theorem tX1_addPairs_10 : tX1_addPairs 10 = oIl 4 12 := (congrFun teX1_addPairs 10).trans rfl
theorem tX1_addPairs_12 : tX1_addPairs 12 = oIl 3 13 := (congrFun teX1_addPairs 12).trans rfl
theorem tX1_addPairs_13 : tX1_addPairs 13 = oK (.int (nI 2)) 14 := (congrFun teX1_addPairs 13).trans rfl
theorem tX1_addPairs_14 : tX1_addPairs 14 = oSub 15 := (congrFun teX1_addPairs 14).trans rfl
theorem tX1_addPairs_15 : tX1_addPairs 15 = oIf2gt 123 18 := (congrFun teX1_addPairs 15).trans rfl
theorem tX1_addPairs_18 : tX1_addPairs 18 = oIl 3 19 := (congrFun teX1_addPairs 18).trans rfl
theorem tX1_addPairs_19 : tX1_addPairs 19 = oIl 4 21 := (congrFun teX1_addPairs 19).trans rfl
theorem tX1_addPairs_21 : tX1_addPairs 21 = oSub 22 := (congrFun teX1_addPairs 21).trans rfl
theorem tX1_addPairs_22 : tX1_addPairs 22 = oIs 5 24 := (congrFun teX1_addPairs 22).trans rfl
theorem tX1_addPairs_24 : tX1_addPairs 24 = oAl 0 25 := (congrFun teX1_addPairs 24).trans rfl
theorem tX1_addPairs_25 : tX1_addPairs 25 = oIl 4 27 := (congrFun teX1_addPairs 25).trans rfl
theorem tX1_addPairs_27 : tX1_addPairs 27 = oCallV 1 mX1_begin 1 30 := (congrFun teX1_addPairs 27).trans rfl
theorem tX1_addPairs_30 : tX1_addPairs 30 = oIs 6 32 := (congrFun teX1_addPairs 30).trans rfl
theorem tX1_addPairs_32 : tX1_addPairs 32 = oIl 6 34 := (congrFun teX1_addPairs 32).trans rfl
theorem tX1_addPairs_34 : tX1_addPairs 34 = oAl 0 35 := (congrFun teX1_addPairs 34).trans rfl
theorem tX1_addPairs_35 : tX1_addPairs 35 = oIl 4 37 := (congrFun teX1_addPairs 35).trans rfl
theorem tX1_addPairs_37 : tX1_addPairs 37 = oCallV 1 mX1_end 1 40 := (congrFun teX1_addPairs 37).trans rfl
theorem tX1_addPairs_40 : tX1_addPairs 40 = oIf2ge 117 43 := (congrFun teX1_addPairs 40).trans rfl
theorem tX1_addPairs_43 : tX1_addPairs 43 = oIl 2 44 := (congrFun teX1_addPairs 43).trans rfl
theorem tX1_addPairs_44 : tX1_addPairs 44 = oK (.int (nI 2)) 45 := (congrFun teX1_addPairs 44).trans rfl
theorem tX1_addPairs_45 : tX1_addPairs 45 = oIf2ne 64 48 := (congrFun teX1_addPairs 45).trans rfl
theorem tX1_addPairs_48 : tX1_addPairs 48 = oAl 0 49 := (congrFun teX1_addPairs 48).trans rfl
theorem tX1_addPairs_49 : tX1_addPairs 49 = oGet 1 0 52 := (congrFun teX1_addPairs 49).trans rfl
theorem tX1_addPairs_52 : tX1_addPairs 52 = oIl 6 54 := (congrFun teX1_addPairs 52).trans rfl
theorem tX1_addPairs_54 : tX1_addPairs 54 = oCallV 4 mX4_kindOf 1 57 := (congrFun teX1_addPairs 54).trans rfl
theorem tX1_addPairs_57 : tX1_addPairs 57 = oK (.int (nI 2)) 58 := (congrFun teX1_addPairs 57).trans rfl
theorem tX1_addPairs_58 : tX1_addPairs 58 = oIf2ne 64 61 := (congrFun teX1_addPairs 58).trans rfl
theorem tX1_addPairs_61 : tX1_addPairs 61 = oGo 111 := (congrFun teX1_addPairs 61).trans rfl
theorem tX1_addPairs_64 : tX1_addPairs 64 = oAl 0 65 := (congrFun teX1_addPairs 64).trans rfl
theorem tX1_addPairs_65 : tX1_addPairs 65 = oIl 5 67 := (congrFun teX1_addPairs 65).trans rfl
theorem tX1_addPairs_67 : tX1_addPairs 67 = oCallV 1 mX1_begin 1 70 := (congrFun teX1_addPairs 67).trans rfl
theorem tX1_addPairs_70 : tX1_addPairs 70 = oIs 7 72 := (congrFun teX1_addPairs 70).trans rfl
theorem tX1_addPairs_72 : tX1_addPairs 72 = oIl 7 74 := (congrFun teX1_addPairs 72).trans rfl
theorem tX1_addPairs_74 : tX1_addPairs 74 = oAl 0 75 := (congrFun teX1_addPairs 74).trans rfl
theorem tX1_addPairs_75 : tX1_addPairs 75 = oIl 5 77 := (congrFun teX1_addPairs 75).trans rfl
theorem tX1_addPairs_77 : tX1_addPairs 77 = oCallV 1 mX1_end 1 80 := (congrFun teX1_addPairs 77).trans rfl
theorem tX1_addPairs_80 : tX1_addPairs 80 = oIf2ge 111 83 := (congrFun teX1_addPairs 80).trans rfl
theorem tX1_addPairs_83 : tX1_addPairs 83 = oAl 0 84 := (congrFun teX1_addPairs 83).trans rfl
theorem tX1_addPairs_84 : tX1_addPairs 84 = oIl 2 85 := (congrFun teX1_addPairs 84).trans rfl
theorem tX1_addPairs_85 : tX1_addPairs 85 = oIl 6 87 := (congrFun teX1_addPairs 85).trans rfl
theorem tX1_addPairs_87 : tX1_addPairs 87 = oIl 7 89 := (congrFun teX1_addPairs 87).trans rfl
theorem tX1_addPairs_89 : tX1_addPairs 89 = oAl 0 90 := (congrFun teX1_addPairs 89).trans rfl
theorem tX1_addPairs_90 : tX1_addPairs 90 = oIl 6 92 := (congrFun teX1_addPairs 90).trans rfl
theorem tX1_addPairs_92 : tX1_addPairs 92 = oCallV 1 mX1_kindsOf 1 95 := (congrFun teX1_addPairs 92).trans rfl
theorem tX1_addPairs_95 : tX1_addPairs 95 = oAl 0 96 := (congrFun teX1_addPairs 95).trans rfl
theorem tX1_addPairs_96 : tX1_addPairs 96 = oIl 7 98 := (congrFun teX1_addPairs 96).trans rfl
theorem tX1_addPairs_98 : tX1_addPairs 98 = oCallV 1 mX1_kindsOf 1 101 := (congrFun teX1_addPairs 98).trans rfl
theorem tX1_addPairs_101 : tX1_addPairs 101 = oOr 102 := (congrFun teX1_addPairs 101).trans rfl
theorem tX1_addPairs_102 : tX1_addPairs 102 = oCallV 1 mX1_add 4 105 := (congrFun teX1_addPairs 102).trans rfl
theorem tX1_addPairs_105 : tX1_addPairs 105 = oInc 7 (nI 1) 108 := (congrFun teX1_addPairs 105).trans rfl
theorem tX1_addPairs_108 : tX1_addPairs 108 = oGo 72 := (congrFun teX1_addPairs 108).trans rfl
theorem tX1_addPairs_111 : tX1_addPairs 111 = oInc 6 (nI 1) 114 := (congrFun teX1_addPairs 111).trans rfl
theorem tX1_addPairs_114 : tX1_addPairs 114 = oGo 32 := (congrFun teX1_addPairs 114).trans rfl
theorem tX1_addPairs_117 : tX1_addPairs 117 = oInc 4 (nI 1) 120 := (congrFun teX1_addPairs 117).trans rfl
theorem tX1_addPairs_120 : tX1_addPairs 120 = oGo 10 := (congrFun teX1_addPairs 120).trans rfl
theorem tX1_addPairs_123 : tX1_addPairs 123 = oVret := (congrFun teX1_addPairs 123).trans rfl
def lX1_addSingles : List (Nat × qP) := [(0, oIl 1 1), (1, oIl 2 2), (2, oCallS mX11_ownCost 1 5), (5, oSub 6), (6, oIs 3 7), (7, oIl 3 8), (8, oK (.int (nI 2)) 9), (9, oIf2ge 13 12), (12, oVret), (13, oAl 0 14), (14, oIl 3 15), (15, oCallV 1 mX1_begin 1 18), (18, oIs 4 20), (20, oIl 4 22), (22, oAl 0 23), (23, oIl 3 24), (24, oCallV 1 mX1_end 1 27), (27, oIf2ge 50 30), (30, oAl 0 31), (31, oIl 2 32), (32, oIl 4 34), (34, oK (.int (nI 0)) 35), (35, oAl 0 36), (36, oIl 4 38), (38, oCallV 1 mX1_kindsOf 1 41), (41, oCallV 1 mX1_add 4 44), (44, oInc 4 (nI 1) 47), (47, oGo 20), (50, oVret)]
def uX1_addSingles : Nat → qP := q_tb lX1_addSingles
set_option maxRecDepth 20000 in
theorem suX1_addSingles : q_Snd mX1_addSingles uX1_addSingles := by
  refine q_tb_ok ?_
  unfold lX1_addSingles
  refine q_fa (ok_iload_n (by decide +kernel : decode cX1_addSingles 0 = .ok (.iload_n 1, 1)) rfl rfl) ?_
  refine q_fa (ok_iload_n (by decide +kernel : decode cX1_addSingles 1 = .ok (.iload_n 2, 1)) rfl rfl) ?_
  refine q_fa (ok_callSN (by decide +kernel : decode cX1_addSingles 2 = .ok (.invokestatic 55, 3)) rfl kX11_ownCost.1 kX11_ownCost.2.1 kX11_ownCost.2.2.1 kX11_ownCost.2.2.2.1 kX11_ownCost.2.2.2.2 g335 gn404) ?_
  refine q_fa (ok_isub (by decide +kernel : decode cX1_addSingles 5 = .ok (.isub, 1)) rfl) ?_
  refine q_fa (ok_istore_n (by decide +kernel : decode cX1_addSingles 6 = .ok (.istore_n 3, 1)) rfl rfl (by decide)) ?_
  refine q_fa (ok_iload_n (by decide +kernel : decode cX1_addSingles 7 = .ok (.iload_n 3, 1)) rfl rfl) ?_
  refine q_fa (ok_iconst (by decide +kernel : decode cX1_addSingles 8 = .ok (.iconst 2, 1)) rfl (by decide +kernel)) ?_
  refine q_fa (ok_if2ge (by decide +kernel : decode cX1_addSingles 9 = .ok (.if_icmp .ge 4, 3)) (by decide) rfl) ?_
  refine q_fa (ok_vret (by decide +kernel : decode cX1_addSingles 12 = .ok (.return_, 1)) rfl) ?_
  refine q_fa (ok_aload_n (by decide +kernel : decode cX1_addSingles 13 = .ok (.aload_n 0, 1)) rfl rfl) ?_
  refine q_fa (ok_iload_n (by decide +kernel : decode cX1_addSingles 14 = .ok (.iload_n 3, 1)) rfl rfl) ?_
  refine q_fa (ok_callV (by decide +kernel : decode cX1_addSingles 15 = .ok (.invokevirtual 48, 3)) rfl kX1_begin.1 kX1_begin.2.1 kX1_begin.2.2.1 kX1_begin.2.2.2.1 kX1_begin.2.2.2.2 (rfl : vwCl[1]? = some (RX1, TX1, 5)) g415 g416 g414) ?_
  refine q_fa (ok_istore (by decide +kernel : decode cX1_addSingles 18 = .ok (.istore 4, 2)) rfl (by decide)) ?_
  refine q_fa (ok_iload (by decide +kernel : decode cX1_addSingles 20 = .ok (.iload 4, 2)) rfl) ?_
  refine q_fa (ok_aload_n (by decide +kernel : decode cX1_addSingles 22 = .ok (.aload_n 0, 1)) rfl rfl) ?_
  refine q_fa (ok_iload_n (by decide +kernel : decode cX1_addSingles 23 = .ok (.iload_n 3, 1)) rfl rfl) ?_
  refine q_fa (ok_callV (by decide +kernel : decode cX1_addSingles 24 = .ok (.invokevirtual 52, 3)) rfl kX1_end.1 kX1_end.2.1 kX1_end.2.2.1 kX1_end.2.2.2.1 kX1_end.2.2.2.2 (rfl : vwCl[1]? = some (RX1, TX1, 5)) g419 g420 g418) ?_
  refine q_fa (ok_if2ge (by decide +kernel : decode cX1_addSingles 27 = .ok (.if_icmp .ge 23, 3)) (by decide) rfl) ?_
  refine q_fa (ok_aload_n (by decide +kernel : decode cX1_addSingles 30 = .ok (.aload_n 0, 1)) rfl rfl) ?_
  refine q_fa (ok_iload_n (by decide +kernel : decode cX1_addSingles 31 = .ok (.iload_n 2, 1)) rfl rfl) ?_
  refine q_fa (ok_iload (by decide +kernel : decode cX1_addSingles 32 = .ok (.iload 4, 2)) rfl) ?_
  refine q_fa (ok_iconst (by decide +kernel : decode cX1_addSingles 34 = .ok (.iconst 0, 1)) rfl (by decide +kernel)) ?_
  refine q_fa (ok_aload_n (by decide +kernel : decode cX1_addSingles 35 = .ok (.aload_n 0, 1)) rfl rfl) ?_
  refine q_fa (ok_iload (by decide +kernel : decode cX1_addSingles 36 = .ok (.iload 4, 2)) rfl) ?_
  refine q_fa (ok_callV (by decide +kernel : decode cX1_addSingles 38 = .ok (.invokevirtual 64, 3)) rfl kX1_kindsOf.1 kX1_kindsOf.2.1 kX1_kindsOf.2.2.1 kX1_kindsOf.2.2.2.1 kX1_kindsOf.2.2.2.2 (rfl : vwCl[1]? = some (RX1, TX1, 5)) g424 g425 g423) ?_
  refine q_fa (ok_callV (by decide +kernel : decode cX1_addSingles 41 = .ok (.invokevirtual 58, 3)) rfl kX1_add.1 kX1_add.2.1 kX1_add.2.2.1 kX1_add.2.2.2.1 kX1_add.2.2.2.2 (rfl : vwCl[1]? = some (RX1, TX1, 5)) g407 gs16 g405) ?_
  refine q_fa (ok_iinc (by decide +kernel : decode cX1_addSingles 44 = .ok (.iinc 4 1, 3)) rfl (by decide +kernel) (by decide)) ?_
  refine q_fa (ok_goto (by decide +kernel : decode cX1_addSingles 47 = .ok (.goto (-27), 3)) (by decide)) ?_
  refine q_fa (ok_vret (by decide +kernel : decode cX1_addSingles 50 = .ok (.return_, 1)) rfl) ?_
  exact q_fa0
theorem exX1_addSingles : ∃ t : Nat → qP, t = uX1_addSingles := ⟨_, rfl⟩
noncomputable def tX1_addSingles : Nat → qP := Classical.choose exX1_addSingles
theorem teX1_addSingles : tX1_addSingles = uX1_addSingles := Classical.choose_spec exX1_addSingles
theorem sX1_addSingles : q_Snd mX1_addSingles tX1_addSingles := by rw [teX1_addSingles]; exact suX1_addSingles
theorem tX1_addSingles_0 : tX1_addSingles 0 = oIl 1 1 := (congrFun teX1_addSingles 0).trans rfl
theorem tX1_addSingles_1 : tX1_addSingles 1 = oIl 2 2 := (congrFun teX1_addSingles 1).trans rfl
theorem tX1_addSingles_2 : tX1_addSingles 2 = oCallS mX11_ownCost 1 5 := (congrFun teX1_addSingles 2).trans rfl
theorem tX1_addSingles_5 : tX1_addSingles 5 = oSub 6 := (congrFun teX1_addSingles 5).trans rfl
theorem tX1_addSingles_6 : tX1_addSingles 6 = oIs 3 7 := (congrFun teX1_addSingles 6).trans rfl
theorem tX1_addSingles_7 : tX1_addSingles 7 = oIl 3 8 := (congrFun teX1_addSingles 7).trans rfl
theorem tX1_addSingles_8 : tX1_addSingles 8 = oK (.int (nI 2)) 9 := (congrFun teX1_addSingles 8).trans rfl
theorem tX1_addSingles_9 : tX1_addSingles 9 = oIf2ge 13 12 := (congrFun teX1_addSingles 9).trans rfl
theorem tX1_addSingles_12 : tX1_addSingles 12 = oVret := (congrFun teX1_addSingles 12).trans rfl
theorem tX1_addSingles_13 : tX1_addSingles 13 = oAl 0 14 := (congrFun teX1_addSingles 13).trans rfl
theorem tX1_addSingles_14 : tX1_addSingles 14 = oIl 3 15 := (congrFun teX1_addSingles 14).trans rfl
theorem tX1_addSingles_15 : tX1_addSingles 15 = oCallV 1 mX1_begin 1 18 := (congrFun teX1_addSingles 15).trans rfl
theorem tX1_addSingles_18 : tX1_addSingles 18 = oIs 4 20 := (congrFun teX1_addSingles 18).trans rfl
theorem tX1_addSingles_20 : tX1_addSingles 20 = oIl 4 22 := (congrFun teX1_addSingles 20).trans rfl
theorem tX1_addSingles_22 : tX1_addSingles 22 = oAl 0 23 := (congrFun teX1_addSingles 22).trans rfl
theorem tX1_addSingles_23 : tX1_addSingles 23 = oIl 3 24 := (congrFun teX1_addSingles 23).trans rfl
theorem tX1_addSingles_24 : tX1_addSingles 24 = oCallV 1 mX1_end 1 27 := (congrFun teX1_addSingles 24).trans rfl
theorem tX1_addSingles_27 : tX1_addSingles 27 = oIf2ge 50 30 := (congrFun teX1_addSingles 27).trans rfl
theorem tX1_addSingles_30 : tX1_addSingles 30 = oAl 0 31 := (congrFun teX1_addSingles 30).trans rfl
theorem tX1_addSingles_31 : tX1_addSingles 31 = oIl 2 32 := (congrFun teX1_addSingles 31).trans rfl
theorem tX1_addSingles_32 : tX1_addSingles 32 = oIl 4 34 := (congrFun teX1_addSingles 32).trans rfl
theorem tX1_addSingles_34 : tX1_addSingles 34 = oK (.int (nI 0)) 35 := (congrFun teX1_addSingles 34).trans rfl
theorem tX1_addSingles_35 : tX1_addSingles 35 = oAl 0 36 := (congrFun teX1_addSingles 35).trans rfl
theorem tX1_addSingles_36 : tX1_addSingles 36 = oIl 4 38 := (congrFun teX1_addSingles 36).trans rfl
theorem tX1_addSingles_38 : tX1_addSingles 38 = oCallV 1 mX1_kindsOf 1 41 := (congrFun teX1_addSingles 38).trans rfl
theorem tX1_addSingles_41 : tX1_addSingles 41 = oCallV 1 mX1_add 4 44 := (congrFun teX1_addSingles 41).trans rfl
theorem tX1_addSingles_44 : tX1_addSingles 44 = oInc 4 (nI 1) 47 := (congrFun teX1_addSingles 44).trans rfl
theorem tX1_addSingles_47 : tX1_addSingles 47 = oGo 20 := (congrFun teX1_addSingles 47).trans rfl
theorem tX1_addSingles_50 : tX1_addSingles 50 = oVret := (congrFun teX1_addSingles 50).trans rfl
def lX1_add : List (Nat × qP) := [(0, oAl 0 1), (1, oGet 1 0 4), (4, oIl 1 5), (5, oIl 2 6), (6, oIl 3 7), (7, oCallV 4 mX4_add 3 10), (10, oIs 5 12), (12, oIl 5 14), (14, oIf1lt 40 17), (17, oIl 5 19), (19, oAl 0 20), (20, oGet 1 2 23), (23, oAlen 24), (24, oIf2ge 40 27), (27, oAl 0 28), (28, oGet 1 2 31), (31, oIl 5 33), (33, oIl 4 35), (35, oK (.int (nI 1)) 36), (36, oIl 1 37), (37, oShl 38), (38, oOr 39), (39, oIast 40), (40, oVret)]
def uX1_add : Nat → qP := q_tb lX1_add
set_option maxRecDepth 20000 in
theorem suX1_add : q_Snd mX1_add uX1_add := by
  refine q_tb_ok ?_
  unfold lX1_add
  refine q_fa (ok_aload_n (by decide +kernel : decode cX1_add 0 = .ok (.aload_n 0, 1)) rfl rfl) ?_
  refine q_fa (ok_get (by decide +kernel : decode cX1_add 1 = .ok (.getfield 14, 3)) rfl (rfl : vwCl[1]? = some (RX1, TX1, 5)) inX1 (by decide) g431) ?_
  refine q_fa (ok_iload_n (by decide +kernel : decode cX1_add 4 = .ok (.iload_n 1, 1)) rfl rfl) ?_
  refine q_fa (ok_iload_n (by decide +kernel : decode cX1_add 5 = .ok (.iload_n 2, 1)) rfl rfl) ?_
  refine q_fa (ok_iload_n (by decide +kernel : decode cX1_add 6 = .ok (.iload_n 3, 1)) rfl rfl) ?_
  refine q_fa (ok_callV (by decide +kernel : decode cX1_add 7 = .ok (.invokevirtual 67, 3)) rfl kX4_add.1 kX4_add.2.1 kX4_add.2.2.1 kX4_add.2.2.2.1 kX4_add.2.2.2.2 (rfl : vwCl[4]? = some (RX4, TX4, 4)) g264 g265 g409) ?_
  refine q_fa (ok_istore (by decide +kernel : decode cX1_add 10 = .ok (.istore 5, 2)) rfl (by decide)) ?_
  refine q_fa (ok_iload (by decide +kernel : decode cX1_add 12 = .ok (.iload 5, 2)) rfl) ?_
  refine q_fa (ok_if1lt (by decide +kernel : decode cX1_add 14 = .ok (.ifCond .lt 26, 3)) (by decide) rfl) ?_
  refine q_fa (ok_iload (by decide +kernel : decode cX1_add 17 = .ok (.iload 5, 2)) rfl) ?_
  refine q_fa (ok_aload_n (by decide +kernel : decode cX1_add 19 = .ok (.aload_n 0, 1)) rfl rfl) ?_
  refine q_fa (ok_get (by decide +kernel : decode cX1_add 20 = .ok (.getfield 24, 3)) rfl (rfl : vwCl[1]? = some (RX1, TX1, 5)) inX1 (by decide) g433) ?_
  refine q_fa (ok_alen (by decide +kernel : decode cX1_add 23 = .ok (.arraylength, 1)) rfl) ?_
  refine q_fa (ok_if2ge (by decide +kernel : decode cX1_add 24 = .ok (.if_icmp .ge 16, 3)) (by decide) rfl) ?_
  refine q_fa (ok_aload_n (by decide +kernel : decode cX1_add 27 = .ok (.aload_n 0, 1)) rfl rfl) ?_
  refine q_fa (ok_get (by decide +kernel : decode cX1_add 28 = .ok (.getfield 24, 3)) rfl (rfl : vwCl[1]? = some (RX1, TX1, 5)) inX1 (by decide) g433) ?_
  refine q_fa (ok_iload (by decide +kernel : decode cX1_add 31 = .ok (.iload 5, 2)) rfl) ?_
  refine q_fa (ok_iload (by decide +kernel : decode cX1_add 33 = .ok (.iload 4, 2)) rfl) ?_
  refine q_fa (ok_iconst (by decide +kernel : decode cX1_add 35 = .ok (.iconst 1, 1)) rfl (by decide +kernel)) ?_
  refine q_fa (ok_iload_n (by decide +kernel : decode cX1_add 36 = .ok (.iload_n 1, 1)) rfl rfl) ?_
  refine q_fa (ok_ishl (by decide +kernel : decode cX1_add 37 = .ok (.ishl, 1)) rfl) ?_
  refine q_fa (ok_ior (by decide +kernel : decode cX1_add 38 = .ok (.ior, 1)) rfl) ?_
  refine q_fa (ok_iastore (by decide +kernel : decode cX1_add 39 = .ok (.iastore, 1)) rfl) ?_
  refine q_fa (ok_vret (by decide +kernel : decode cX1_add 40 = .ok (.return_, 1)) rfl) ?_
  exact q_fa0
theorem exX1_add : ∃ t : Nat → qP, t = uX1_add := ⟨_, rfl⟩
noncomputable def tX1_add : Nat → qP := Classical.choose exX1_add
theorem teX1_add : tX1_add = uX1_add := Classical.choose_spec exX1_add
theorem sX1_add : q_Snd mX1_add tX1_add := by rw [teX1_add]; exact suX1_add
theorem tX1_add_0 : tX1_add 0 = oAl 0 1 := (congrFun teX1_add 0).trans rfl
theorem tX1_add_1 : tX1_add 1 = oGet 1 0 4 := (congrFun teX1_add 1).trans rfl
theorem tX1_add_4 : tX1_add 4 = oIl 1 5 := (congrFun teX1_add 4).trans rfl
theorem tX1_add_5 : tX1_add 5 = oIl 2 6 := (congrFun teX1_add 5).trans rfl
theorem tX1_add_6 : tX1_add 6 = oIl 3 7 := (congrFun teX1_add 6).trans rfl
theorem tX1_add_7 : tX1_add 7 = oCallV 4 mX4_add 3 10 := (congrFun teX1_add 7).trans rfl
theorem tX1_add_10 : tX1_add 10 = oIs 5 12 := (congrFun teX1_add 10).trans rfl
theorem tX1_add_12 : tX1_add 12 = oIl 5 14 := (congrFun teX1_add 12).trans rfl
theorem tX1_add_14 : tX1_add 14 = oIf1lt 40 17 := (congrFun teX1_add 14).trans rfl
theorem tX1_add_17 : tX1_add 17 = oIl 5 19 := (congrFun teX1_add 17).trans rfl
theorem tX1_add_19 : tX1_add 19 = oAl 0 20 := (congrFun teX1_add 19).trans rfl
theorem tX1_add_20 : tX1_add 20 = oGet 1 2 23 := (congrFun teX1_add 20).trans rfl
theorem tX1_add_23 : tX1_add 23 = oAlen 24 := (congrFun teX1_add 23).trans rfl
theorem tX1_add_24 : tX1_add 24 = oIf2ge 40 27 := (congrFun teX1_add 24).trans rfl
theorem tX1_add_27 : tX1_add 27 = oAl 0 28 := (congrFun teX1_add 27).trans rfl
theorem tX1_add_28 : tX1_add 28 = oGet 1 2 31 := (congrFun teX1_add 28).trans rfl
theorem tX1_add_31 : tX1_add 31 = oIl 5 33 := (congrFun teX1_add 31).trans rfl
theorem tX1_add_33 : tX1_add 33 = oIl 4 35 := (congrFun teX1_add 33).trans rfl
theorem tX1_add_35 : tX1_add 35 = oK (.int (nI 1)) 36 := (congrFun teX1_add 35).trans rfl
theorem tX1_add_36 : tX1_add 36 = oIl 1 37 := (congrFun teX1_add 36).trans rfl
theorem tX1_add_37 : tX1_add 37 = oShl 38 := (congrFun teX1_add 37).trans rfl
theorem tX1_add_38 : tX1_add 38 = oOr 39 := (congrFun teX1_add 38).trans rfl
theorem tX1_add_39 : tX1_add 39 = oIast 40 := (congrFun teX1_add 39).trans rfl
theorem tX1_add_40 : tX1_add 40 = oVret := (congrFun teX1_add 40).trans rfl
def lX1_numberOf : List (Nat × qP) := [(0, oAl 1 1), (1, oCallV 4 mX4_size 0 4), (4, oK (.int (nI 12)) 6), (6, oMin 9), (9, oIs 2 10), (10, oK (.int (nI 0)) 11), (11, oIs 3 12), (12, oIl 3 13), (13, oIl 2 14), (14, oIf2ge 29 17), (17, oAl 0 18), (18, oAl 1 19), (19, oIl 3 20), (20, oCallV 1 mX1_numberNode 2 23), (23, oInc 3 (nI 1) 26), (26, oGo 12), (29, oIl 2 30), (30, oIf1le 44 33), (33, oAl 0 34), (34, oGet 1 3 37), (37, oIl 2 38), (38, oK (.int (nI 1)) 39), (39, oSub 40), (40, oIald 41), (41, oGo 45), (44, oK (.int (-1)) 45), (45, oIret)]
def uX1_numberOf : Nat → qP := q_tb lX1_numberOf
set_option maxRecDepth 20000 in
theorem suX1_numberOf : q_Snd mX1_numberOf uX1_numberOf := by
  refine q_tb_ok ?_
  unfold lX1_numberOf
  refine q_fa (ok_aload_n (by decide +kernel : decode cX1_numberOf 0 = .ok (.aload_n 1, 1)) rfl rfl) ?_
  refine q_fa (ok_callV (by decide +kernel : decode cX1_numberOf 1 = .ok (.invokevirtual 33, 3)) rfl kX4_size.1 kX4_size.2.1 kX4_size.2.2.1 kX4_size.2.2.2.1 kX4_size.2.2.2.2 (rfl : vwCl[4]? = some (RX4, TX4, 4)) g307 g308 g399) ?_
  refine q_fa (ok_bipush (by decide +kernel : decode cX1_numberOf 4 = .ok (.bipush 12, 2)) rfl (by decide +kernel)) ?_
  refine q_fa (ok_min (by decide +kernel : decode cX1_numberOf 6 = .ok (.invokestatic 70, 3)) rfl g455 g456 g4 g457) ?_
  refine q_fa (ok_istore_n (by decide +kernel : decode cX1_numberOf 9 = .ok (.istore_n 2, 1)) rfl rfl (by decide)) ?_
  refine q_fa (ok_iconst (by decide +kernel : decode cX1_numberOf 10 = .ok (.iconst 0, 1)) rfl (by decide +kernel)) ?_
  refine q_fa (ok_istore_n (by decide +kernel : decode cX1_numberOf 11 = .ok (.istore_n 3, 1)) rfl rfl (by decide)) ?_
  refine q_fa (ok_iload_n (by decide +kernel : decode cX1_numberOf 12 = .ok (.iload_n 3, 1)) rfl rfl) ?_
  refine q_fa (ok_iload_n (by decide +kernel : decode cX1_numberOf 13 = .ok (.iload_n 2, 1)) rfl rfl) ?_
  refine q_fa (ok_if2ge (by decide +kernel : decode cX1_numberOf 14 = .ok (.if_icmp .ge 15, 3)) (by decide) rfl) ?_
  refine q_fa (ok_aload_n (by decide +kernel : decode cX1_numberOf 17 = .ok (.aload_n 0, 1)) rfl rfl) ?_
  refine q_fa (ok_aload_n (by decide +kernel : decode cX1_numberOf 18 = .ok (.aload_n 1, 1)) rfl rfl) ?_
  refine q_fa (ok_iload_n (by decide +kernel : decode cX1_numberOf 19 = .ok (.iload_n 3, 1)) rfl rfl) ?_
  refine q_fa (ok_callV (by decide +kernel : decode cX1_numberOf 20 = .ok (.invokevirtual 76, 3)) rfl kX1_numberNode.1 kX1_numberNode.2.1 kX1_numberNode.2.2.1 kX1_numberNode.2.2.2.1 kX1_numberNode.2.2.2.2 (rfl : vwCl[1]? = some (RX1, TX1, 5)) g460 gs19 g458) ?_
  refine q_fa (ok_iinc (by decide +kernel : decode cX1_numberOf 23 = .ok (.iinc 3 1, 3)) rfl (by decide +kernel) (by decide)) ?_
  refine q_fa (ok_goto (by decide +kernel : decode cX1_numberOf 26 = .ok (.goto (-14), 3)) (by decide)) ?_
  refine q_fa (ok_iload_n (by decide +kernel : decode cX1_numberOf 29 = .ok (.iload_n 2, 1)) rfl rfl) ?_
  refine q_fa (ok_if1le (by decide +kernel : decode cX1_numberOf 30 = .ok (.ifCond .le 14, 3)) (by decide) rfl) ?_
  refine q_fa (ok_aload_n (by decide +kernel : decode cX1_numberOf 33 = .ok (.aload_n 0, 1)) rfl rfl) ?_
  refine q_fa (ok_get (by decide +kernel : decode cX1_numberOf 34 = .ok (.getfield 27, 3)) rfl (rfl : vwCl[1]? = some (RX1, TX1, 5)) inX1 (by decide) g434) ?_
  refine q_fa (ok_iload_n (by decide +kernel : decode cX1_numberOf 37 = .ok (.iload_n 2, 1)) rfl rfl) ?_
  refine q_fa (ok_iconst (by decide +kernel : decode cX1_numberOf 38 = .ok (.iconst 1, 1)) rfl (by decide +kernel)) ?_
  refine q_fa (ok_isub (by decide +kernel : decode cX1_numberOf 39 = .ok (.isub, 1)) rfl) ?_
  refine q_fa (ok_iaload (by decide +kernel : decode cX1_numberOf 40 = .ok (.iaload, 1)) rfl) ?_
  refine q_fa (ok_goto (by decide +kernel : decode cX1_numberOf 41 = .ok (.goto 4, 3)) (by decide)) ?_
  refine q_fa (ok_iconst (by decide +kernel : decode cX1_numberOf 44 = .ok (.iconst (-1), 1)) rfl (by decide +kernel)) ?_
  refine q_fa (ok_iret (by decide +kernel : decode cX1_numberOf 45 = .ok (.ireturn, 1)) rfl) ?_
  exact q_fa0
theorem exX1_numberOf : ∃ t : Nat → qP, t = uX1_numberOf := ⟨_, rfl⟩
noncomputable def tX1_numberOf : Nat → qP := Classical.choose exX1_numberOf
theorem teX1_numberOf : tX1_numberOf = uX1_numberOf := Classical.choose_spec exX1_numberOf
theorem sX1_numberOf : q_Snd mX1_numberOf tX1_numberOf := by rw [teX1_numberOf]; exact suX1_numberOf
theorem tX1_numberOf_0 : tX1_numberOf 0 = oAl 1 1 := (congrFun teX1_numberOf 0).trans rfl
theorem tX1_numberOf_1 : tX1_numberOf 1 = oCallV 4 mX4_size 0 4 := (congrFun teX1_numberOf 1).trans rfl
theorem tX1_numberOf_4 : tX1_numberOf 4 = oK (.int (nI 12)) 6 := (congrFun teX1_numberOf 4).trans rfl
theorem tX1_numberOf_6 : tX1_numberOf 6 = oMin 9 := (congrFun teX1_numberOf 6).trans rfl
theorem tX1_numberOf_9 : tX1_numberOf 9 = oIs 2 10 := (congrFun teX1_numberOf 9).trans rfl
theorem tX1_numberOf_10 : tX1_numberOf 10 = oK (.int (nI 0)) 11 := (congrFun teX1_numberOf 10).trans rfl
theorem tX1_numberOf_11 : tX1_numberOf 11 = oIs 3 12 := (congrFun teX1_numberOf 11).trans rfl
theorem tX1_numberOf_12 : tX1_numberOf 12 = oIl 3 13 := (congrFun teX1_numberOf 12).trans rfl
theorem tX1_numberOf_13 : tX1_numberOf 13 = oIl 2 14 := (congrFun teX1_numberOf 13).trans rfl
theorem tX1_numberOf_14 : tX1_numberOf 14 = oIf2ge 29 17 := (congrFun teX1_numberOf 14).trans rfl
theorem tX1_numberOf_17 : tX1_numberOf 17 = oAl 0 18 := (congrFun teX1_numberOf 17).trans rfl
theorem tX1_numberOf_18 : tX1_numberOf 18 = oAl 1 19 := (congrFun teX1_numberOf 18).trans rfl
theorem tX1_numberOf_19 : tX1_numberOf 19 = oIl 3 20 := (congrFun teX1_numberOf 19).trans rfl
theorem tX1_numberOf_20 : tX1_numberOf 20 = oCallV 1 mX1_numberNode 2 23 := (congrFun teX1_numberOf 20).trans rfl
theorem tX1_numberOf_23 : tX1_numberOf 23 = oInc 3 (nI 1) 26 := (congrFun teX1_numberOf 23).trans rfl
theorem tX1_numberOf_26 : tX1_numberOf 26 = oGo 12 := (congrFun teX1_numberOf 26).trans rfl
theorem tX1_numberOf_29 : tX1_numberOf 29 = oIl 2 30 := (congrFun teX1_numberOf 29).trans rfl
theorem tX1_numberOf_30 : tX1_numberOf 30 = oIf1le 44 33 := (congrFun teX1_numberOf 30).trans rfl
theorem tX1_numberOf_33 : tX1_numberOf 33 = oAl 0 34 := (congrFun teX1_numberOf 33).trans rfl
theorem tX1_numberOf_34 : tX1_numberOf 34 = oGet 1 3 37 := (congrFun teX1_numberOf 34).trans rfl
theorem tX1_numberOf_37 : tX1_numberOf 37 = oIl 2 38 := (congrFun teX1_numberOf 37).trans rfl
theorem tX1_numberOf_38 : tX1_numberOf 38 = oK (.int (nI 1)) 39 := (congrFun teX1_numberOf 38).trans rfl
theorem tX1_numberOf_39 : tX1_numberOf 39 = oSub 40 := (congrFun teX1_numberOf 39).trans rfl
theorem tX1_numberOf_40 : tX1_numberOf 40 = oIald 41 := (congrFun teX1_numberOf 40).trans rfl
theorem tX1_numberOf_41 : tX1_numberOf 41 = oGo 45 := (congrFun teX1_numberOf 41).trans rfl
theorem tX1_numberOf_44 : tX1_numberOf 44 = oK (.int (-1)) 45 := (congrFun teX1_numberOf 44).trans rfl
theorem tX1_numberOf_45 : tX1_numberOf 45 = oIret := (congrFun teX1_numberOf 45).trans rfl
def lX1_numberNode : List (Nat × qP) := [(0, oIl 2 1), (1, oIf1lt 10 4), (4, oIl 2 5), (5, oK (.int (nI 12)) 7), (7, oIf2lt 11 10), (10, oVret), (11, oAl 1 12), (12, oIl 2 13), (13, oCallV 4 mX4_kindOf 1 16), (16, oIs 3 17), (17, oAl 1 18), (18, oIl 2 19), (19, oCallV 4 mX4_leftOf 1 22), (22, oIs 4 24), (24, oAl 1 25), (25, oIl 2 26), (26, oCallV 4 mX4_rightOf 1 29), (29, oIs 5 31), (31, oAl 0 32), (32, oGet 1 4 35), (35, oIl 2 36), (36, oIl 3 37), (37, oCallS mX11_ownCost 1 40), (40, oIast 41), (41, oIl 3 42), (42, oCallS mX11_isLeaf 1 45), (45, oIf1ne 84 48), (48, oIl 4 50), (50, oIf1lt 84 53), (53, oIl 4 55), (55, oIl 2 56), (56, oIf2ge 84 59), (59, oAl 0 60), (60, oGet 1 4 63), (63, oIl 2 64), (64, oDup2 65), (65, oIald 66), (66, oAl 0 67), (67, oGet 1 4 70), (70, oIl 4 72), (72, oIald 73), (73, oAdd 74), (74, oIast 75), (75, oAl 0 76), (76, oGet 1 3 79), (79, oIl 4 81), (81, oIald 82), (82, oIs 4 84), (84, oIl 3 85), (85, oCallS mX11_hasTwoParts 1 88), (88, oIf1eq 127 91), (91, oIl 5 93), (93, oIf1lt 127 96), (96, oIl 5 98), (98, oIl 2 99), (99, oIf2ge 127 102), (102, oAl 0 103), (103, oGet 1 4 106), (106, oIl 2 107), (107, oDup2 108), (108, oIald 109), (109, oAl 0 110), (110, oGet 1 4 113), (113, oIl 5 115), (115, oIald 116), (116, oAdd 117), (117, oIast 118), (118, oAl 0 119), (119, oGet 1 3 122), (122, oIl 5 124), (124, oIald 125), (125, oIs 5 127), (127, oAl 0 128), (128, oGet 1 3 131), (131, oIl 2 132), (132, oAl 0 133), (133, oAl 0 134), (134, oGet 1 4 137), (137, oIl 2 138), (138, oIald 139), (139, oIl 3 140), (140, oIl 4 142), (142, oIl 5 144), (144, oCallV 1 mX1_numberAmong 4 147), (147, oIast 148), (148, oVret)]
def uX1_numberNode : Nat → qP := q_tb lX1_numberNode
set_option maxRecDepth 20000 in
theorem suX1_numberNode : q_Snd mX1_numberNode uX1_numberNode := by
  refine q_tb_ok ?_
  unfold lX1_numberNode
  refine q_fa (ok_iload_n (by decide +kernel : decode cX1_numberNode 0 = .ok (.iload_n 2, 1)) rfl rfl) ?_
  refine q_fa (ok_if1lt (by decide +kernel : decode cX1_numberNode 1 = .ok (.ifCond .lt 9, 3)) (by decide) rfl) ?_
  refine q_fa (ok_iload_n (by decide +kernel : decode cX1_numberNode 4 = .ok (.iload_n 2, 1)) rfl rfl) ?_
  refine q_fa (ok_bipush (by decide +kernel : decode cX1_numberNode 5 = .ok (.bipush 12, 2)) rfl (by decide +kernel)) ?_
  refine q_fa (ok_if2lt (by decide +kernel : decode cX1_numberNode 7 = .ok (.if_icmp .lt 4, 3)) (by decide) rfl) ?_
  refine q_fa (ok_vret (by decide +kernel : decode cX1_numberNode 10 = .ok (.return_, 1)) rfl) ?_
  refine q_fa (ok_aload_n (by decide +kernel : decode cX1_numberNode 11 = .ok (.aload_n 1, 1)) rfl rfl) ?_
  refine q_fa (ok_iload_n (by decide +kernel : decode cX1_numberNode 12 = .ok (.iload_n 2, 1)) rfl rfl) ?_
  refine q_fa (ok_callV (by decide +kernel : decode cX1_numberNode 13 = .ok (.invokevirtual 61, 3)) rfl kX4_kindOf.1 kX4_kindOf.2.1 kX4_kindOf.2.2.1 kX4_kindOf.2.2.2.1 kX4_kindOf.2.2.2.2 (rfl : vwCl[4]? = some (RX4, TX4, 4)) g287 g288 g422) ?_
  refine q_fa (ok_istore_n (by decide +kernel : decode cX1_numberNode 16 = .ok (.istore_n 3, 1)) rfl rfl (by decide)) ?_
  refine q_fa (ok_aload_n (by decide +kernel : decode cX1_numberNode 17 = .ok (.aload_n 1, 1)) rfl rfl) ?_
  refine q_fa (ok_iload_n (by decide +kernel : decode cX1_numberNode 18 = .ok (.iload_n 2, 1)) rfl rfl) ?_
  refine q_fa (ok_callV (by decide +kernel : decode cX1_numberNode 19 = .ok (.invokevirtual 80, 3)) rfl kX4_leftOf.1 kX4_leftOf.2.1 kX4_leftOf.2.2.1 kX4_leftOf.2.2.2.1 kX4_leftOf.2.2.2.2 (rfl : vwCl[4]? = some (RX4, TX4, 4)) g322 g323 g462) ?_
  refine q_fa (ok_istore (by decide +kernel : decode cX1_numberNode 22 = .ok (.istore 4, 2)) rfl (by decide)) ?_
  refine q_fa (ok_aload_n (by decide +kernel : decode cX1_numberNode 24 = .ok (.aload_n 1, 1)) rfl rfl) ?_
  refine q_fa (ok_iload_n (by decide +kernel : decode cX1_numberNode 25 = .ok (.iload_n 2, 1)) rfl rfl) ?_
  refine q_fa (ok_callV (by decide +kernel : decode cX1_numberNode 26 = .ok (.invokevirtual 83, 3)) rfl kX4_rightOf.1 kX4_rightOf.2.1 kX4_rightOf.2.2.1 kX4_rightOf.2.2.2.1 kX4_rightOf.2.2.2.2 (rfl : vwCl[4]? = some (RX4, TX4, 4)) g291 g292 g463) ?_
  refine q_fa (ok_istore (by decide +kernel : decode cX1_numberNode 29 = .ok (.istore 5, 2)) rfl (by decide)) ?_
  refine q_fa (ok_aload_n (by decide +kernel : decode cX1_numberNode 31 = .ok (.aload_n 0, 1)) rfl rfl) ?_
  refine q_fa (ok_get (by decide +kernel : decode cX1_numberNode 32 = .ok (.getfield 30, 3)) rfl (rfl : vwCl[1]? = some (RX1, TX1, 5)) inX1 (by decide) g435) ?_
  refine q_fa (ok_iload_n (by decide +kernel : decode cX1_numberNode 35 = .ok (.iload_n 2, 1)) rfl rfl) ?_
  refine q_fa (ok_iload_n (by decide +kernel : decode cX1_numberNode 36 = .ok (.iload_n 3, 1)) rfl rfl) ?_
  refine q_fa (ok_callSN (by decide +kernel : decode cX1_numberNode 37 = .ok (.invokestatic 55, 3)) rfl kX11_ownCost.1 kX11_ownCost.2.1 kX11_ownCost.2.2.1 kX11_ownCost.2.2.2.1 kX11_ownCost.2.2.2.2 g335 gn404) ?_
  refine q_fa (ok_iastore (by decide +kernel : decode cX1_numberNode 40 = .ok (.iastore, 1)) rfl) ?_
  refine q_fa (ok_iload_n (by decide +kernel : decode cX1_numberNode 41 = .ok (.iload_n 3, 1)) rfl rfl) ?_
  refine q_fa (ok_callSN (by decide +kernel : decode cX1_numberNode 42 = .ok (.invokestatic 86, 3)) rfl kX11_isLeaf.1 kX11_isLeaf.2.1 kX11_isLeaf.2.2.1 kX11_isLeaf.2.2.2.1 kX11_isLeaf.2.2.2.2 g319 gn464) ?_
  refine q_fa (ok_if1ne (by decide +kernel : decode cX1_numberNode 45 = .ok (.ifCond .ne 39, 3)) (by decide) rfl) ?_
  refine q_fa (ok_iload (by decide +kernel : decode cX1_numberNode 48 = .ok (.iload 4, 2)) rfl) ?_
  refine q_fa (ok_if1lt (by decide +kernel : decode cX1_numberNode 50 = .ok (.ifCond .lt 34, 3)) (by decide) rfl) ?_
  refine q_fa (ok_iload (by decide +kernel : decode cX1_numberNode 53 = .ok (.iload 4, 2)) rfl) ?_
  refine q_fa (ok_iload_n (by decide +kernel : decode cX1_numberNode 55 = .ok (.iload_n 2, 1)) rfl rfl) ?_
  refine q_fa (ok_if2ge (by decide +kernel : decode cX1_numberNode 56 = .ok (.if_icmp .ge 28, 3)) (by decide) rfl) ?_
  refine q_fa (ok_aload_n (by decide +kernel : decode cX1_numberNode 59 = .ok (.aload_n 0, 1)) rfl rfl) ?_
  refine q_fa (ok_get (by decide +kernel : decode cX1_numberNode 60 = .ok (.getfield 30, 3)) rfl (rfl : vwCl[1]? = some (RX1, TX1, 5)) inX1 (by decide) g435) ?_
  refine q_fa (ok_iload_n (by decide +kernel : decode cX1_numberNode 63 = .ok (.iload_n 2, 1)) rfl rfl) ?_
  refine q_fa (ok_dup2 (by decide +kernel : decode cX1_numberNode 64 = .ok (.dup2, 1)) rfl) ?_
  refine q_fa (ok_iaload (by decide +kernel : decode cX1_numberNode 65 = .ok (.iaload, 1)) rfl) ?_
  refine q_fa (ok_aload_n (by decide +kernel : decode cX1_numberNode 66 = .ok (.aload_n 0, 1)) rfl rfl) ?_
  refine q_fa (ok_get (by decide +kernel : decode cX1_numberNode 67 = .ok (.getfield 30, 3)) rfl (rfl : vwCl[1]? = some (RX1, TX1, 5)) inX1 (by decide) g435) ?_
  refine q_fa (ok_iload (by decide +kernel : decode cX1_numberNode 70 = .ok (.iload 4, 2)) rfl) ?_
  refine q_fa (ok_iaload (by decide +kernel : decode cX1_numberNode 72 = .ok (.iaload, 1)) rfl) ?_
  refine q_fa (ok_iadd (by decide +kernel : decode cX1_numberNode 73 = .ok (.iadd, 1)) rfl) ?_
  refine q_fa (ok_iastore (by decide +kernel : decode cX1_numberNode 74 = .ok (.iastore, 1)) rfl) ?_
  refine q_fa (ok_aload_n (by decide +kernel : decode cX1_numberNode 75 = .ok (.aload_n 0, 1)) rfl rfl) ?_
  refine q_fa (ok_get (by decide +kernel : decode cX1_numberNode 76 = .ok (.getfield 27, 3)) rfl (rfl : vwCl[1]? = some (RX1, TX1, 5)) inX1 (by decide) g434) ?_
  refine q_fa (ok_iload (by decide +kernel : decode cX1_numberNode 79 = .ok (.iload 4, 2)) rfl) ?_
  refine q_fa (ok_iaload (by decide +kernel : decode cX1_numberNode 81 = .ok (.iaload, 1)) rfl) ?_
  refine q_fa (ok_istore (by decide +kernel : decode cX1_numberNode 82 = .ok (.istore 4, 2)) rfl (by decide)) ?_
  refine q_fa (ok_iload_n (by decide +kernel : decode cX1_numberNode 84 = .ok (.iload_n 3, 1)) rfl rfl) ?_
  refine q_fa (ok_callSN (by decide +kernel : decode cX1_numberNode 85 = .ok (.invokestatic 90, 3)) rfl kX11_hasTwoParts.1 kX11_hasTwoParts.2.1 kX11_hasTwoParts.2.2.1 kX11_hasTwoParts.2.2.2.1 kX11_hasTwoParts.2.2.2.2 g327 gn465) ?_
  refine q_fa (ok_if1eq (by decide +kernel : decode cX1_numberNode 88 = .ok (.ifCond .eq 39, 3)) (by decide) rfl) ?_
  refine q_fa (ok_iload (by decide +kernel : decode cX1_numberNode 91 = .ok (.iload 5, 2)) rfl) ?_
  refine q_fa (ok_if1lt (by decide +kernel : decode cX1_numberNode 93 = .ok (.ifCond .lt 34, 3)) (by decide) rfl) ?_
  refine q_fa (ok_iload (by decide +kernel : decode cX1_numberNode 96 = .ok (.iload 5, 2)) rfl) ?_
  refine q_fa (ok_iload_n (by decide +kernel : decode cX1_numberNode 98 = .ok (.iload_n 2, 1)) rfl rfl) ?_
  refine q_fa (ok_if2ge (by decide +kernel : decode cX1_numberNode 99 = .ok (.if_icmp .ge 28, 3)) (by decide) rfl) ?_
  refine q_fa (ok_aload_n (by decide +kernel : decode cX1_numberNode 102 = .ok (.aload_n 0, 1)) rfl rfl) ?_
  refine q_fa (ok_get (by decide +kernel : decode cX1_numberNode 103 = .ok (.getfield 30, 3)) rfl (rfl : vwCl[1]? = some (RX1, TX1, 5)) inX1 (by decide) g435) ?_
  refine q_fa (ok_iload_n (by decide +kernel : decode cX1_numberNode 106 = .ok (.iload_n 2, 1)) rfl rfl) ?_
  refine q_fa (ok_dup2 (by decide +kernel : decode cX1_numberNode 107 = .ok (.dup2, 1)) rfl) ?_
  refine q_fa (ok_iaload (by decide +kernel : decode cX1_numberNode 108 = .ok (.iaload, 1)) rfl) ?_
  refine q_fa (ok_aload_n (by decide +kernel : decode cX1_numberNode 109 = .ok (.aload_n 0, 1)) rfl rfl) ?_
  refine q_fa (ok_get (by decide +kernel : decode cX1_numberNode 110 = .ok (.getfield 30, 3)) rfl (rfl : vwCl[1]? = some (RX1, TX1, 5)) inX1 (by decide) g435) ?_
  refine q_fa (ok_iload (by decide +kernel : decode cX1_numberNode 113 = .ok (.iload 5, 2)) rfl) ?_
  refine q_fa (ok_iaload (by decide +kernel : decode cX1_numberNode 115 = .ok (.iaload, 1)) rfl) ?_
  refine q_fa (ok_iadd (by decide +kernel : decode cX1_numberNode 116 = .ok (.iadd, 1)) rfl) ?_
  refine q_fa (ok_iastore (by decide +kernel : decode cX1_numberNode 117 = .ok (.iastore, 1)) rfl) ?_
  refine q_fa (ok_aload_n (by decide +kernel : decode cX1_numberNode 118 = .ok (.aload_n 0, 1)) rfl rfl) ?_
  refine q_fa (ok_get (by decide +kernel : decode cX1_numberNode 119 = .ok (.getfield 27, 3)) rfl (rfl : vwCl[1]? = some (RX1, TX1, 5)) inX1 (by decide) g434) ?_
  refine q_fa (ok_iload (by decide +kernel : decode cX1_numberNode 122 = .ok (.iload 5, 2)) rfl) ?_
  refine q_fa (ok_iaload (by decide +kernel : decode cX1_numberNode 124 = .ok (.iaload, 1)) rfl) ?_
  refine q_fa (ok_istore (by decide +kernel : decode cX1_numberNode 125 = .ok (.istore 5, 2)) rfl (by decide)) ?_
  refine q_fa (ok_aload_n (by decide +kernel : decode cX1_numberNode 127 = .ok (.aload_n 0, 1)) rfl rfl) ?_
  refine q_fa (ok_get (by decide +kernel : decode cX1_numberNode 128 = .ok (.getfield 27, 3)) rfl (rfl : vwCl[1]? = some (RX1, TX1, 5)) inX1 (by decide) g434) ?_
  refine q_fa (ok_iload_n (by decide +kernel : decode cX1_numberNode 131 = .ok (.iload_n 2, 1)) rfl rfl) ?_
  refine q_fa (ok_aload_n (by decide +kernel : decode cX1_numberNode 132 = .ok (.aload_n 0, 1)) rfl rfl) ?_
  refine q_fa (ok_aload_n (by decide +kernel : decode cX1_numberNode 133 = .ok (.aload_n 0, 1)) rfl rfl) ?_
  refine q_fa (ok_get (by decide +kernel : decode cX1_numberNode 134 = .ok (.getfield 30, 3)) rfl (rfl : vwCl[1]? = some (RX1, TX1, 5)) inX1 (by decide) g435) ?_
  refine q_fa (ok_iload_n (by decide +kernel : decode cX1_numberNode 137 = .ok (.iload_n 2, 1)) rfl rfl) ?_
  refine q_fa (ok_iaload (by decide +kernel : decode cX1_numberNode 138 = .ok (.iaload, 1)) rfl) ?_
  refine q_fa (ok_iload_n (by decide +kernel : decode cX1_numberNode 139 = .ok (.iload_n 3, 1)) rfl rfl) ?_
  refine q_fa (ok_iload (by decide +kernel : decode cX1_numberNode 140 = .ok (.iload 4, 2)) rfl) ?_
  refine q_fa (ok_iload (by decide +kernel : decode cX1_numberNode 142 = .ok (.iload 5, 2)) rfl) ?_
  refine q_fa (ok_callV (by decide +kernel : decode cX1_numberNode 144 = .ok (.invokevirtual 93, 3)) rfl kX1_numberAmong.1 kX1_numberAmong.2.1 kX1_numberAmong.2.2.1 kX1_numberAmong.2.2.2.1 kX1_numberAmong.2.2.2.2 (rfl : vwCl[1]? = some (RX1, TX1, 5)) g468 gs20 g466) ?_
  refine q_fa (ok_iastore (by decide +kernel : decode cX1_numberNode 147 = .ok (.iastore, 1)) rfl) ?_
  refine q_fa (ok_vret (by decide +kernel : decode cX1_numberNode 148 = .ok (.return_, 1)) rfl) ?_
  exact q_fa0
theorem exX1_numberNode : ∃ t : Nat → qP, t = uX1_numberNode := ⟨_, rfl⟩
noncomputable def tX1_numberNode : Nat → qP := Classical.choose exX1_numberNode
theorem teX1_numberNode : tX1_numberNode = uX1_numberNode := Classical.choose_spec exX1_numberNode
theorem sX1_numberNode : q_Snd mX1_numberNode tX1_numberNode := by rw [teX1_numberNode]; exact suX1_numberNode
theorem tX1_numberNode_0 : tX1_numberNode 0 = oIl 2 1 := (congrFun teX1_numberNode 0).trans rfl
theorem tX1_numberNode_1 : tX1_numberNode 1 = oIf1lt 10 4 := (congrFun teX1_numberNode 1).trans rfl
theorem tX1_numberNode_4 : tX1_numberNode 4 = oIl 2 5 := (congrFun teX1_numberNode 4).trans rfl
theorem tX1_numberNode_5 : tX1_numberNode 5 = oK (.int (nI 12)) 7 := (congrFun teX1_numberNode 5).trans rfl
theorem tX1_numberNode_7 : tX1_numberNode 7 = oIf2lt 11 10 := (congrFun teX1_numberNode 7).trans rfl
theorem tX1_numberNode_10 : tX1_numberNode 10 = oVret := (congrFun teX1_numberNode 10).trans rfl
theorem tX1_numberNode_11 : tX1_numberNode 11 = oAl 1 12 := (congrFun teX1_numberNode 11).trans rfl
theorem tX1_numberNode_12 : tX1_numberNode 12 = oIl 2 13 := (congrFun teX1_numberNode 12).trans rfl
theorem tX1_numberNode_13 : tX1_numberNode 13 = oCallV 4 mX4_kindOf 1 16 := (congrFun teX1_numberNode 13).trans rfl
theorem tX1_numberNode_16 : tX1_numberNode 16 = oIs 3 17 := (congrFun teX1_numberNode 16).trans rfl
theorem tX1_numberNode_17 : tX1_numberNode 17 = oAl 1 18 := (congrFun teX1_numberNode 17).trans rfl
theorem tX1_numberNode_18 : tX1_numberNode 18 = oIl 2 19 := (congrFun teX1_numberNode 18).trans rfl
theorem tX1_numberNode_19 : tX1_numberNode 19 = oCallV 4 mX4_leftOf 1 22 := (congrFun teX1_numberNode 19).trans rfl
theorem tX1_numberNode_22 : tX1_numberNode 22 = oIs 4 24 := (congrFun teX1_numberNode 22).trans rfl
theorem tX1_numberNode_24 : tX1_numberNode 24 = oAl 1 25 := (congrFun teX1_numberNode 24).trans rfl
theorem tX1_numberNode_25 : tX1_numberNode 25 = oIl 2 26 := (congrFun teX1_numberNode 25).trans rfl
theorem tX1_numberNode_26 : tX1_numberNode 26 = oCallV 4 mX4_rightOf 1 29 := (congrFun teX1_numberNode 26).trans rfl
theorem tX1_numberNode_29 : tX1_numberNode 29 = oIs 5 31 := (congrFun teX1_numberNode 29).trans rfl
theorem tX1_numberNode_31 : tX1_numberNode 31 = oAl 0 32 := (congrFun teX1_numberNode 31).trans rfl
theorem tX1_numberNode_32 : tX1_numberNode 32 = oGet 1 4 35 := (congrFun teX1_numberNode 32).trans rfl
theorem tX1_numberNode_35 : tX1_numberNode 35 = oIl 2 36 := (congrFun teX1_numberNode 35).trans rfl
theorem tX1_numberNode_36 : tX1_numberNode 36 = oIl 3 37 := (congrFun teX1_numberNode 36).trans rfl
theorem tX1_numberNode_37 : tX1_numberNode 37 = oCallS mX11_ownCost 1 40 := (congrFun teX1_numberNode 37).trans rfl
theorem tX1_numberNode_40 : tX1_numberNode 40 = oIast 41 := (congrFun teX1_numberNode 40).trans rfl
theorem tX1_numberNode_41 : tX1_numberNode 41 = oIl 3 42 := (congrFun teX1_numberNode 41).trans rfl
theorem tX1_numberNode_42 : tX1_numberNode 42 = oCallS mX11_isLeaf 1 45 := (congrFun teX1_numberNode 42).trans rfl
theorem tX1_numberNode_45 : tX1_numberNode 45 = oIf1ne 84 48 := (congrFun teX1_numberNode 45).trans rfl
theorem tX1_numberNode_48 : tX1_numberNode 48 = oIl 4 50 := (congrFun teX1_numberNode 48).trans rfl
theorem tX1_numberNode_50 : tX1_numberNode 50 = oIf1lt 84 53 := (congrFun teX1_numberNode 50).trans rfl
theorem tX1_numberNode_53 : tX1_numberNode 53 = oIl 4 55 := (congrFun teX1_numberNode 53).trans rfl
theorem tX1_numberNode_55 : tX1_numberNode 55 = oIl 2 56 := (congrFun teX1_numberNode 55).trans rfl
theorem tX1_numberNode_56 : tX1_numberNode 56 = oIf2ge 84 59 := (congrFun teX1_numberNode 56).trans rfl
theorem tX1_numberNode_59 : tX1_numberNode 59 = oAl 0 60 := (congrFun teX1_numberNode 59).trans rfl
theorem tX1_numberNode_60 : tX1_numberNode 60 = oGet 1 4 63 := (congrFun teX1_numberNode 60).trans rfl
theorem tX1_numberNode_63 : tX1_numberNode 63 = oIl 2 64 := (congrFun teX1_numberNode 63).trans rfl
theorem tX1_numberNode_64 : tX1_numberNode 64 = oDup2 65 := (congrFun teX1_numberNode 64).trans rfl
theorem tX1_numberNode_65 : tX1_numberNode 65 = oIald 66 := (congrFun teX1_numberNode 65).trans rfl
theorem tX1_numberNode_66 : tX1_numberNode 66 = oAl 0 67 := (congrFun teX1_numberNode 66).trans rfl
theorem tX1_numberNode_67 : tX1_numberNode 67 = oGet 1 4 70 := (congrFun teX1_numberNode 67).trans rfl
theorem tX1_numberNode_70 : tX1_numberNode 70 = oIl 4 72 := (congrFun teX1_numberNode 70).trans rfl
theorem tX1_numberNode_72 : tX1_numberNode 72 = oIald 73 := (congrFun teX1_numberNode 72).trans rfl
theorem tX1_numberNode_73 : tX1_numberNode 73 = oAdd 74 := (congrFun teX1_numberNode 73).trans rfl
theorem tX1_numberNode_74 : tX1_numberNode 74 = oIast 75 := (congrFun teX1_numberNode 74).trans rfl
theorem tX1_numberNode_75 : tX1_numberNode 75 = oAl 0 76 := (congrFun teX1_numberNode 75).trans rfl
theorem tX1_numberNode_76 : tX1_numberNode 76 = oGet 1 3 79 := (congrFun teX1_numberNode 76).trans rfl
theorem tX1_numberNode_79 : tX1_numberNode 79 = oIl 4 81 := (congrFun teX1_numberNode 79).trans rfl
theorem tX1_numberNode_81 : tX1_numberNode 81 = oIald 82 := (congrFun teX1_numberNode 81).trans rfl
theorem tX1_numberNode_82 : tX1_numberNode 82 = oIs 4 84 := (congrFun teX1_numberNode 82).trans rfl
theorem tX1_numberNode_84 : tX1_numberNode 84 = oIl 3 85 := (congrFun teX1_numberNode 84).trans rfl
theorem tX1_numberNode_85 : tX1_numberNode 85 = oCallS mX11_hasTwoParts 1 88 := (congrFun teX1_numberNode 85).trans rfl
theorem tX1_numberNode_88 : tX1_numberNode 88 = oIf1eq 127 91 := (congrFun teX1_numberNode 88).trans rfl
theorem tX1_numberNode_91 : tX1_numberNode 91 = oIl 5 93 := (congrFun teX1_numberNode 91).trans rfl
theorem tX1_numberNode_93 : tX1_numberNode 93 = oIf1lt 127 96 := (congrFun teX1_numberNode 93).trans rfl
theorem tX1_numberNode_96 : tX1_numberNode 96 = oIl 5 98 := (congrFun teX1_numberNode 96).trans rfl
theorem tX1_numberNode_98 : tX1_numberNode 98 = oIl 2 99 := (congrFun teX1_numberNode 98).trans rfl
theorem tX1_numberNode_99 : tX1_numberNode 99 = oIf2ge 127 102 := (congrFun teX1_numberNode 99).trans rfl
theorem tX1_numberNode_102 : tX1_numberNode 102 = oAl 0 103 := (congrFun teX1_numberNode 102).trans rfl
theorem tX1_numberNode_103 : tX1_numberNode 103 = oGet 1 4 106 := (congrFun teX1_numberNode 103).trans rfl
theorem tX1_numberNode_106 : tX1_numberNode 106 = oIl 2 107 := (congrFun teX1_numberNode 106).trans rfl
theorem tX1_numberNode_107 : tX1_numberNode 107 = oDup2 108 := (congrFun teX1_numberNode 107).trans rfl
theorem tX1_numberNode_108 : tX1_numberNode 108 = oIald 109 := (congrFun teX1_numberNode 108).trans rfl
theorem tX1_numberNode_109 : tX1_numberNode 109 = oAl 0 110 := (congrFun teX1_numberNode 109).trans rfl
theorem tX1_numberNode_110 : tX1_numberNode 110 = oGet 1 4 113 := (congrFun teX1_numberNode 110).trans rfl
theorem tX1_numberNode_113 : tX1_numberNode 113 = oIl 5 115 := (congrFun teX1_numberNode 113).trans rfl
theorem tX1_numberNode_115 : tX1_numberNode 115 = oIald 116 := (congrFun teX1_numberNode 115).trans rfl
theorem tX1_numberNode_116 : tX1_numberNode 116 = oAdd 117 := (congrFun teX1_numberNode 116).trans rfl
theorem tX1_numberNode_117 : tX1_numberNode 117 = oIast 118 := (congrFun teX1_numberNode 117).trans rfl
theorem tX1_numberNode_118 : tX1_numberNode 118 = oAl 0 119 := (congrFun teX1_numberNode 118).trans rfl
theorem tX1_numberNode_119 : tX1_numberNode 119 = oGet 1 3 122 := (congrFun teX1_numberNode 119).trans rfl
theorem tX1_numberNode_122 : tX1_numberNode 122 = oIl 5 124 := (congrFun teX1_numberNode 122).trans rfl
theorem tX1_numberNode_124 : tX1_numberNode 124 = oIald 125 := (congrFun teX1_numberNode 124).trans rfl
theorem tX1_numberNode_125 : tX1_numberNode 125 = oIs 5 127 := (congrFun teX1_numberNode 125).trans rfl
theorem tX1_numberNode_127 : tX1_numberNode 127 = oAl 0 128 := (congrFun teX1_numberNode 127).trans rfl
theorem tX1_numberNode_128 : tX1_numberNode 128 = oGet 1 3 131 := (congrFun teX1_numberNode 128).trans rfl
theorem tX1_numberNode_131 : tX1_numberNode 131 = oIl 2 132 := (congrFun teX1_numberNode 131).trans rfl
theorem tX1_numberNode_132 : tX1_numberNode 132 = oAl 0 133 := (congrFun teX1_numberNode 132).trans rfl
theorem tX1_numberNode_133 : tX1_numberNode 133 = oAl 0 134 := (congrFun teX1_numberNode 133).trans rfl
theorem tX1_numberNode_134 : tX1_numberNode 134 = oGet 1 4 137 := (congrFun teX1_numberNode 134).trans rfl
theorem tX1_numberNode_137 : tX1_numberNode 137 = oIl 2 138 := (congrFun teX1_numberNode 137).trans rfl
theorem tX1_numberNode_138 : tX1_numberNode 138 = oIald 139 := (congrFun teX1_numberNode 138).trans rfl
theorem tX1_numberNode_139 : tX1_numberNode 139 = oIl 3 140 := (congrFun teX1_numberNode 139).trans rfl
theorem tX1_numberNode_140 : tX1_numberNode 140 = oIl 4 142 := (congrFun teX1_numberNode 140).trans rfl
theorem tX1_numberNode_142 : tX1_numberNode 142 = oIl 5 144 := (congrFun teX1_numberNode 142).trans rfl
theorem tX1_numberNode_144 : tX1_numberNode 144 = oCallV 1 mX1_numberAmong 4 147 := (congrFun teX1_numberNode 144).trans rfl
theorem tX1_numberNode_147 : tX1_numberNode 147 = oIast 148 := (congrFun teX1_numberNode 147).trans rfl
theorem tX1_numberNode_148 : tX1_numberNode 148 = oVret := (congrFun teX1_numberNode 148).trans rfl
def lX1_numberAmong : List (Nat × qP) := [(0, oAl 0 1), (1, oIl 1 2), (2, oCallV 1 mX1_begin 1 5), (5, oIs 5 7), (7, oIl 5 9), (9, oAl 0 10), (10, oIl 1 11), (11, oCallV 1 mX1_end 1 14), (14, oIf2ge 66 17), (17, oAl 0 18), (18, oGet 1 0 21), (21, oIl 5 23), (23, oCallV 4 mX4_kindOf 1 26), (26, oIl 2 27), (27, oIf2ne 60 30), (30, oAl 0 31), (31, oGet 1 0 34), (34, oIl 5 36), (36, oCallV 4 mX4_leftOf 1 39), (39, oIl 3 40), (40, oIf2ne 60 43), (43, oAl 0 44), (44, oGet 1 0 47), (47, oIl 5 49), (49, oCallV 4 mX4_rightOf 1 52), (52, oIl 4 54), (54, oIf2ne 60 57), (57, oIl 5 59), (59, oIret), (60, oInc 5 (nI 1) 63), (63, oGo 7), (66, oK (.int (-1)) 67), (67, oIret)]
def uX1_numberAmong : Nat → qP := q_tb lX1_numberAmong
set_option maxRecDepth 20000 in
theorem suX1_numberAmong : q_Snd mX1_numberAmong uX1_numberAmong := by
  refine q_tb_ok ?_
  unfold lX1_numberAmong
  refine q_fa (ok_aload_n (by decide +kernel : decode cX1_numberAmong 0 = .ok (.aload_n 0, 1)) rfl rfl) ?_
  refine q_fa (ok_iload_n (by decide +kernel : decode cX1_numberAmong 1 = .ok (.iload_n 1, 1)) rfl rfl) ?_
  refine q_fa (ok_callV (by decide +kernel : decode cX1_numberAmong 2 = .ok (.invokevirtual 48, 3)) rfl kX1_begin.1 kX1_begin.2.1 kX1_begin.2.2.1 kX1_begin.2.2.2.1 kX1_begin.2.2.2.2 (rfl : vwCl[1]? = some (RX1, TX1, 5)) g415 g416 g414) ?_
  refine q_fa (ok_istore (by decide +kernel : decode cX1_numberAmong 5 = .ok (.istore 5, 2)) rfl (by decide)) ?_
  refine q_fa (ok_iload (by decide +kernel : decode cX1_numberAmong 7 = .ok (.iload 5, 2)) rfl) ?_
  refine q_fa (ok_aload_n (by decide +kernel : decode cX1_numberAmong 9 = .ok (.aload_n 0, 1)) rfl rfl) ?_
  refine q_fa (ok_iload_n (by decide +kernel : decode cX1_numberAmong 10 = .ok (.iload_n 1, 1)) rfl rfl) ?_
  refine q_fa (ok_callV (by decide +kernel : decode cX1_numberAmong 11 = .ok (.invokevirtual 52, 3)) rfl kX1_end.1 kX1_end.2.1 kX1_end.2.2.1 kX1_end.2.2.2.1 kX1_end.2.2.2.2 (rfl : vwCl[1]? = some (RX1, TX1, 5)) g419 g420 g418) ?_
  refine q_fa (ok_if2ge (by decide +kernel : decode cX1_numberAmong 14 = .ok (.if_icmp .ge 52, 3)) (by decide) rfl) ?_
  refine q_fa (ok_aload_n (by decide +kernel : decode cX1_numberAmong 17 = .ok (.aload_n 0, 1)) rfl rfl) ?_
  refine q_fa (ok_get (by decide +kernel : decode cX1_numberAmong 18 = .ok (.getfield 14, 3)) rfl (rfl : vwCl[1]? = some (RX1, TX1, 5)) inX1 (by decide) g431) ?_
  refine q_fa (ok_iload (by decide +kernel : decode cX1_numberAmong 21 = .ok (.iload 5, 2)) rfl) ?_
  refine q_fa (ok_callV (by decide +kernel : decode cX1_numberAmong 23 = .ok (.invokevirtual 61, 3)) rfl kX4_kindOf.1 kX4_kindOf.2.1 kX4_kindOf.2.2.1 kX4_kindOf.2.2.2.1 kX4_kindOf.2.2.2.2 (rfl : vwCl[4]? = some (RX4, TX4, 4)) g287 g288 g422) ?_
  refine q_fa (ok_iload_n (by decide +kernel : decode cX1_numberAmong 26 = .ok (.iload_n 2, 1)) rfl rfl) ?_
  refine q_fa (ok_if2ne (by decide +kernel : decode cX1_numberAmong 27 = .ok (.if_icmp .ne 33, 3)) (by decide) rfl) ?_
  refine q_fa (ok_aload_n (by decide +kernel : decode cX1_numberAmong 30 = .ok (.aload_n 0, 1)) rfl rfl) ?_
  refine q_fa (ok_get (by decide +kernel : decode cX1_numberAmong 31 = .ok (.getfield 14, 3)) rfl (rfl : vwCl[1]? = some (RX1, TX1, 5)) inX1 (by decide) g431) ?_
  refine q_fa (ok_iload (by decide +kernel : decode cX1_numberAmong 34 = .ok (.iload 5, 2)) rfl) ?_
  refine q_fa (ok_callV (by decide +kernel : decode cX1_numberAmong 36 = .ok (.invokevirtual 80, 3)) rfl kX4_leftOf.1 kX4_leftOf.2.1 kX4_leftOf.2.2.1 kX4_leftOf.2.2.2.1 kX4_leftOf.2.2.2.2 (rfl : vwCl[4]? = some (RX4, TX4, 4)) g322 g323 g462) ?_
  refine q_fa (ok_iload_n (by decide +kernel : decode cX1_numberAmong 39 = .ok (.iload_n 3, 1)) rfl rfl) ?_
  refine q_fa (ok_if2ne (by decide +kernel : decode cX1_numberAmong 40 = .ok (.if_icmp .ne 20, 3)) (by decide) rfl) ?_
  refine q_fa (ok_aload_n (by decide +kernel : decode cX1_numberAmong 43 = .ok (.aload_n 0, 1)) rfl rfl) ?_
  refine q_fa (ok_get (by decide +kernel : decode cX1_numberAmong 44 = .ok (.getfield 14, 3)) rfl (rfl : vwCl[1]? = some (RX1, TX1, 5)) inX1 (by decide) g431) ?_
  refine q_fa (ok_iload (by decide +kernel : decode cX1_numberAmong 47 = .ok (.iload 5, 2)) rfl) ?_
  refine q_fa (ok_callV (by decide +kernel : decode cX1_numberAmong 49 = .ok (.invokevirtual 83, 3)) rfl kX4_rightOf.1 kX4_rightOf.2.1 kX4_rightOf.2.2.1 kX4_rightOf.2.2.2.1 kX4_rightOf.2.2.2.2 (rfl : vwCl[4]? = some (RX4, TX4, 4)) g291 g292 g463) ?_
  refine q_fa (ok_iload (by decide +kernel : decode cX1_numberAmong 52 = .ok (.iload 4, 2)) rfl) ?_
  refine q_fa (ok_if2ne (by decide +kernel : decode cX1_numberAmong 54 = .ok (.if_icmp .ne 6, 3)) (by decide) rfl) ?_
  refine q_fa (ok_iload (by decide +kernel : decode cX1_numberAmong 57 = .ok (.iload 5, 2)) rfl) ?_
  refine q_fa (ok_iret (by decide +kernel : decode cX1_numberAmong 59 = .ok (.ireturn, 1)) rfl) ?_
  refine q_fa (ok_iinc (by decide +kernel : decode cX1_numberAmong 60 = .ok (.iinc 5 1, 3)) rfl (by decide +kernel) (by decide)) ?_
  refine q_fa (ok_goto (by decide +kernel : decode cX1_numberAmong 63 = .ok (.goto (-56), 3)) (by decide)) ?_
  refine q_fa (ok_iconst (by decide +kernel : decode cX1_numberAmong 66 = .ok (.iconst (-1), 1)) rfl (by decide +kernel)) ?_
  refine q_fa (ok_iret (by decide +kernel : decode cX1_numberAmong 67 = .ok (.ireturn, 1)) rfl) ?_
  exact q_fa0
theorem exX1_numberAmong : ∃ t : Nat → qP, t = uX1_numberAmong := ⟨_, rfl⟩
noncomputable def tX1_numberAmong : Nat → qP := Classical.choose exX1_numberAmong
theorem teX1_numberAmong : tX1_numberAmong = uX1_numberAmong := Classical.choose_spec exX1_numberAmong
theorem sX1_numberAmong : q_Snd mX1_numberAmong tX1_numberAmong := by rw [teX1_numberAmong]; exact suX1_numberAmong
theorem tX1_numberAmong_0 : tX1_numberAmong 0 = oAl 0 1 := (congrFun teX1_numberAmong 0).trans rfl
theorem tX1_numberAmong_1 : tX1_numberAmong 1 = oIl 1 2 := (congrFun teX1_numberAmong 1).trans rfl
theorem tX1_numberAmong_2 : tX1_numberAmong 2 = oCallV 1 mX1_begin 1 5 := (congrFun teX1_numberAmong 2).trans rfl
theorem tX1_numberAmong_5 : tX1_numberAmong 5 = oIs 5 7 := (congrFun teX1_numberAmong 5).trans rfl
theorem tX1_numberAmong_7 : tX1_numberAmong 7 = oIl 5 9 := (congrFun teX1_numberAmong 7).trans rfl
theorem tX1_numberAmong_9 : tX1_numberAmong 9 = oAl 0 10 := (congrFun teX1_numberAmong 9).trans rfl
theorem tX1_numberAmong_10 : tX1_numberAmong 10 = oIl 1 11 := (congrFun teX1_numberAmong 10).trans rfl
theorem tX1_numberAmong_11 : tX1_numberAmong 11 = oCallV 1 mX1_end 1 14 := (congrFun teX1_numberAmong 11).trans rfl
theorem tX1_numberAmong_14 : tX1_numberAmong 14 = oIf2ge 66 17 := (congrFun teX1_numberAmong 14).trans rfl
theorem tX1_numberAmong_17 : tX1_numberAmong 17 = oAl 0 18 := (congrFun teX1_numberAmong 17).trans rfl
theorem tX1_numberAmong_18 : tX1_numberAmong 18 = oGet 1 0 21 := (congrFun teX1_numberAmong 18).trans rfl
theorem tX1_numberAmong_21 : tX1_numberAmong 21 = oIl 5 23 := (congrFun teX1_numberAmong 21).trans rfl
theorem tX1_numberAmong_23 : tX1_numberAmong 23 = oCallV 4 mX4_kindOf 1 26 := (congrFun teX1_numberAmong 23).trans rfl
theorem tX1_numberAmong_26 : tX1_numberAmong 26 = oIl 2 27 := (congrFun teX1_numberAmong 26).trans rfl
theorem tX1_numberAmong_27 : tX1_numberAmong 27 = oIf2ne 60 30 := (congrFun teX1_numberAmong 27).trans rfl
theorem tX1_numberAmong_30 : tX1_numberAmong 30 = oAl 0 31 := (congrFun teX1_numberAmong 30).trans rfl
theorem tX1_numberAmong_31 : tX1_numberAmong 31 = oGet 1 0 34 := (congrFun teX1_numberAmong 31).trans rfl
theorem tX1_numberAmong_34 : tX1_numberAmong 34 = oIl 5 36 := (congrFun teX1_numberAmong 34).trans rfl
theorem tX1_numberAmong_36 : tX1_numberAmong 36 = oCallV 4 mX4_leftOf 1 39 := (congrFun teX1_numberAmong 36).trans rfl
theorem tX1_numberAmong_39 : tX1_numberAmong 39 = oIl 3 40 := (congrFun teX1_numberAmong 39).trans rfl
theorem tX1_numberAmong_40 : tX1_numberAmong 40 = oIf2ne 60 43 := (congrFun teX1_numberAmong 40).trans rfl
theorem tX1_numberAmong_43 : tX1_numberAmong 43 = oAl 0 44 := (congrFun teX1_numberAmong 43).trans rfl
theorem tX1_numberAmong_44 : tX1_numberAmong 44 = oGet 1 0 47 := (congrFun teX1_numberAmong 44).trans rfl
theorem tX1_numberAmong_47 : tX1_numberAmong 47 = oIl 5 49 := (congrFun teX1_numberAmong 47).trans rfl
theorem tX1_numberAmong_49 : tX1_numberAmong 49 = oCallV 4 mX4_rightOf 1 52 := (congrFun teX1_numberAmong 49).trans rfl
theorem tX1_numberAmong_52 : tX1_numberAmong 52 = oIl 4 54 := (congrFun teX1_numberAmong 52).trans rfl
theorem tX1_numberAmong_54 : tX1_numberAmong 54 = oIf2ne 60 57 := (congrFun teX1_numberAmong 54).trans rfl
theorem tX1_numberAmong_57 : tX1_numberAmong 57 = oIl 5 59 := (congrFun teX1_numberAmong 57).trans rfl
theorem tX1_numberAmong_59 : tX1_numberAmong 59 = oIret := (congrFun teX1_numberAmong 59).trans rfl
theorem tX1_numberAmong_60 : tX1_numberAmong 60 = oInc 5 (nI 1) 63 := (congrFun teX1_numberAmong 60).trans rfl
theorem tX1_numberAmong_63 : tX1_numberAmong 63 = oGo 7 := (congrFun teX1_numberAmong 63).trans rfl
theorem tX1_numberAmong_66 : tX1_numberAmong 66 = oK (.int (-1)) 67 := (congrFun teX1_numberAmong 66).trans rfl
theorem tX1_numberAmong_67 : tX1_numberAmong 67 = oIret := (congrFun teX1_numberAmong 67).trans rfl
def lX2_init : List (Nat × qP) := [(0, oAl 0 1), (1, oObj 4), (4, oAl 0 5), (5, oNew 3 6 [.null, .null, .null, .null, .null, .int 0] 8), (8, oDup 9), (9, oCallI mX3_init 0 12), (12, oPutR 2 2 15), (15, oAl 0 16), (16, oK (.int (nI 4937)) 19), (19, oNewa 1 21), (21, oPutR 2 3 24), (24, oAl 0 25), (25, oK (.int (nI 4937)) 28), (28, oNewa 1 30), (30, oPutR 2 4 33), (33, oAl 0 34), (34, oNew 8 2 [.null, .null] 37), (37, oDup 38), (38, oK (.int (nI 4937)) 41), (41, oCallI mX8_init 1 44), (44, oPutR 2 5 47), (47, oAl 0 48), (48, oK (.int (nI 1284)) 51), (51, oNewa 1 53), (53, oPutR 2 7 56), (56, oAl 0 57), (57, oK (.int (nI 40)) 59), (59, oNewa 1 61), (61, oPutR 2 9 64), (64, oAl 0 65), (65, oK (.int (nI 1284)) 68), (68, oNewa 1 70), (70, oPutR 2 11 73), (73, oAl 0 74), (74, oAl 1 75), (75, oPutR 2 0 78), (78, oAl 0 79), (79, oAl 2 80), (80, oPutR 2 1 83), (83, oAl 1 84), (84, oCallV 1 mX1_nodes 0 87), (87, oAs 3 88), (88, oAl 3 89), (89, oCallV 4 mX4_size 0 92), (92, oK (.int (nI 4937)) 95), (95, oMin 98), (98, oIs 4 100), (100, oK (.int (nI 0)) 101), (101, oIs 5 103), (103, oIl 5 105), (105, oIl 4 107), (107, oIf2ge 191 110), (110, oAl 3 111), (111, oIl 5 113), (113, oCallV 4 mX4_kindOf 1 116), (116, oIs 6 118), (118, oAl 3 119), (119, oIl 5 121), (121, oCallV 4 mX4_leftOf 1 124), (124, oIs 7 126), (126, oAl 3 127), (127, oIl 5 129), (129, oCallV 4 mX4_rightOf 1 132), (132, oIs 8 134), (134, oAl 0 135), (135, oGet 2 3 138), (138, oIl 5 140), (140, oIl 6 142), (142, oCallS mX11_isLeaf 1 145), (145, oIf1eq 163 148), (148, oAl 0 149), (149, oGet 2 2 152), (152, oIl 6 154), (154, oIl 7 156), (156, oK (.int (nI 0)) 157), (157, oCallV 3 mX3_meaningOf 3 160), (160, oGo 184), (163, oAl 0 164), (164, oGet 2 2 167), (167, oIl 6 169), (169, oAl 0 170), (170, oIl 7 172), (172, oCallV 2 mX2_meaningAt 1 175), (175, oAl 0 176), (176, oIl 8 178), (178, oCallV 2 mX2_meaningAt 1 181), (181, oCallV 3 mX3_meaningOf 3 184), (184, oIast 185), (185, oInc 5 (nI 1) 188), (188, oGo 103), (191, oVret)]
def uX2_init : Nat → qP := q_tb lX2_init
set_option maxRecDepth 20000 in
theorem suX2_init : q_Snd mX2_init uX2_init := by
  refine q_tb_ok ?_
  unfold lX2_init
  refine q_fa (ok_aload_n (by decide +kernel : decode cX2_init 0 = .ok (.aload_n 0, 1)) rfl rfl) ?_
  refine q_fa (ok_obj (by decide +kernel : decode cX2_init 1 = .ok (.invokespecial 3, 3)) rfl g735 g24 g25) ?_
  refine q_fa (ok_aload_n (by decide +kernel : decode cX2_init 4 = .ok (.aload_n 0, 1)) rfl rfl) ?_
  refine q_fa (ok_new tyX3 (by decide +kernel : decode cX2_init 5 = .ok (.new 9, 3)) rfl (rfl : vwCl[3]? = some (RX3, TX3, 6)) inX3 tyX3_ok g736 g737 g15 (by decide +kernel)) ?_
  refine q_fa (ok_dup (by decide +kernel : decode cX2_init 8 = .ok (.dup, 1)) rfl) ?_
  refine q_fa (ok_callIN (by decide +kernel : decode cX2_init 9 = .ok (.invokespecial 11, 3)) rfl kX3_init.1 kX3_init.2.1 kX3_init.2.2.1 kX3_init.2.2.2.1 kX3_init.2.2.2.2 rfl rfl g739 gn738) ?_
  refine q_fa (ok_putR tyX2 (by decide +kernel : decode cX2_init 12 = .ok (.putfield 12, 3)) rfl (rfl : vwCl[2]? = some (RX2, TX2, 17)) inX2 tyX2_ok nmX2 (by decide) g816 (Or.inr ⟨rfl, rfl, rfl⟩) (by decide +kernel : parseFieldDescriptor (TX2 2).2.2.1 = some (tyX2 2)) (q_rfO _)) ?_
  refine q_fa (ok_aload_n (by decide +kernel : decode cX2_init 15 = .ok (.aload_n 0, 1)) rfl rfl) ?_
  refine q_fa (ok_sipush (by decide +kernel : decode cX2_init 16 = .ok (.sipush 4937, 3)) rfl (by decide +kernel)) ?_
  refine q_fa (ok_newa_int (by decide +kernel : decode cX2_init 19 = .ok (.newarray .int, 2)) rfl g56) ?_
  refine q_fa (ok_putR tyX2 (by decide +kernel : decode cX2_init 21 = .ok (.putfield 18, 3)) rfl (rfl : vwCl[2]? = some (RX2, TX2, 17)) inX2 tyX2_ok nmX2 (by decide) g817 (Or.inr ⟨rfl, rfl, rfl⟩) (by decide +kernel : parseFieldDescriptor (TX2 3).2.2.1 = some (tyX2 3)) (q_rfA _)) ?_
  refine q_fa (ok_aload_n (by decide +kernel : decode cX2_init 24 = .ok (.aload_n 0, 1)) rfl rfl) ?_
  refine q_fa (ok_sipush (by decide +kernel : decode cX2_init 25 = .ok (.sipush 4937, 3)) rfl (by decide +kernel)) ?_
  refine q_fa (ok_newa_int (by decide +kernel : decode cX2_init 28 = .ok (.newarray .int, 2)) rfl g56) ?_
  refine q_fa (ok_putR tyX2 (by decide +kernel : decode cX2_init 30 = .ok (.putfield 22, 3)) rfl (rfl : vwCl[2]? = some (RX2, TX2, 17)) inX2 tyX2_ok nmX2 (by decide) g818 (Or.inr ⟨rfl, rfl, rfl⟩) (by decide +kernel : parseFieldDescriptor (TX2 4).2.2.1 = some (tyX2 4)) (q_rfA _)) ?_
  refine q_fa (ok_aload_n (by decide +kernel : decode cX2_init 33 = .ok (.aload_n 0, 1)) rfl rfl) ?_
  refine q_fa (ok_new tyX8 (by decide +kernel : decode cX2_init 34 = .ok (.new 25, 3)) rfl (rfl : vwCl[8]? = some (RX8, TX8, 2)) inX8 tyX8_ok g761 g138 g8 (by decide +kernel)) ?_
  refine q_fa (ok_dup (by decide +kernel : decode cX2_init 37 = .ok (.dup, 1)) rfl) ?_
  refine q_fa (ok_sipush (by decide +kernel : decode cX2_init 38 = .ok (.sipush 4937, 3)) rfl (by decide +kernel)) ?_
  refine q_fa (ok_callI (by decide +kernel : decode cX2_init 41 = .ok (.invokespecial 27, 3)) rfl kX8_init.1 kX8_init.2.1 kX8_init.2.2.1 kX8_init.2.2.2.1 kX8_init.2.2.2.2 rfl rfl g140 g762) ?_
  refine q_fa (ok_putR tyX2 (by decide +kernel : decode cX2_init 44 = .ok (.putfield 30, 3)) rfl (rfl : vwCl[2]? = some (RX2, TX2, 17)) inX2 tyX2_ok nmX2 (by decide) g819 (Or.inr ⟨rfl, rfl, rfl⟩) (by decide +kernel : parseFieldDescriptor (TX2 5).2.2.1 = some (tyX2 5)) (q_rfO _)) ?_
  refine q_fa (ok_aload_n (by decide +kernel : decode cX2_init 47 = .ok (.aload_n 0, 1)) rfl rfl) ?_
  refine q_fa (ok_sipush (by decide +kernel : decode cX2_init 48 = .ok (.sipush 1284, 3)) rfl (by decide +kernel)) ?_
  refine q_fa (ok_newa_int (by decide +kernel : decode cX2_init 51 = .ok (.newarray .int, 2)) rfl g56) ?_
  refine q_fa (ok_putR tyX2 (by decide +kernel : decode cX2_init 53 = .ok (.putfield 34, 3)) rfl (rfl : vwCl[2]? = some (RX2, TX2, 17)) inX2 tyX2_ok nmX2 (by decide) g821 (Or.inr ⟨rfl, rfl, rfl⟩) (by decide +kernel : parseFieldDescriptor (TX2 7).2.2.1 = some (tyX2 7)) (q_rfA _)) ?_
  refine q_fa (ok_aload_n (by decide +kernel : decode cX2_init 56 = .ok (.aload_n 0, 1)) rfl rfl) ?_
  refine q_fa (ok_bipush (by decide +kernel : decode cX2_init 57 = .ok (.bipush 40, 2)) rfl (by decide +kernel)) ?_
  refine q_fa (ok_newa_int (by decide +kernel : decode cX2_init 59 = .ok (.newarray .int, 2)) rfl g56) ?_
  refine q_fa (ok_putR tyX2 (by decide +kernel : decode cX2_init 61 = .ok (.putfield 37, 3)) rfl (rfl : vwCl[2]? = some (RX2, TX2, 17)) inX2 tyX2_ok nmX2 (by decide) g823 (Or.inr ⟨rfl, rfl, rfl⟩) (by decide +kernel : parseFieldDescriptor (TX2 9).2.2.1 = some (tyX2 9)) (q_rfA _)) ?_
  refine q_fa (ok_aload_n (by decide +kernel : decode cX2_init 64 = .ok (.aload_n 0, 1)) rfl rfl) ?_
  refine q_fa (ok_sipush (by decide +kernel : decode cX2_init 65 = .ok (.sipush 1284, 3)) rfl (by decide +kernel)) ?_
  refine q_fa (ok_newa_int (by decide +kernel : decode cX2_init 68 = .ok (.newarray .int, 2)) rfl g56) ?_
  refine q_fa (ok_putR tyX2 (by decide +kernel : decode cX2_init 70 = .ok (.putfield 40, 3)) rfl (rfl : vwCl[2]? = some (RX2, TX2, 17)) inX2 tyX2_ok nmX2 (by decide) g825 (Or.inr ⟨rfl, rfl, rfl⟩) (by decide +kernel : parseFieldDescriptor (TX2 11).2.2.1 = some (tyX2 11)) (q_rfA _)) ?_
  refine q_fa (ok_aload_n (by decide +kernel : decode cX2_init 73 = .ok (.aload_n 0, 1)) rfl rfl) ?_
  refine q_fa (ok_aload_n (by decide +kernel : decode cX2_init 74 = .ok (.aload_n 1, 1)) rfl rfl) ?_
  refine q_fa (ok_putR tyX2 (by decide +kernel : decode cX2_init 75 = .ok (.putfield 43, 3)) rfl (rfl : vwCl[2]? = some (RX2, TX2, 17)) inX2 tyX2_ok nmX2 (by decide) g814 (Or.inr ⟨rfl, rfl, rfl⟩) (by decide +kernel : parseFieldDescriptor (TX2 0).2.2.1 = some (tyX2 0)) (q_rfO _)) ?_
  refine q_fa (ok_aload_n (by decide +kernel : decode cX2_init 78 = .ok (.aload_n 0, 1)) rfl rfl) ?_
  refine q_fa (ok_aload_n (by decide +kernel : decode cX2_init 79 = .ok (.aload_n 2, 1)) rfl rfl) ?_
  refine q_fa (ok_putR tyX2 (by decide +kernel : decode cX2_init 80 = .ok (.putfield 47, 3)) rfl (rfl : vwCl[2]? = some (RX2, TX2, 17)) inX2 tyX2_ok nmX2 (by decide) g815 (Or.inr ⟨rfl, rfl, rfl⟩) (by decide +kernel : parseFieldDescriptor (TX2 1).2.2.1 = some (tyX2 1)) (q_rfO _)) ?_
  refine q_fa (ok_aload_n (by decide +kernel : decode cX2_init 83 = .ok (.aload_n 1, 1)) rfl rfl) ?_
  refine q_fa (ok_callV (by decide +kernel : decode cX2_init 84 = .ok (.invokevirtual 51, 3)) rfl kX1_nodes.1 kX1_nodes.2.1 kX1_nodes.2.2.1 kX1_nodes.2.2.2.1 kX1_nodes.2.2.2.2 (rfl : vwCl[1]? = some (RX1, TX1, 5)) g479 g480 g763) ?_
  refine q_fa (ok_astore_n (by decide +kernel : decode cX2_init 87 = .ok (.astore_n 3, 1)) rfl rfl (by decide)) ?_
  refine q_fa (ok_aload_n (by decide +kernel : decode cX2_init 88 = .ok (.aload_n 3, 1)) rfl rfl) ?_
  refine q_fa (ok_callV (by decide +kernel : decode cX2_init 89 = .ok (.invokevirtual 57, 3)) rfl kX4_size.1 kX4_size.2.1 kX4_size.2.2.1 kX4_size.2.2.2.1 kX4_size.2.2.2.2 (rfl : vwCl[4]? = some (RX4, TX4, 4)) g307 g308 g764) ?_
  refine q_fa (ok_sipush (by decide +kernel : decode cX2_init 92 = .ok (.sipush 4937, 3)) rfl (by decide +kernel)) ?_
  refine q_fa (ok_min (by decide +kernel : decode cX2_init 95 = .ok (.invokestatic 63, 3)) rfl g765 g456 g4 g457) ?_
  refine q_fa (ok_istore (by decide +kernel : decode cX2_init 98 = .ok (.istore 4, 2)) rfl (by decide)) ?_
  refine q_fa (ok_iconst (by decide +kernel : decode cX2_init 100 = .ok (.iconst 0, 1)) rfl (by decide +kernel)) ?_
  refine q_fa (ok_istore (by decide +kernel : decode cX2_init 101 = .ok (.istore 5, 2)) rfl (by decide)) ?_
  refine q_fa (ok_iload (by decide +kernel : decode cX2_init 103 = .ok (.iload 5, 2)) rfl) ?_
  refine q_fa (ok_iload (by decide +kernel : decode cX2_init 105 = .ok (.iload 4, 2)) rfl) ?_
  refine q_fa (ok_if2ge (by decide +kernel : decode cX2_init 107 = .ok (.if_icmp .ge 84, 3)) (by decide) rfl) ?_
  refine q_fa (ok_aload_n (by decide +kernel : decode cX2_init 110 = .ok (.aload_n 3, 1)) rfl rfl) ?_
  refine q_fa (ok_iload (by decide +kernel : decode cX2_init 111 = .ok (.iload 5, 2)) rfl) ?_
  refine q_fa (ok_callV (by decide +kernel : decode cX2_init 113 = .ok (.invokevirtual 69, 3)) rfl kX4_kindOf.1 kX4_kindOf.2.1 kX4_kindOf.2.2.1 kX4_kindOf.2.2.2.1 kX4_kindOf.2.2.2.2 (rfl : vwCl[4]? = some (RX4, TX4, 4)) g287 g288 g766) ?_
  refine q_fa (ok_istore (by decide +kernel : decode cX2_init 116 = .ok (.istore 6, 2)) rfl (by decide)) ?_
  refine q_fa (ok_aload_n (by decide +kernel : decode cX2_init 118 = .ok (.aload_n 3, 1)) rfl rfl) ?_
  refine q_fa (ok_iload (by decide +kernel : decode cX2_init 119 = .ok (.iload 5, 2)) rfl) ?_
  refine q_fa (ok_callV (by decide +kernel : decode cX2_init 121 = .ok (.invokevirtual 73, 3)) rfl kX4_leftOf.1 kX4_leftOf.2.1 kX4_leftOf.2.2.1 kX4_leftOf.2.2.2.1 kX4_leftOf.2.2.2.2 (rfl : vwCl[4]? = some (RX4, TX4, 4)) g322 g323 g767) ?_
  refine q_fa (ok_istore (by decide +kernel : decode cX2_init 124 = .ok (.istore 7, 2)) rfl (by decide)) ?_
  refine q_fa (ok_aload_n (by decide +kernel : decode cX2_init 126 = .ok (.aload_n 3, 1)) rfl rfl) ?_
  refine q_fa (ok_iload (by decide +kernel : decode cX2_init 127 = .ok (.iload 5, 2)) rfl) ?_
  refine q_fa (ok_callV (by decide +kernel : decode cX2_init 129 = .ok (.invokevirtual 76, 3)) rfl kX4_rightOf.1 kX4_rightOf.2.1 kX4_rightOf.2.2.1 kX4_rightOf.2.2.2.1 kX4_rightOf.2.2.2.2 (rfl : vwCl[4]? = some (RX4, TX4, 4)) g291 g292 g768) ?_
  refine q_fa (ok_istore (by decide +kernel : decode cX2_init 132 = .ok (.istore 8, 2)) rfl (by decide)) ?_
  refine q_fa (ok_aload_n (by decide +kernel : decode cX2_init 134 = .ok (.aload_n 0, 1)) rfl rfl) ?_
  refine q_fa (ok_get (by decide +kernel : decode cX2_init 135 = .ok (.getfield 18, 3)) rfl (rfl : vwCl[2]? = some (RX2, TX2, 17)) inX2 (by decide) g817) ?_
  refine q_fa (ok_iload (by decide +kernel : decode cX2_init 138 = .ok (.iload 5, 2)) rfl) ?_
  refine q_fa (ok_iload (by decide +kernel : decode cX2_init 140 = .ok (.iload 6, 2)) rfl) ?_
  refine q_fa (ok_callSN (by decide +kernel : decode cX2_init 142 = .ok (.invokestatic 79, 3)) rfl kX11_isLeaf.1 kX11_isLeaf.2.1 kX11_isLeaf.2.2.1 kX11_isLeaf.2.2.2.1 kX11_isLeaf.2.2.2.2 g319 gn769) ?_
  refine q_fa (ok_if1eq (by decide +kernel : decode cX2_init 145 = .ok (.ifCond .eq 18, 3)) (by decide) rfl) ?_
  refine q_fa (ok_aload_n (by decide +kernel : decode cX2_init 148 = .ok (.aload_n 0, 1)) rfl rfl) ?_
  refine q_fa (ok_get (by decide +kernel : decode cX2_init 149 = .ok (.getfield 12, 3)) rfl (rfl : vwCl[2]? = some (RX2, TX2, 17)) inX2 (by decide) g816) ?_
  refine q_fa (ok_iload (by decide +kernel : decode cX2_init 152 = .ok (.iload 6, 2)) rfl) ?_
  refine q_fa (ok_iload (by decide +kernel : decode cX2_init 154 = .ok (.iload 7, 2)) rfl) ?_
  refine q_fa (ok_iconst (by decide +kernel : decode cX2_init 156 = .ok (.iconst 0, 1)) rfl (by decide +kernel)) ?_
  refine q_fa (ok_callV (by decide +kernel : decode cX2_init 157 = .ok (.invokevirtual 83, 3)) rfl kX3_meaningOf.1 kX3_meaningOf.2.1 kX3_meaningOf.2.2.1 kX3_meaningOf.2.2.2.1 kX3_meaningOf.2.2.2.2 (rfl : vwCl[3]? = some (RX3, TX3, 6)) g771 g772 g770) ?_
  refine q_fa (ok_goto (by decide +kernel : decode cX2_init 160 = .ok (.goto 24, 3)) (by decide)) ?_
  refine q_fa (ok_aload_n (by decide +kernel : decode cX2_init 163 = .ok (.aload_n 0, 1)) rfl rfl) ?_
  refine q_fa (ok_get (by decide +kernel : decode cX2_init 164 = .ok (.getfield 12, 3)) rfl (rfl : vwCl[2]? = some (RX2, TX2, 17)) inX2 (by decide) g816) ?_
  refine q_fa (ok_iload (by decide +kernel : decode cX2_init 167 = .ok (.iload 6, 2)) rfl) ?_
  refine q_fa (ok_aload_n (by decide +kernel : decode cX2_init 169 = .ok (.aload_n 0, 1)) rfl rfl) ?_
  refine q_fa (ok_iload (by decide +kernel : decode cX2_init 170 = .ok (.iload 7, 2)) rfl) ?_
  refine q_fa (ok_callV (by decide +kernel : decode cX2_init 172 = .ok (.invokevirtual 86, 3)) rfl kX2_meaningAt.1 kX2_meaningAt.2.1 kX2_meaningAt.2.2.1 kX2_meaningAt.2.2.2.1 kX2_meaningAt.2.2.2.2 (rfl : vwCl[2]? = some (RX2, TX2, 17)) g812 gs39 g810) ?_
  refine q_fa (ok_aload_n (by decide +kernel : decode cX2_init 175 = .ok (.aload_n 0, 1)) rfl rfl) ?_
  refine q_fa (ok_iload (by decide +kernel : decode cX2_init 176 = .ok (.iload 8, 2)) rfl) ?_
  refine q_fa (ok_callV (by decide +kernel : decode cX2_init 178 = .ok (.invokevirtual 86, 3)) rfl kX2_meaningAt.1 kX2_meaningAt.2.1 kX2_meaningAt.2.2.1 kX2_meaningAt.2.2.2.1 kX2_meaningAt.2.2.2.2 (rfl : vwCl[2]? = some (RX2, TX2, 17)) g812 gs39 g810) ?_
  refine q_fa (ok_callV (by decide +kernel : decode cX2_init 181 = .ok (.invokevirtual 83, 3)) rfl kX3_meaningOf.1 kX3_meaningOf.2.1 kX3_meaningOf.2.2.1 kX3_meaningOf.2.2.2.1 kX3_meaningOf.2.2.2.2 (rfl : vwCl[3]? = some (RX3, TX3, 6)) g771 g772 g770) ?_
  refine q_fa (ok_iastore (by decide +kernel : decode cX2_init 184 = .ok (.iastore, 1)) rfl) ?_
  refine q_fa (ok_iinc (by decide +kernel : decode cX2_init 185 = .ok (.iinc 5 1, 3)) rfl (by decide +kernel) (by decide)) ?_
  refine q_fa (ok_goto (by decide +kernel : decode cX2_init 188 = .ok (.goto (-85), 3)) (by decide)) ?_
  refine q_fa (ok_vret (by decide +kernel : decode cX2_init 191 = .ok (.return_, 1)) rfl) ?_
  exact q_fa0
theorem exX2_init : ∃ t : Nat → qP, t = uX2_init := ⟨_, rfl⟩
noncomputable def tX2_init : Nat → qP := Classical.choose exX2_init
theorem teX2_init : tX2_init = uX2_init := Classical.choose_spec exX2_init
theorem sX2_init : q_Snd mX2_init tX2_init := by rw [teX2_init]; exact suX2_init
theorem tX2_init_0 : tX2_init 0 = oAl 0 1 := (congrFun teX2_init 0).trans rfl
theorem tX2_init_1 : tX2_init 1 = oObj 4 := (congrFun teX2_init 1).trans rfl
theorem tX2_init_4 : tX2_init 4 = oAl 0 5 := (congrFun teX2_init 4).trans rfl
theorem tX2_init_5 : tX2_init 5 = oNew 3 6 [.null, .null, .null, .null, .null, .int 0] 8 := (congrFun teX2_init 5).trans rfl
theorem tX2_init_8 : tX2_init 8 = oDup 9 := (congrFun teX2_init 8).trans rfl
theorem tX2_init_9 : tX2_init 9 = oCallI mX3_init 0 12 := (congrFun teX2_init 9).trans rfl
theorem tX2_init_12 : tX2_init 12 = oPutR 2 2 15 := (congrFun teX2_init 12).trans rfl
theorem tX2_init_15 : tX2_init 15 = oAl 0 16 := (congrFun teX2_init 15).trans rfl
theorem tX2_init_16 : tX2_init 16 = oK (.int (nI 4937)) 19 := (congrFun teX2_init 16).trans rfl
theorem tX2_init_19 : tX2_init 19 = oNewa 1 21 := (congrFun teX2_init 19).trans rfl
theorem tX2_init_21 : tX2_init 21 = oPutR 2 3 24 := (congrFun teX2_init 21).trans rfl
theorem tX2_init_24 : tX2_init 24 = oAl 0 25 := (congrFun teX2_init 24).trans rfl
theorem tX2_init_25 : tX2_init 25 = oK (.int (nI 4937)) 28 := (congrFun teX2_init 25).trans rfl
theorem tX2_init_28 : tX2_init 28 = oNewa 1 30 := (congrFun teX2_init 28).trans rfl
theorem tX2_init_30 : tX2_init 30 = oPutR 2 4 33 := (congrFun teX2_init 30).trans rfl
theorem tX2_init_33 : tX2_init 33 = oAl 0 34 := (congrFun teX2_init 33).trans rfl
theorem tX2_init_34 : tX2_init 34 = oNew 8 2 [.null, .null] 37 := (congrFun teX2_init 34).trans rfl
theorem tX2_init_37 : tX2_init 37 = oDup 38 := (congrFun teX2_init 37).trans rfl
theorem tX2_init_38 : tX2_init 38 = oK (.int (nI 4937)) 41 := (congrFun teX2_init 38).trans rfl
theorem tX2_init_41 : tX2_init 41 = oCallI mX8_init 1 44 := (congrFun teX2_init 41).trans rfl
theorem tX2_init_44 : tX2_init 44 = oPutR 2 5 47 := (congrFun teX2_init 44).trans rfl
theorem tX2_init_47 : tX2_init 47 = oAl 0 48 := (congrFun teX2_init 47).trans rfl
theorem tX2_init_48 : tX2_init 48 = oK (.int (nI 1284)) 51 := (congrFun teX2_init 48).trans rfl
theorem tX2_init_51 : tX2_init 51 = oNewa 1 53 := (congrFun teX2_init 51).trans rfl
theorem tX2_init_53 : tX2_init 53 = oPutR 2 7 56 := (congrFun teX2_init 53).trans rfl
theorem tX2_init_56 : tX2_init 56 = oAl 0 57 := (congrFun teX2_init 56).trans rfl
theorem tX2_init_57 : tX2_init 57 = oK (.int (nI 40)) 59 := (congrFun teX2_init 57).trans rfl
theorem tX2_init_59 : tX2_init 59 = oNewa 1 61 := (congrFun teX2_init 59).trans rfl
theorem tX2_init_61 : tX2_init 61 = oPutR 2 9 64 := (congrFun teX2_init 61).trans rfl
theorem tX2_init_64 : tX2_init 64 = oAl 0 65 := (congrFun teX2_init 64).trans rfl
theorem tX2_init_65 : tX2_init 65 = oK (.int (nI 1284)) 68 := (congrFun teX2_init 65).trans rfl
theorem tX2_init_68 : tX2_init 68 = oNewa 1 70 := (congrFun teX2_init 68).trans rfl
theorem tX2_init_70 : tX2_init 70 = oPutR 2 11 73 := (congrFun teX2_init 70).trans rfl
theorem tX2_init_73 : tX2_init 73 = oAl 0 74 := (congrFun teX2_init 73).trans rfl
theorem tX2_init_74 : tX2_init 74 = oAl 1 75 := (congrFun teX2_init 74).trans rfl
theorem tX2_init_75 : tX2_init 75 = oPutR 2 0 78 := (congrFun teX2_init 75).trans rfl
theorem tX2_init_78 : tX2_init 78 = oAl 0 79 := (congrFun teX2_init 78).trans rfl
theorem tX2_init_79 : tX2_init 79 = oAl 2 80 := (congrFun teX2_init 79).trans rfl
theorem tX2_init_80 : tX2_init 80 = oPutR 2 1 83 := (congrFun teX2_init 80).trans rfl
theorem tX2_init_83 : tX2_init 83 = oAl 1 84 := (congrFun teX2_init 83).trans rfl
theorem tX2_init_84 : tX2_init 84 = oCallV 1 mX1_nodes 0 87 := (congrFun teX2_init 84).trans rfl
theorem tX2_init_87 : tX2_init 87 = oAs 3 88 := (congrFun teX2_init 87).trans rfl
theorem tX2_init_88 : tX2_init 88 = oAl 3 89 := (congrFun teX2_init 88).trans rfl
theorem tX2_init_89 : tX2_init 89 = oCallV 4 mX4_size 0 92 := (congrFun teX2_init 89).trans rfl
theorem tX2_init_92 : tX2_init 92 = oK (.int (nI 4937)) 95 := (congrFun teX2_init 92).trans rfl
theorem tX2_init_95 : tX2_init 95 = oMin 98 := (congrFun teX2_init 95).trans rfl
theorem tX2_init_98 : tX2_init 98 = oIs 4 100 := (congrFun teX2_init 98).trans rfl
theorem tX2_init_100 : tX2_init 100 = oK (.int (nI 0)) 101 := (congrFun teX2_init 100).trans rfl
theorem tX2_init_101 : tX2_init 101 = oIs 5 103 := (congrFun teX2_init 101).trans rfl
theorem tX2_init_103 : tX2_init 103 = oIl 5 105 := (congrFun teX2_init 103).trans rfl
theorem tX2_init_105 : tX2_init 105 = oIl 4 107 := (congrFun teX2_init 105).trans rfl
theorem tX2_init_107 : tX2_init 107 = oIf2ge 191 110 := (congrFun teX2_init 107).trans rfl
theorem tX2_init_110 : tX2_init 110 = oAl 3 111 := (congrFun teX2_init 110).trans rfl
theorem tX2_init_111 : tX2_init 111 = oIl 5 113 := (congrFun teX2_init 111).trans rfl
theorem tX2_init_113 : tX2_init 113 = oCallV 4 mX4_kindOf 1 116 := (congrFun teX2_init 113).trans rfl
theorem tX2_init_116 : tX2_init 116 = oIs 6 118 := (congrFun teX2_init 116).trans rfl
theorem tX2_init_118 : tX2_init 118 = oAl 3 119 := (congrFun teX2_init 118).trans rfl
theorem tX2_init_119 : tX2_init 119 = oIl 5 121 := (congrFun teX2_init 119).trans rfl
theorem tX2_init_121 : tX2_init 121 = oCallV 4 mX4_leftOf 1 124 := (congrFun teX2_init 121).trans rfl
theorem tX2_init_124 : tX2_init 124 = oIs 7 126 := (congrFun teX2_init 124).trans rfl
theorem tX2_init_126 : tX2_init 126 = oAl 3 127 := (congrFun teX2_init 126).trans rfl
theorem tX2_init_127 : tX2_init 127 = oIl 5 129 := (congrFun teX2_init 127).trans rfl
theorem tX2_init_129 : tX2_init 129 = oCallV 4 mX4_rightOf 1 132 := (congrFun teX2_init 129).trans rfl
theorem tX2_init_132 : tX2_init 132 = oIs 8 134 := (congrFun teX2_init 132).trans rfl
theorem tX2_init_134 : tX2_init 134 = oAl 0 135 := (congrFun teX2_init 134).trans rfl
theorem tX2_init_135 : tX2_init 135 = oGet 2 3 138 := (congrFun teX2_init 135).trans rfl
theorem tX2_init_138 : tX2_init 138 = oIl 5 140 := (congrFun teX2_init 138).trans rfl
theorem tX2_init_140 : tX2_init 140 = oIl 6 142 := (congrFun teX2_init 140).trans rfl
theorem tX2_init_142 : tX2_init 142 = oCallS mX11_isLeaf 1 145 := (congrFun teX2_init 142).trans rfl
theorem tX2_init_145 : tX2_init 145 = oIf1eq 163 148 := (congrFun teX2_init 145).trans rfl
theorem tX2_init_148 : tX2_init 148 = oAl 0 149 := (congrFun teX2_init 148).trans rfl
theorem tX2_init_149 : tX2_init 149 = oGet 2 2 152 := (congrFun teX2_init 149).trans rfl
theorem tX2_init_152 : tX2_init 152 = oIl 6 154 := (congrFun teX2_init 152).trans rfl
theorem tX2_init_154 : tX2_init 154 = oIl 7 156 := (congrFun teX2_init 154).trans rfl
theorem tX2_init_156 : tX2_init 156 = oK (.int (nI 0)) 157 := (congrFun teX2_init 156).trans rfl
theorem tX2_init_157 : tX2_init 157 = oCallV 3 mX3_meaningOf 3 160 := (congrFun teX2_init 157).trans rfl
theorem tX2_init_160 : tX2_init 160 = oGo 184 := (congrFun teX2_init 160).trans rfl
theorem tX2_init_163 : tX2_init 163 = oAl 0 164 := (congrFun teX2_init 163).trans rfl
theorem tX2_init_164 : tX2_init 164 = oGet 2 2 167 := (congrFun teX2_init 164).trans rfl
theorem tX2_init_167 : tX2_init 167 = oIl 6 169 := (congrFun teX2_init 167).trans rfl
theorem tX2_init_169 : tX2_init 169 = oAl 0 170 := (congrFun teX2_init 169).trans rfl
theorem tX2_init_170 : tX2_init 170 = oIl 7 172 := (congrFun teX2_init 170).trans rfl
theorem tX2_init_172 : tX2_init 172 = oCallV 2 mX2_meaningAt 1 175 := (congrFun teX2_init 172).trans rfl
theorem tX2_init_175 : tX2_init 175 = oAl 0 176 := (congrFun teX2_init 175).trans rfl
theorem tX2_init_176 : tX2_init 176 = oIl 8 178 := (congrFun teX2_init 176).trans rfl
theorem tX2_init_178 : tX2_init 178 = oCallV 2 mX2_meaningAt 1 181 := (congrFun teX2_init 178).trans rfl
theorem tX2_init_181 : tX2_init 181 = oCallV 3 mX3_meaningOf 3 184 := (congrFun teX2_init 181).trans rfl
theorem tX2_init_184 : tX2_init 184 = oIast 185 := (congrFun teX2_init 184).trans rfl
theorem tX2_init_185 : tX2_init 185 = oInc 5 (nI 1) 188 := (congrFun teX2_init 185).trans rfl
theorem tX2_init_188 : tX2_init 188 = oGo 103 := (congrFun teX2_init 188).trans rfl
theorem tX2_init_191 : tX2_init 191 = oVret := (congrFun teX2_init 191).trans rfl
def lX2_meaningAt : List (Nat × qP) := [(0, oIl 1 1), (1, oIf1lt 22 4), (4, oIl 1 5), (5, oAl 0 6), (6, oGet 2 3 9), (9, oAlen 10), (10, oIf2ge 22 13), (13, oAl 0 14), (14, oGet 2 3 17), (17, oIl 1 18), (18, oIald 19), (19, oGo 23), (22, oK (.int (-1)) 23), (23, oIret)]
def uX2_meaningAt : Nat → qP := q_tb lX2_meaningAt
set_option maxRecDepth 20000 in
theorem suX2_meaningAt : q_Snd mX2_meaningAt uX2_meaningAt := by
  refine q_tb_ok ?_
  unfold lX2_meaningAt
  refine q_fa (ok_iload_n (by decide +kernel : decode cX2_meaningAt 0 = .ok (.iload_n 1, 1)) rfl rfl) ?_
  refine q_fa (ok_if1lt (by decide +kernel : decode cX2_meaningAt 1 = .ok (.ifCond .lt 21, 3)) (by decide) rfl) ?_
  refine q_fa (ok_iload_n (by decide +kernel : decode cX2_meaningAt 4 = .ok (.iload_n 1, 1)) rfl rfl) ?_
  refine q_fa (ok_aload_n (by decide +kernel : decode cX2_meaningAt 5 = .ok (.aload_n 0, 1)) rfl rfl) ?_
  refine q_fa (ok_get (by decide +kernel : decode cX2_meaningAt 6 = .ok (.getfield 18, 3)) rfl (rfl : vwCl[2]? = some (RX2, TX2, 17)) inX2 (by decide) g817) ?_
  refine q_fa (ok_alen (by decide +kernel : decode cX2_meaningAt 9 = .ok (.arraylength, 1)) rfl) ?_
  refine q_fa (ok_if2ge (by decide +kernel : decode cX2_meaningAt 10 = .ok (.if_icmp .ge 12, 3)) (by decide) rfl) ?_
  refine q_fa (ok_aload_n (by decide +kernel : decode cX2_meaningAt 13 = .ok (.aload_n 0, 1)) rfl rfl) ?_
  refine q_fa (ok_get (by decide +kernel : decode cX2_meaningAt 14 = .ok (.getfield 18, 3)) rfl (rfl : vwCl[2]? = some (RX2, TX2, 17)) inX2 (by decide) g817) ?_
  refine q_fa (ok_iload_n (by decide +kernel : decode cX2_meaningAt 17 = .ok (.iload_n 1, 1)) rfl rfl) ?_
  refine q_fa (ok_iaload (by decide +kernel : decode cX2_meaningAt 18 = .ok (.iaload, 1)) rfl) ?_
  refine q_fa (ok_goto (by decide +kernel : decode cX2_meaningAt 19 = .ok (.goto 4, 3)) (by decide)) ?_
  refine q_fa (ok_iconst (by decide +kernel : decode cX2_meaningAt 22 = .ok (.iconst (-1), 1)) rfl (by decide +kernel)) ?_
  refine q_fa (ok_iret (by decide +kernel : decode cX2_meaningAt 23 = .ok (.ireturn, 1)) rfl) ?_
  exact q_fa0
theorem exX2_meaningAt : ∃ t : Nat → qP, t = uX2_meaningAt := ⟨_, rfl⟩
noncomputable def tX2_meaningAt : Nat → qP := Classical.choose exX2_meaningAt
theorem teX2_meaningAt : tX2_meaningAt = uX2_meaningAt := Classical.choose_spec exX2_meaningAt
theorem sX2_meaningAt : q_Snd mX2_meaningAt tX2_meaningAt := by rw [teX2_meaningAt]; exact suX2_meaningAt
theorem tX2_meaningAt_0 : tX2_meaningAt 0 = oIl 1 1 := (congrFun teX2_meaningAt 0).trans rfl
theorem tX2_meaningAt_1 : tX2_meaningAt 1 = oIf1lt 22 4 := (congrFun teX2_meaningAt 1).trans rfl
theorem tX2_meaningAt_4 : tX2_meaningAt 4 = oIl 1 5 := (congrFun teX2_meaningAt 4).trans rfl
theorem tX2_meaningAt_5 : tX2_meaningAt 5 = oAl 0 6 := (congrFun teX2_meaningAt 5).trans rfl
theorem tX2_meaningAt_6 : tX2_meaningAt 6 = oGet 2 3 9 := (congrFun teX2_meaningAt 6).trans rfl
theorem tX2_meaningAt_9 : tX2_meaningAt 9 = oAlen 10 := (congrFun teX2_meaningAt 9).trans rfl
theorem tX2_meaningAt_10 : tX2_meaningAt 10 = oIf2ge 22 13 := (congrFun teX2_meaningAt 10).trans rfl
theorem tX2_meaningAt_13 : tX2_meaningAt 13 = oAl 0 14 := (congrFun teX2_meaningAt 13).trans rfl
theorem tX2_meaningAt_14 : tX2_meaningAt 14 = oGet 2 3 17 := (congrFun teX2_meaningAt 14).trans rfl
theorem tX2_meaningAt_17 : tX2_meaningAt 17 = oIl 1 18 := (congrFun teX2_meaningAt 17).trans rfl
theorem tX2_meaningAt_18 : tX2_meaningAt 18 = oIald 19 := (congrFun teX2_meaningAt 18).trans rfl
theorem tX2_meaningAt_19 : tX2_meaningAt 19 = oGo 23 := (congrFun teX2_meaningAt 19).trans rfl
theorem tX2_meaningAt_22 : tX2_meaningAt 22 = oK (.int (-1)) 23 := (congrFun teX2_meaningAt 22).trans rfl
theorem tX2_meaningAt_23 : tX2_meaningAt 23 = oIret := (congrFun teX2_meaningAt 23).trans rfl
def lX2_judgeNew : List (Nat × qP) := [(0, oAl 0 1), (1, oGet 2 6 4), (4, oIs 1 5), (5, oIl 1 6), (6, oAl 0 7), (7, oGet 2 1 10), (10, oCallV 7 mX7_size 0 13), (13, oIf2ge 103 16), (16, oAl 0 17), (17, oGet 2 1 20), (20, oIl 1 21), (21, oCallV 7 mX7_rowOf 1 24), (24, oIs 2 25), (25, oAl 0 26), (26, oGet 2 5 29), (29, oIl 2 30), (30, oIl 2 31), (31, oCallS mX11_lengthOf 1 34), (34, oCallV 8 mX8_lay 2 37), (37, oAl 0 38), (38, oGet 2 5 41), (41, oAl 0 42), (42, oGet 2 0 45), (45, oCallV 1 mX1_nodes 0 48), (48, oCallV 8 mX8_fill 1 51), (51, oK (.int (nI 0)) 52), (52, oIs 3 53), (53, oIl 3 54), (54, oK (.int (nI 4937)) 57), (57, oIf2ge 97 60), (60, oAl 0 61), (61, oGet 2 1 64), (64, oIl 1 65), (65, oAl 0 66), (66, oGet 2 5 69), (69, oIl 3 70), (70, oCallV 8 mX8_of 1 73), (73, oCallV 7 mX7_isSo 2 76), (76, oIf1eq 91 79), (79, oAl 0 80), (80, oGet 2 4 83), (83, oIl 3 84), (84, oDup2 85), (85, oIald 86), (86, oK (.int (nI 1)) 87), (87, oIl 1 88), (88, oShl 89), (89, oOr 90), (90, oIast 91), (91, oInc 3 (nI 1) 94), (94, oGo 53), (97, oInc 1 (nI 1) 100), (100, oGo 5), (103, oAl 0 104), (104, oAl 0 105), (105, oGet 2 1 108), (108, oCallV 7 mX7_size 0 111), (111, oPutI 2 6 114), (114, oVret)]
def uX2_judgeNew : Nat → qP := q_tb lX2_judgeNew
set_option maxRecDepth 20000 in
theorem suX2_judgeNew : q_Snd mX2_judgeNew uX2_judgeNew := by
  refine q_tb_ok ?_
  unfold lX2_judgeNew
  refine q_fa (ok_aload_n (by decide +kernel : decode cX2_judgeNew 0 = .ok (.aload_n 0, 1)) rfl rfl) ?_
  refine q_fa (ok_get (by decide +kernel : decode cX2_judgeNew 1 = .ok (.getfield 89, 3)) rfl (rfl : vwCl[2]? = some (RX2, TX2, 17)) inX2 (by decide) g820) ?_
  refine q_fa (ok_istore_n (by decide +kernel : decode cX2_judgeNew 4 = .ok (.istore_n 1, 1)) rfl rfl (by decide)) ?_
  refine q_fa (ok_iload_n (by decide +kernel : decode cX2_judgeNew 5 = .ok (.iload_n 1, 1)) rfl rfl) ?_
  refine q_fa (ok_aload_n (by decide +kernel : decode cX2_judgeNew 6 = .ok (.aload_n 0, 1)) rfl rfl) ?_
  refine q_fa (ok_get (by decide +kernel : decode cX2_judgeNew 7 = .ok (.getfield 47, 3)) rfl (rfl : vwCl[2]? = some (RX2, TX2, 17)) inX2 (by decide) g815) ?_
  refine q_fa (ok_callV (by decide +kernel : decode cX2_judgeNew 10 = .ok (.invokevirtual 93, 3)) rfl kX7_size.1 kX7_size.2.1 kX7_size.2.2.1 kX7_size.2.2.2.1 kX7_size.2.2.2.2 (rfl : vwCl[7]? = some (RX7, TX7, 6)) g708 g709 g879) ?_
  refine q_fa (ok_if2ge (by decide +kernel : decode cX2_judgeNew 13 = .ok (.if_icmp .ge 90, 3)) (by decide) rfl) ?_
  refine q_fa (ok_aload_n (by decide +kernel : decode cX2_judgeNew 16 = .ok (.aload_n 0, 1)) rfl rfl) ?_
  refine q_fa (ok_get (by decide +kernel : decode cX2_judgeNew 17 = .ok (.getfield 47, 3)) rfl (rfl : vwCl[2]? = some (RX2, TX2, 17)) inX2 (by decide) g815) ?_
  refine q_fa (ok_iload_n (by decide +kernel : decode cX2_judgeNew 20 = .ok (.iload_n 1, 1)) rfl rfl) ?_
  refine q_fa (ok_callV (by decide +kernel : decode cX2_judgeNew 21 = .ok (.invokevirtual 96, 3)) rfl kX7_rowOf.1 kX7_rowOf.2.1 kX7_rowOf.2.2.1 kX7_rowOf.2.2.2.1 kX7_rowOf.2.2.2.2 (rfl : vwCl[7]? = some (RX7, TX7, 6)) g648 g649 g880) ?_
  refine q_fa (ok_istore_n (by decide +kernel : decode cX2_judgeNew 24 = .ok (.istore_n 2, 1)) rfl rfl (by decide)) ?_
  refine q_fa (ok_aload_n (by decide +kernel : decode cX2_judgeNew 25 = .ok (.aload_n 0, 1)) rfl rfl) ?_
  refine q_fa (ok_get (by decide +kernel : decode cX2_judgeNew 26 = .ok (.getfield 30, 3)) rfl (rfl : vwCl[2]? = some (RX2, TX2, 17)) inX2 (by decide) g819) ?_
  refine q_fa (ok_iload_n (by decide +kernel : decode cX2_judgeNew 29 = .ok (.iload_n 2, 1)) rfl rfl) ?_
  refine q_fa (ok_iload_n (by decide +kernel : decode cX2_judgeNew 30 = .ok (.iload_n 2, 1)) rfl rfl) ?_
  refine q_fa (ok_callSN (by decide +kernel : decode cX2_judgeNew 31 = .ok (.invokestatic 99, 3)) rfl kX11_lengthOf.1 kX11_lengthOf.2.1 kX11_lengthOf.2.2.1 kX11_lengthOf.2.2.2.1 kX11_lengthOf.2.2.2.2 g487 gn881) ?_
  refine q_fa (ok_callV (by decide +kernel : decode cX2_judgeNew 34 = .ok (.invokevirtual 102, 3)) rfl kX8_lay.1 kX8_lay.2.1 kX8_lay.2.2.1 kX8_lay.2.2.2.1 kX8_lay.2.2.2.2 (rfl : vwCl[8]? = some (RX8, TX8, 2)) g653 g654 g882) ?_
  refine q_fa (ok_aload_n (by decide +kernel : decode cX2_judgeNew 37 = .ok (.aload_n 0, 1)) rfl rfl) ?_
  refine q_fa (ok_get (by decide +kernel : decode cX2_judgeNew 38 = .ok (.getfield 30, 3)) rfl (rfl : vwCl[2]? = some (RX2, TX2, 17)) inX2 (by decide) g819) ?_
  refine q_fa (ok_aload_n (by decide +kernel : decode cX2_judgeNew 41 = .ok (.aload_n 0, 1)) rfl rfl) ?_
  refine q_fa (ok_get (by decide +kernel : decode cX2_judgeNew 42 = .ok (.getfield 43, 3)) rfl (rfl : vwCl[2]? = some (RX2, TX2, 17)) inX2 (by decide) g814) ?_
  refine q_fa (ok_callV (by decide +kernel : decode cX2_judgeNew 45 = .ok (.invokevirtual 51, 3)) rfl kX1_nodes.1 kX1_nodes.2.1 kX1_nodes.2.2.1 kX1_nodes.2.2.2.1 kX1_nodes.2.2.2.2 (rfl : vwCl[1]? = some (RX1, TX1, 5)) g479 g480 g763) ?_
  refine q_fa (ok_callV (by decide +kernel : decode cX2_judgeNew 48 = .ok (.invokevirtual 106, 3)) rfl kX8_fill.1 kX8_fill.2.1 kX8_fill.2.2.1 kX8_fill.2.2.2.1 kX8_fill.2.2.2.2 (rfl : vwCl[8]? = some (RX8, TX8, 2)) g661 g662 g883) ?_
  refine q_fa (ok_iconst (by decide +kernel : decode cX2_judgeNew 51 = .ok (.iconst 0, 1)) rfl (by decide +kernel)) ?_
  refine q_fa (ok_istore_n (by decide +kernel : decode cX2_judgeNew 52 = .ok (.istore_n 3, 1)) rfl rfl (by decide)) ?_
  refine q_fa (ok_iload_n (by decide +kernel : decode cX2_judgeNew 53 = .ok (.iload_n 3, 1)) rfl rfl) ?_
  refine q_fa (ok_sipush (by decide +kernel : decode cX2_judgeNew 54 = .ok (.sipush 4937, 3)) rfl (by decide +kernel)) ?_
  refine q_fa (ok_if2ge (by decide +kernel : decode cX2_judgeNew 57 = .ok (.if_icmp .ge 40, 3)) (by decide) rfl) ?_
  refine q_fa (ok_aload_n (by decide +kernel : decode cX2_judgeNew 60 = .ok (.aload_n 0, 1)) rfl rfl) ?_
  refine q_fa (ok_get (by decide +kernel : decode cX2_judgeNew 61 = .ok (.getfield 47, 3)) rfl (rfl : vwCl[2]? = some (RX2, TX2, 17)) inX2 (by decide) g815) ?_
  refine q_fa (ok_iload_n (by decide +kernel : decode cX2_judgeNew 64 = .ok (.iload_n 1, 1)) rfl rfl) ?_
  refine q_fa (ok_aload_n (by decide +kernel : decode cX2_judgeNew 65 = .ok (.aload_n 0, 1)) rfl rfl) ?_
  refine q_fa (ok_get (by decide +kernel : decode cX2_judgeNew 66 = .ok (.getfield 30, 3)) rfl (rfl : vwCl[2]? = some (RX2, TX2, 17)) inX2 (by decide) g819) ?_
  refine q_fa (ok_iload_n (by decide +kernel : decode cX2_judgeNew 69 = .ok (.iload_n 3, 1)) rfl rfl) ?_
  refine q_fa (ok_callV (by decide +kernel : decode cX2_judgeNew 70 = .ok (.invokevirtual 110, 3)) rfl kX8_of.1 kX8_of.2.1 kX8_of.2.2.1 kX8_of.2.2.2.1 kX8_of.2.2.2.2 (rfl : vwCl[8]? = some (RX8, TX8, 2)) g678 g679 g884) ?_
  refine q_fa (ok_callV (by decide +kernel : decode cX2_judgeNew 73 = .ok (.invokevirtual 114, 3)) rfl kX7_isSo.1 kX7_isSo.2.1 kX7_isSo.2.2.1 kX7_isSo.2.2.2.1 kX7_isSo.2.2.2.2 (rfl : vwCl[7]? = some (RX7, TX7, 6)) g692 g693 g885) ?_
  refine q_fa (ok_if1eq (by decide +kernel : decode cX2_judgeNew 76 = .ok (.ifCond .eq 15, 3)) (by decide) rfl) ?_
  refine q_fa (ok_aload_n (by decide +kernel : decode cX2_judgeNew 79 = .ok (.aload_n 0, 1)) rfl rfl) ?_
  refine q_fa (ok_get (by decide +kernel : decode cX2_judgeNew 80 = .ok (.getfield 22, 3)) rfl (rfl : vwCl[2]? = some (RX2, TX2, 17)) inX2 (by decide) g818) ?_
  refine q_fa (ok_iload_n (by decide +kernel : decode cX2_judgeNew 83 = .ok (.iload_n 3, 1)) rfl rfl) ?_
  refine q_fa (ok_dup2 (by decide +kernel : decode cX2_judgeNew 84 = .ok (.dup2, 1)) rfl) ?_
  refine q_fa (ok_iaload (by decide +kernel : decode cX2_judgeNew 85 = .ok (.iaload, 1)) rfl) ?_
  refine q_fa (ok_iconst (by decide +kernel : decode cX2_judgeNew 86 = .ok (.iconst 1, 1)) rfl (by decide +kernel)) ?_
  refine q_fa (ok_iload_n (by decide +kernel : decode cX2_judgeNew 87 = .ok (.iload_n 1, 1)) rfl rfl) ?_
  refine q_fa (ok_ishl (by decide +kernel : decode cX2_judgeNew 88 = .ok (.ishl, 1)) rfl) ?_
  refine q_fa (ok_ior (by decide +kernel : decode cX2_judgeNew 89 = .ok (.ior, 1)) rfl) ?_
  refine q_fa (ok_iastore (by decide +kernel : decode cX2_judgeNew 90 = .ok (.iastore, 1)) rfl) ?_
  refine q_fa (ok_iinc (by decide +kernel : decode cX2_judgeNew 91 = .ok (.iinc 3 1, 3)) rfl (by decide +kernel) (by decide)) ?_
  refine q_fa (ok_goto (by decide +kernel : decode cX2_judgeNew 94 = .ok (.goto (-41), 3)) (by decide)) ?_
  refine q_fa (ok_iinc (by decide +kernel : decode cX2_judgeNew 97 = .ok (.iinc 1 1, 3)) rfl (by decide +kernel) (by decide)) ?_
  refine q_fa (ok_goto (by decide +kernel : decode cX2_judgeNew 100 = .ok (.goto (-95), 3)) (by decide)) ?_
  refine q_fa (ok_aload_n (by decide +kernel : decode cX2_judgeNew 103 = .ok (.aload_n 0, 1)) rfl rfl) ?_
  refine q_fa (ok_aload_n (by decide +kernel : decode cX2_judgeNew 104 = .ok (.aload_n 0, 1)) rfl rfl) ?_
  refine q_fa (ok_get (by decide +kernel : decode cX2_judgeNew 105 = .ok (.getfield 47, 3)) rfl (rfl : vwCl[2]? = some (RX2, TX2, 17)) inX2 (by decide) g815) ?_
  refine q_fa (ok_callV (by decide +kernel : decode cX2_judgeNew 108 = .ok (.invokevirtual 93, 3)) rfl kX7_size.1 kX7_size.2.1 kX7_size.2.2.1 kX7_size.2.2.2.1 kX7_size.2.2.2.2 (rfl : vwCl[7]? = some (RX7, TX7, 6)) g708 g709 g879) ?_
  refine q_fa (ok_putI tyX2 (by decide +kernel : decode cX2_judgeNew 111 = .ok (.putfield 89, 3)) rfl (rfl : vwCl[2]? = some (RX2, TX2, 17)) inX2 tyX2_ok nmX2 (by decide) g820 (Or.inl rfl) (by decide +kernel)) ?_
  refine q_fa (ok_vret (by decide +kernel : decode cX2_judgeNew 114 = .ok (.return_, 1)) rfl) ?_
  exact q_fa0
theorem exX2_judgeNew : ∃ t : Nat → qP, t = uX2_judgeNew := ⟨_, rfl⟩
noncomputable def tX2_judgeNew : Nat → qP := Classical.choose exX2_judgeNew
theorem teX2_judgeNew : tX2_judgeNew = uX2_judgeNew := Classical.choose_spec exX2_judgeNew
theorem sX2_judgeNew : q_Snd mX2_judgeNew tX2_judgeNew := by rw [teX2_judgeNew]; exact suX2_judgeNew
theorem tX2_judgeNew_0 : tX2_judgeNew 0 = oAl 0 1 := (congrFun teX2_judgeNew 0).trans rfl
theorem tX2_judgeNew_1 : tX2_judgeNew 1 = oGet 2 6 4 := (congrFun teX2_judgeNew 1).trans rfl
theorem tX2_judgeNew_4 : tX2_judgeNew 4 = oIs 1 5 := (congrFun teX2_judgeNew 4).trans rfl
theorem tX2_judgeNew_5 : tX2_judgeNew 5 = oIl 1 6 := (congrFun teX2_judgeNew 5).trans rfl
theorem tX2_judgeNew_6 : tX2_judgeNew 6 = oAl 0 7 := (congrFun teX2_judgeNew 6).trans rfl
theorem tX2_judgeNew_7 : tX2_judgeNew 7 = oGet 2 1 10 := (congrFun teX2_judgeNew 7).trans rfl
theorem tX2_judgeNew_10 : tX2_judgeNew 10 = oCallV 7 mX7_size 0 13 := (congrFun teX2_judgeNew 10).trans rfl
theorem tX2_judgeNew_13 : tX2_judgeNew 13 = oIf2ge 103 16 := (congrFun teX2_judgeNew 13).trans rfl
theorem tX2_judgeNew_16 : tX2_judgeNew 16 = oAl 0 17 := (congrFun teX2_judgeNew 16).trans rfl
theorem tX2_judgeNew_17 : tX2_judgeNew 17 = oGet 2 1 20 := (congrFun teX2_judgeNew 17).trans rfl
theorem tX2_judgeNew_20 : tX2_judgeNew 20 = oIl 1 21 := (congrFun teX2_judgeNew 20).trans rfl
theorem tX2_judgeNew_21 : tX2_judgeNew 21 = oCallV 7 mX7_rowOf 1 24 := (congrFun teX2_judgeNew 21).trans rfl
theorem tX2_judgeNew_24 : tX2_judgeNew 24 = oIs 2 25 := (congrFun teX2_judgeNew 24).trans rfl
theorem tX2_judgeNew_25 : tX2_judgeNew 25 = oAl 0 26 := (congrFun teX2_judgeNew 25).trans rfl
theorem tX2_judgeNew_26 : tX2_judgeNew 26 = oGet 2 5 29 := (congrFun teX2_judgeNew 26).trans rfl
theorem tX2_judgeNew_29 : tX2_judgeNew 29 = oIl 2 30 := (congrFun teX2_judgeNew 29).trans rfl
theorem tX2_judgeNew_30 : tX2_judgeNew 30 = oIl 2 31 := (congrFun teX2_judgeNew 30).trans rfl
theorem tX2_judgeNew_31 : tX2_judgeNew 31 = oCallS mX11_lengthOf 1 34 := (congrFun teX2_judgeNew 31).trans rfl
theorem tX2_judgeNew_34 : tX2_judgeNew 34 = oCallV 8 mX8_lay 2 37 := (congrFun teX2_judgeNew 34).trans rfl
theorem tX2_judgeNew_37 : tX2_judgeNew 37 = oAl 0 38 := (congrFun teX2_judgeNew 37).trans rfl
theorem tX2_judgeNew_38 : tX2_judgeNew 38 = oGet 2 5 41 := (congrFun teX2_judgeNew 38).trans rfl
theorem tX2_judgeNew_41 : tX2_judgeNew 41 = oAl 0 42 := (congrFun teX2_judgeNew 41).trans rfl
theorem tX2_judgeNew_42 : tX2_judgeNew 42 = oGet 2 0 45 := (congrFun teX2_judgeNew 42).trans rfl
theorem tX2_judgeNew_45 : tX2_judgeNew 45 = oCallV 1 mX1_nodes 0 48 := (congrFun teX2_judgeNew 45).trans rfl
theorem tX2_judgeNew_48 : tX2_judgeNew 48 = oCallV 8 mX8_fill 1 51 := (congrFun teX2_judgeNew 48).trans rfl
theorem tX2_judgeNew_51 : tX2_judgeNew 51 = oK (.int (nI 0)) 52 := (congrFun teX2_judgeNew 51).trans rfl
theorem tX2_judgeNew_52 : tX2_judgeNew 52 = oIs 3 53 := (congrFun teX2_judgeNew 52).trans rfl
theorem tX2_judgeNew_53 : tX2_judgeNew 53 = oIl 3 54 := (congrFun teX2_judgeNew 53).trans rfl
theorem tX2_judgeNew_54 : tX2_judgeNew 54 = oK (.int (nI 4937)) 57 := (congrFun teX2_judgeNew 54).trans rfl
theorem tX2_judgeNew_57 : tX2_judgeNew 57 = oIf2ge 97 60 := (congrFun teX2_judgeNew 57).trans rfl
theorem tX2_judgeNew_60 : tX2_judgeNew 60 = oAl 0 61 := (congrFun teX2_judgeNew 60).trans rfl
theorem tX2_judgeNew_61 : tX2_judgeNew 61 = oGet 2 1 64 := (congrFun teX2_judgeNew 61).trans rfl
theorem tX2_judgeNew_64 : tX2_judgeNew 64 = oIl 1 65 := (congrFun teX2_judgeNew 64).trans rfl
theorem tX2_judgeNew_65 : tX2_judgeNew 65 = oAl 0 66 := (congrFun teX2_judgeNew 65).trans rfl
theorem tX2_judgeNew_66 : tX2_judgeNew 66 = oGet 2 5 69 := (congrFun teX2_judgeNew 66).trans rfl
theorem tX2_judgeNew_69 : tX2_judgeNew 69 = oIl 3 70 := (congrFun teX2_judgeNew 69).trans rfl
theorem tX2_judgeNew_70 : tX2_judgeNew 70 = oCallV 8 mX8_of 1 73 := (congrFun teX2_judgeNew 70).trans rfl
theorem tX2_judgeNew_73 : tX2_judgeNew 73 = oCallV 7 mX7_isSo 2 76 := (congrFun teX2_judgeNew 73).trans rfl
theorem tX2_judgeNew_76 : tX2_judgeNew 76 = oIf1eq 91 79 := (congrFun teX2_judgeNew 76).trans rfl
theorem tX2_judgeNew_79 : tX2_judgeNew 79 = oAl 0 80 := (congrFun teX2_judgeNew 79).trans rfl
theorem tX2_judgeNew_80 : tX2_judgeNew 80 = oGet 2 4 83 := (congrFun teX2_judgeNew 80).trans rfl
theorem tX2_judgeNew_83 : tX2_judgeNew 83 = oIl 3 84 := (congrFun teX2_judgeNew 83).trans rfl
theorem tX2_judgeNew_84 : tX2_judgeNew 84 = oDup2 85 := (congrFun teX2_judgeNew 84).trans rfl
theorem tX2_judgeNew_85 : tX2_judgeNew 85 = oIald 86 := (congrFun teX2_judgeNew 85).trans rfl
theorem tX2_judgeNew_86 : tX2_judgeNew 86 = oK (.int (nI 1)) 87 := (congrFun teX2_judgeNew 86).trans rfl
theorem tX2_judgeNew_87 : tX2_judgeNew 87 = oIl 1 88 := (congrFun teX2_judgeNew 87).trans rfl
theorem tX2_judgeNew_88 : tX2_judgeNew 88 = oShl 89 := (congrFun teX2_judgeNew 88).trans rfl
theorem tX2_judgeNew_89 : tX2_judgeNew 89 = oOr 90 := (congrFun teX2_judgeNew 89).trans rfl
theorem tX2_judgeNew_90 : tX2_judgeNew 90 = oIast 91 := (congrFun teX2_judgeNew 90).trans rfl
theorem tX2_judgeNew_91 : tX2_judgeNew 91 = oInc 3 (nI 1) 94 := (congrFun teX2_judgeNew 91).trans rfl
theorem tX2_judgeNew_94 : tX2_judgeNew 94 = oGo 53 := (congrFun teX2_judgeNew 94).trans rfl
theorem tX2_judgeNew_97 : tX2_judgeNew 97 = oInc 1 (nI 1) 100 := (congrFun teX2_judgeNew 97).trans rfl
theorem tX2_judgeNew_100 : tX2_judgeNew 100 = oGo 5 := (congrFun teX2_judgeNew 100).trans rfl
theorem tX2_judgeNew_103 : tX2_judgeNew 103 = oAl 0 104 := (congrFun teX2_judgeNew 103).trans rfl
theorem tX2_judgeNew_104 : tX2_judgeNew 104 = oAl 0 105 := (congrFun teX2_judgeNew 104).trans rfl
theorem tX2_judgeNew_105 : tX2_judgeNew 105 = oGet 2 1 108 := (congrFun teX2_judgeNew 105).trans rfl
theorem tX2_judgeNew_108 : tX2_judgeNew 108 = oCallV 7 mX7_size 0 111 := (congrFun teX2_judgeNew 108).trans rfl
theorem tX2_judgeNew_111 : tX2_judgeNew 111 = oPutI 2 6 114 := (congrFun teX2_judgeNew 111).trans rfl
theorem tX2_judgeNew_114 : tX2_judgeNew 114 = oVret := (congrFun teX2_judgeNew 114).trans rfl
def lX2_isOfKinds : List (Nat × qP) := [(0, oAl 0 1), (1, oGet 2 0 4), (4, oIl 1 5), (5, oCallV 1 mX1_kindsOf 1 8), (8, oIl 2 9), (9, oK (.int (-1)) 10), (10, oXor 11), (11, oAnd 12), (12, oIf1ne 19 15), (15, oK (.int (nI 1)) 16), (16, oGo 20), (19, oK (.int (nI 0)) 20), (20, oZret)]
def uX2_isOfKinds : Nat → qP := q_tb lX2_isOfKinds
set_option maxRecDepth 20000 in
theorem suX2_isOfKinds : q_Snd mX2_isOfKinds uX2_isOfKinds := by
  refine q_tb_ok ?_
  unfold lX2_isOfKinds
  refine q_fa (ok_aload_n (by decide +kernel : decode cX2_isOfKinds 0 = .ok (.aload_n 0, 1)) rfl rfl) ?_
  refine q_fa (ok_get (by decide +kernel : decode cX2_isOfKinds 1 = .ok (.getfield 43, 3)) rfl (rfl : vwCl[2]? = some (RX2, TX2, 17)) inX2 (by decide) g814) ?_
  refine q_fa (ok_iload_n (by decide +kernel : decode cX2_isOfKinds 4 = .ok (.iload_n 1, 1)) rfl rfl) ?_
  refine q_fa (ok_callV (by decide +kernel : decode cX2_isOfKinds 5 = .ok (.invokevirtual 118, 3)) rfl kX1_kindsOf.1 kX1_kindsOf.2.1 kX1_kindsOf.2.2.1 kX1_kindsOf.2.2.2.1 kX1_kindsOf.2.2.2.2 (rfl : vwCl[1]? = some (RX1, TX1, 5)) g424 g425 g890) ?_
  refine q_fa (ok_iload_n (by decide +kernel : decode cX2_isOfKinds 8 = .ok (.iload_n 2, 1)) rfl rfl) ?_
  refine q_fa (ok_iconst (by decide +kernel : decode cX2_isOfKinds 9 = .ok (.iconst (-1), 1)) rfl (by decide +kernel)) ?_
  refine q_fa (ok_ixor (by decide +kernel : decode cX2_isOfKinds 10 = .ok (.ixor, 1)) rfl) ?_
  refine q_fa (ok_iand (by decide +kernel : decode cX2_isOfKinds 11 = .ok (.iand, 1)) rfl) ?_
  refine q_fa (ok_if1ne (by decide +kernel : decode cX2_isOfKinds 12 = .ok (.ifCond .ne 7, 3)) (by decide) rfl) ?_
  refine q_fa (ok_iconst (by decide +kernel : decode cX2_isOfKinds 15 = .ok (.iconst 1, 1)) rfl (by decide +kernel)) ?_
  refine q_fa (ok_goto (by decide +kernel : decode cX2_isOfKinds 16 = .ok (.goto 4, 3)) (by decide)) ?_
  refine q_fa (ok_iconst (by decide +kernel : decode cX2_isOfKinds 19 = .ok (.iconst 0, 1)) rfl (by decide +kernel)) ?_
  refine q_fa (ok_zret (by decide +kernel : decode cX2_isOfKinds 20 = .ok (.ireturn, 1)) rfl) ?_
  exact q_fa0
theorem exX2_isOfKinds : ∃ t : Nat → qP, t = uX2_isOfKinds := ⟨_, rfl⟩
noncomputable def tX2_isOfKinds : Nat → qP := Classical.choose exX2_isOfKinds
theorem teX2_isOfKinds : tX2_isOfKinds = uX2_isOfKinds := Classical.choose_spec exX2_isOfKinds
theorem sX2_isOfKinds : q_Snd mX2_isOfKinds tX2_isOfKinds := by rw [teX2_isOfKinds]; exact suX2_isOfKinds
theorem tX2_isOfKinds_0 : tX2_isOfKinds 0 = oAl 0 1 := (congrFun teX2_isOfKinds 0).trans rfl
theorem tX2_isOfKinds_1 : tX2_isOfKinds 1 = oGet 2 0 4 := (congrFun teX2_isOfKinds 1).trans rfl
theorem tX2_isOfKinds_4 : tX2_isOfKinds 4 = oIl 1 5 := (congrFun teX2_isOfKinds 4).trans rfl
theorem tX2_isOfKinds_5 : tX2_isOfKinds 5 = oCallV 1 mX1_kindsOf 1 8 := (congrFun teX2_isOfKinds 5).trans rfl
theorem tX2_isOfKinds_8 : tX2_isOfKinds 8 = oIl 2 9 := (congrFun teX2_isOfKinds 8).trans rfl
theorem tX2_isOfKinds_9 : tX2_isOfKinds 9 = oK (.int (-1)) 10 := (congrFun teX2_isOfKinds 9).trans rfl
theorem tX2_isOfKinds_10 : tX2_isOfKinds 10 = oXor 11 := (congrFun teX2_isOfKinds 10).trans rfl
theorem tX2_isOfKinds_11 : tX2_isOfKinds 11 = oAnd 12 := (congrFun teX2_isOfKinds 11).trans rfl
theorem tX2_isOfKinds_12 : tX2_isOfKinds 12 = oIf1ne 19 15 := (congrFun teX2_isOfKinds 12).trans rfl
theorem tX2_isOfKinds_15 : tX2_isOfKinds 15 = oK (.int (nI 1)) 16 := (congrFun teX2_isOfKinds 15).trans rfl
theorem tX2_isOfKinds_16 : tX2_isOfKinds 16 = oGo 20 := (congrFun teX2_isOfKinds 16).trans rfl
theorem tX2_isOfKinds_19 : tX2_isOfKinds 19 = oK (.int (nI 0)) 20 := (congrFun teX2_isOfKinds 19).trans rfl
theorem tX2_isOfKinds_20 : tX2_isOfKinds 20 = oZret := (congrFun teX2_isOfKinds 20).trans rfl
def lX2_against : List (Nat × qP) := [(0, oIl 1 1), (1, oIf1lt 30 4), (4, oIl 1 5), (5, oK (.int (nI 4937)) 8), (8, oIf2ge 30 11), (11, oAl 0 12), (12, oGet 2 1 15), (15, oCallV 7 mX7_standing 0 18), (18, oAl 0 19), (19, oGet 2 4 22), (22, oIl 1 23), (23, oIald 24), (24, oK (.int (-1)) 25), (25, oXor 26), (26, oAnd 27), (27, oGo 31), (30, oK (.int (nI 0)) 31), (31, oIret)]
def uX2_against : Nat → qP := q_tb lX2_against
set_option maxRecDepth 20000 in
theorem suX2_against : q_Snd mX2_against uX2_against := by
  refine q_tb_ok ?_
  unfold lX2_against
  refine q_fa (ok_iload_n (by decide +kernel : decode cX2_against 0 = .ok (.iload_n 1, 1)) rfl rfl) ?_
  refine q_fa (ok_if1lt (by decide +kernel : decode cX2_against 1 = .ok (.ifCond .lt 29, 3)) (by decide) rfl) ?_
  refine q_fa (ok_iload_n (by decide +kernel : decode cX2_against 4 = .ok (.iload_n 1, 1)) rfl rfl) ?_
  refine q_fa (ok_sipush (by decide +kernel : decode cX2_against 5 = .ok (.sipush 4937, 3)) rfl (by decide +kernel)) ?_
  refine q_fa (ok_if2ge (by decide +kernel : decode cX2_against 8 = .ok (.if_icmp .ge 22, 3)) (by decide) rfl) ?_
  refine q_fa (ok_aload_n (by decide +kernel : decode cX2_against 11 = .ok (.aload_n 0, 1)) rfl rfl) ?_
  refine q_fa (ok_get (by decide +kernel : decode cX2_against 12 = .ok (.getfield 47, 3)) rfl (rfl : vwCl[2]? = some (RX2, TX2, 17)) inX2 (by decide) g815) ?_
  refine q_fa (ok_callV (by decide +kernel : decode cX2_against 15 = .ok (.invokevirtual 121, 3)) rfl kX7_standing.1 kX7_standing.2.1 kX7_standing.2.2.1 kX7_standing.2.2.2.1 kX7_standing.2.2.2.2 (rfl : vwCl[7]? = some (RX7, TX7, 6)) g712 g713 g895) ?_
  refine q_fa (ok_aload_n (by decide +kernel : decode cX2_against 18 = .ok (.aload_n 0, 1)) rfl rfl) ?_
  refine q_fa (ok_get (by decide +kernel : decode cX2_against 19 = .ok (.getfield 22, 3)) rfl (rfl : vwCl[2]? = some (RX2, TX2, 17)) inX2 (by decide) g818) ?_
  refine q_fa (ok_iload_n (by decide +kernel : decode cX2_against 22 = .ok (.iload_n 1, 1)) rfl rfl) ?_
  refine q_fa (ok_iaload (by decide +kernel : decode cX2_against 23 = .ok (.iaload, 1)) rfl) ?_
  refine q_fa (ok_iconst (by decide +kernel : decode cX2_against 24 = .ok (.iconst (-1), 1)) rfl (by decide +kernel)) ?_
  refine q_fa (ok_ixor (by decide +kernel : decode cX2_against 25 = .ok (.ixor, 1)) rfl) ?_
  refine q_fa (ok_iand (by decide +kernel : decode cX2_against 26 = .ok (.iand, 1)) rfl) ?_
  refine q_fa (ok_goto (by decide +kernel : decode cX2_against 27 = .ok (.goto 4, 3)) (by decide)) ?_
  refine q_fa (ok_iconst (by decide +kernel : decode cX2_against 30 = .ok (.iconst 0, 1)) rfl (by decide +kernel)) ?_
  refine q_fa (ok_iret (by decide +kernel : decode cX2_against 31 = .ok (.ireturn, 1)) rfl) ?_
  exact q_fa0
theorem exX2_against : ∃ t : Nat → qP, t = uX2_against := ⟨_, rfl⟩
noncomputable def tX2_against : Nat → qP := Classical.choose exX2_against
theorem teX2_against : tX2_against = uX2_against := Classical.choose_spec exX2_against
theorem sX2_against : q_Snd mX2_against tX2_against := by rw [teX2_against]; exact suX2_against
theorem tX2_against_0 : tX2_against 0 = oIl 1 1 := (congrFun teX2_against 0).trans rfl
theorem tX2_against_1 : tX2_against 1 = oIf1lt 30 4 := (congrFun teX2_against 1).trans rfl
theorem tX2_against_4 : tX2_against 4 = oIl 1 5 := (congrFun teX2_against 4).trans rfl
theorem tX2_against_5 : tX2_against 5 = oK (.int (nI 4937)) 8 := (congrFun teX2_against 5).trans rfl
theorem tX2_against_8 : tX2_against 8 = oIf2ge 30 11 := (congrFun teX2_against 8).trans rfl
theorem tX2_against_11 : tX2_against 11 = oAl 0 12 := (congrFun teX2_against 11).trans rfl
theorem tX2_against_12 : tX2_against 12 = oGet 2 1 15 := (congrFun teX2_against 12).trans rfl
theorem tX2_against_15 : tX2_against 15 = oCallV 7 mX7_standing 0 18 := (congrFun teX2_against 15).trans rfl
theorem tX2_against_18 : tX2_against 18 = oAl 0 19 := (congrFun teX2_against 18).trans rfl
theorem tX2_against_19 : tX2_against 19 = oGet 2 4 22 := (congrFun teX2_against 19).trans rfl
theorem tX2_against_22 : tX2_against 22 = oIl 1 23 := (congrFun teX2_against 22).trans rfl
theorem tX2_against_23 : tX2_against 23 = oIald 24 := (congrFun teX2_against 23).trans rfl
theorem tX2_against_24 : tX2_against 24 = oK (.int (-1)) 25 := (congrFun teX2_against 24).trans rfl
theorem tX2_against_25 : tX2_against 25 = oXor 26 := (congrFun teX2_against 25).trans rfl
theorem tX2_against_26 : tX2_against 26 = oAnd 27 := (congrFun teX2_against 26).trans rfl
theorem tX2_against_27 : tX2_against 27 = oGo 31 := (congrFun teX2_against 27).trans rfl
theorem tX2_against_30 : tX2_against 30 = oK (.int (nI 0)) 31 := (congrFun teX2_against 30).trans rfl
theorem tX2_against_31 : tX2_against 31 = oIret := (congrFun teX2_against 31).trans rfl
def lX2_begin : List (Nat × qP) := [(0, oAl 0 1), (1, oDup 2), (2, oGet 2 12 5), (5, oK (.int (nI 1)) 6), (6, oAdd 7), (7, oPutI 2 12 10), (10, oAl 0 11), (11, oIl 1 12), (12, oPutI 2 13 15), (15, oAl 0 16), (16, oK (.int (nI 0)) 17), (17, oPutI 2 14 20), (20, oAl 0 21), (21, oAl 0 22), (22, oGet 2 0 25), (25, oIl 2 26), (26, oCallV 1 mX1_end 1 29), (29, oK (.int (nI 4937)) 32), (32, oMin 35), (35, oPutI 2 15 38), (38, oAl 0 39), (39, oK (.int (nI 0)) 40), (40, oPutI 2 16 43), (43, oVret)]
def uX2_begin : Nat → qP := q_tb lX2_begin
set_option maxRecDepth 20000 in
theorem suX2_begin : q_Snd mX2_begin uX2_begin := by
  refine q_tb_ok ?_
  unfold lX2_begin
  refine q_fa (ok_aload_n (by decide +kernel : decode cX2_begin 0 = .ok (.aload_n 0, 1)) rfl rfl) ?_
  refine q_fa (ok_dup (by decide +kernel : decode cX2_begin 1 = .ok (.dup, 1)) rfl) ?_
  refine q_fa (ok_get (by decide +kernel : decode cX2_begin 2 = .ok (.getfield 124, 3)) rfl (rfl : vwCl[2]? = some (RX2, TX2, 17)) inX2 (by decide) g826) ?_
  refine q_fa (ok_iconst (by decide +kernel : decode cX2_begin 5 = .ok (.iconst 1, 1)) rfl (by decide +kernel)) ?_
  refine q_fa (ok_iadd (by decide +kernel : decode cX2_begin 6 = .ok (.iadd, 1)) rfl) ?_
  refine q_fa (ok_putI tyX2 (by decide +kernel : decode cX2_begin 7 = .ok (.putfield 124, 3)) rfl (rfl : vwCl[2]? = some (RX2, TX2, 17)) inX2 tyX2_ok nmX2 (by decide) g826 (Or.inl rfl) (by decide +kernel)) ?_
  refine q_fa (ok_aload_n (by decide +kernel : decode cX2_begin 10 = .ok (.aload_n 0, 1)) rfl rfl) ?_
  refine q_fa (ok_iload_n (by decide +kernel : decode cX2_begin 11 = .ok (.iload_n 1, 1)) rfl rfl) ?_
  refine q_fa (ok_putI tyX2 (by decide +kernel : decode cX2_begin 12 = .ok (.putfield 127, 3)) rfl (rfl : vwCl[2]? = some (RX2, TX2, 17)) inX2 tyX2_ok nmX2 (by decide) g827 (Or.inl rfl) (by decide +kernel)) ?_
  refine q_fa (ok_aload_n (by decide +kernel : decode cX2_begin 15 = .ok (.aload_n 0, 1)) rfl rfl) ?_
  refine q_fa (ok_iconst (by decide +kernel : decode cX2_begin 16 = .ok (.iconst 0, 1)) rfl (by decide +kernel)) ?_
  refine q_fa (ok_putI tyX2 (by decide +kernel : decode cX2_begin 17 = .ok (.putfield 130, 3)) rfl (rfl : vwCl[2]? = some (RX2, TX2, 17)) inX2 tyX2_ok nmX2 (by decide) g828 (Or.inl rfl) (by decide +kernel)) ?_
  refine q_fa (ok_aload_n (by decide +kernel : decode cX2_begin 20 = .ok (.aload_n 0, 1)) rfl rfl) ?_
  refine q_fa (ok_aload_n (by decide +kernel : decode cX2_begin 21 = .ok (.aload_n 0, 1)) rfl rfl) ?_
  refine q_fa (ok_get (by decide +kernel : decode cX2_begin 22 = .ok (.getfield 43, 3)) rfl (rfl : vwCl[2]? = some (RX2, TX2, 17)) inX2 (by decide) g814) ?_
  refine q_fa (ok_iload_n (by decide +kernel : decode cX2_begin 25 = .ok (.iload_n 2, 1)) rfl rfl) ?_
  refine q_fa (ok_callV (by decide +kernel : decode cX2_begin 26 = .ok (.invokevirtual 133, 3)) rfl kX1_end.1 kX1_end.2.1 kX1_end.2.2.1 kX1_end.2.2.2.1 kX1_end.2.2.2.2 (rfl : vwCl[1]? = some (RX1, TX1, 5)) g419 g420 g870) ?_
  refine q_fa (ok_sipush (by decide +kernel : decode cX2_begin 29 = .ok (.sipush 4937, 3)) rfl (by decide +kernel)) ?_
  refine q_fa (ok_min (by decide +kernel : decode cX2_begin 32 = .ok (.invokestatic 63, 3)) rfl g765 g456 g4 g457) ?_
  refine q_fa (ok_putI tyX2 (by decide +kernel : decode cX2_begin 35 = .ok (.putfield 136, 3)) rfl (rfl : vwCl[2]? = some (RX2, TX2, 17)) inX2 tyX2_ok nmX2 (by decide) g829 (Or.inl rfl) (by decide +kernel)) ?_
  refine q_fa (ok_aload_n (by decide +kernel : decode cX2_begin 38 = .ok (.aload_n 0, 1)) rfl rfl) ?_
  refine q_fa (ok_iconst (by decide +kernel : decode cX2_begin 39 = .ok (.iconst 0, 1)) rfl (by decide +kernel)) ?_
  refine q_fa (ok_putI tyX2 (by decide +kernel : decode cX2_begin 40 = .ok (.putfield 138, 3)) rfl (rfl : vwCl[2]? = some (RX2, TX2, 17)) inX2 tyX2_ok nmX2 (by decide) g830 (Or.inl rfl) (by decide +kernel)) ?_
  refine q_fa (ok_vret (by decide +kernel : decode cX2_begin 43 = .ok (.return_, 1)) rfl) ?_
  exact q_fa0
theorem exX2_begin : ∃ t : Nat → qP, t = uX2_begin := ⟨_, rfl⟩
noncomputable def tX2_begin : Nat → qP := Classical.choose exX2_begin
theorem teX2_begin : tX2_begin = uX2_begin := Classical.choose_spec exX2_begin
theorem sX2_begin : q_Snd mX2_begin tX2_begin := by rw [teX2_begin]; exact suX2_begin
theorem tX2_begin_0 : tX2_begin 0 = oAl 0 1 := (congrFun teX2_begin 0).trans rfl
theorem tX2_begin_1 : tX2_begin 1 = oDup 2 := (congrFun teX2_begin 1).trans rfl
theorem tX2_begin_2 : tX2_begin 2 = oGet 2 12 5 := (congrFun teX2_begin 2).trans rfl
theorem tX2_begin_5 : tX2_begin 5 = oK (.int (nI 1)) 6 := (congrFun teX2_begin 5).trans rfl
theorem tX2_begin_6 : tX2_begin 6 = oAdd 7 := (congrFun teX2_begin 6).trans rfl
theorem tX2_begin_7 : tX2_begin 7 = oPutI 2 12 10 := (congrFun teX2_begin 7).trans rfl
theorem tX2_begin_10 : tX2_begin 10 = oAl 0 11 := (congrFun teX2_begin 10).trans rfl
theorem tX2_begin_11 : tX2_begin 11 = oIl 1 12 := (congrFun teX2_begin 11).trans rfl
theorem tX2_begin_12 : tX2_begin 12 = oPutI 2 13 15 := (congrFun teX2_begin 12).trans rfl
theorem tX2_begin_15 : tX2_begin 15 = oAl 0 16 := (congrFun teX2_begin 15).trans rfl
theorem tX2_begin_16 : tX2_begin 16 = oK (.int (nI 0)) 17 := (congrFun teX2_begin 16).trans rfl
theorem tX2_begin_17 : tX2_begin 17 = oPutI 2 14 20 := (congrFun teX2_begin 17).trans rfl
theorem tX2_begin_20 : tX2_begin 20 = oAl 0 21 := (congrFun teX2_begin 20).trans rfl
theorem tX2_begin_21 : tX2_begin 21 = oAl 0 22 := (congrFun teX2_begin 21).trans rfl
theorem tX2_begin_22 : tX2_begin 22 = oGet 2 0 25 := (congrFun teX2_begin 22).trans rfl
theorem tX2_begin_25 : tX2_begin 25 = oIl 2 26 := (congrFun teX2_begin 25).trans rfl
theorem tX2_begin_26 : tX2_begin 26 = oCallV 1 mX1_end 1 29 := (congrFun teX2_begin 26).trans rfl
theorem tX2_begin_29 : tX2_begin 29 = oK (.int (nI 4937)) 32 := (congrFun teX2_begin 29).trans rfl
theorem tX2_begin_32 : tX2_begin 32 = oMin 35 := (congrFun teX2_begin 32).trans rfl
theorem tX2_begin_35 : tX2_begin 35 = oPutI 2 15 38 := (congrFun teX2_begin 35).trans rfl
theorem tX2_begin_38 : tX2_begin 38 = oAl 0 39 := (congrFun teX2_begin 38).trans rfl
theorem tX2_begin_39 : tX2_begin 39 = oK (.int (nI 0)) 40 := (congrFun teX2_begin 39).trans rfl
theorem tX2_begin_40 : tX2_begin 40 = oPutI 2 16 43 := (congrFun teX2_begin 40).trans rfl
theorem tX2_begin_43 : tX2_begin 43 = oVret := (congrFun teX2_begin 43).trans rfl
def lX2_hasBegun : List (Nat × qP) := [(0, oAl 0 1), (1, oGet 2 12 4), (4, oIf1le 11 7), (7, oK (.int (nI 1)) 8), (8, oGo 12), (11, oK (.int (nI 0)) 12), (12, oZret)]
def uX2_hasBegun : Nat → qP := q_tb lX2_hasBegun
set_option maxRecDepth 20000 in
theorem suX2_hasBegun : q_Snd mX2_hasBegun uX2_hasBegun := by
  refine q_tb_ok ?_
  unfold lX2_hasBegun
  refine q_fa (ok_aload_n (by decide +kernel : decode cX2_hasBegun 0 = .ok (.aload_n 0, 1)) rfl rfl) ?_
  refine q_fa (ok_get (by decide +kernel : decode cX2_hasBegun 1 = .ok (.getfield 124, 3)) rfl (rfl : vwCl[2]? = some (RX2, TX2, 17)) inX2 (by decide) g826) ?_
  refine q_fa (ok_if1le (by decide +kernel : decode cX2_hasBegun 4 = .ok (.ifCond .le 7, 3)) (by decide) rfl) ?_
  refine q_fa (ok_iconst (by decide +kernel : decode cX2_hasBegun 7 = .ok (.iconst 1, 1)) rfl (by decide +kernel)) ?_
  refine q_fa (ok_goto (by decide +kernel : decode cX2_hasBegun 8 = .ok (.goto 4, 3)) (by decide)) ?_
  refine q_fa (ok_iconst (by decide +kernel : decode cX2_hasBegun 11 = .ok (.iconst 0, 1)) rfl (by decide +kernel)) ?_
  refine q_fa (ok_zret (by decide +kernel : decode cX2_hasBegun 12 = .ok (.ireturn, 1)) rfl) ?_
  exact q_fa0
theorem exX2_hasBegun : ∃ t : Nat → qP, t = uX2_hasBegun := ⟨_, rfl⟩
noncomputable def tX2_hasBegun : Nat → qP := Classical.choose exX2_hasBegun
theorem teX2_hasBegun : tX2_hasBegun = uX2_hasBegun := Classical.choose_spec exX2_hasBegun
theorem sX2_hasBegun : q_Snd mX2_hasBegun tX2_hasBegun := by rw [teX2_hasBegun]; exact suX2_hasBegun
theorem tX2_hasBegun_0 : tX2_hasBegun 0 = oAl 0 1 := (congrFun teX2_hasBegun 0).trans rfl
theorem tX2_hasBegun_1 : tX2_hasBegun 1 = oGet 2 12 4 := (congrFun teX2_hasBegun 1).trans rfl
theorem tX2_hasBegun_4 : tX2_hasBegun 4 = oIf1le 11 7 := (congrFun teX2_hasBegun 4).trans rfl
theorem tX2_hasBegun_7 : tX2_hasBegun 7 = oK (.int (nI 1)) 8 := (congrFun teX2_hasBegun 7).trans rfl
theorem tX2_hasBegun_8 : tX2_hasBegun 8 = oGo 12 := (congrFun teX2_hasBegun 8).trans rfl
theorem tX2_hasBegun_11 : tX2_hasBegun 11 = oK (.int (nI 0)) 12 := (congrFun teX2_hasBegun 11).trans rfl
theorem tX2_hasBegun_12 : tX2_hasBegun 12 = oZret := (congrFun teX2_hasBegun 12).trans rfl
def lX2_foundSoFar : List (Nat × qP) := [(0, oAl 0 1), (1, oGet 2 16 4), (4, oIret)]
def uX2_foundSoFar : Nat → qP := q_tb lX2_foundSoFar
set_option maxRecDepth 20000 in
theorem suX2_foundSoFar : q_Snd mX2_foundSoFar uX2_foundSoFar := by
  refine q_tb_ok ?_
  unfold lX2_foundSoFar
  refine q_fa (ok_aload_n (by decide +kernel : decode cX2_foundSoFar 0 = .ok (.aload_n 0, 1)) rfl rfl) ?_
  refine q_fa (ok_get (by decide +kernel : decode cX2_foundSoFar 1 = .ok (.getfield 138, 3)) rfl (rfl : vwCl[2]? = some (RX2, TX2, 17)) inX2 (by decide) g830) ?_
  refine q_fa (ok_iret (by decide +kernel : decode cX2_foundSoFar 4 = .ok (.ireturn, 1)) rfl) ?_
  exact q_fa0
theorem exX2_foundSoFar : ∃ t : Nat → qP, t = uX2_foundSoFar := ⟨_, rfl⟩
noncomputable def tX2_foundSoFar : Nat → qP := Classical.choose exX2_foundSoFar
theorem teX2_foundSoFar : tX2_foundSoFar = uX2_foundSoFar := Classical.choose_spec exX2_foundSoFar
theorem sX2_foundSoFar : q_Snd mX2_foundSoFar tX2_foundSoFar := by rw [teX2_foundSoFar]; exact suX2_foundSoFar
theorem tX2_foundSoFar_0 : tX2_foundSoFar 0 = oAl 0 1 := (congrFun teX2_foundSoFar 0).trans rfl
theorem tX2_foundSoFar_1 : tX2_foundSoFar 1 = oGet 2 16 4 := (congrFun teX2_foundSoFar 1).trans rfl
theorem tX2_foundSoFar_4 : tX2_foundSoFar 4 = oIret := (congrFun teX2_foundSoFar 4).trans rfl
def lX2_goOn : List (Nat × qP) := [(0, oAl 0 1), (1, oCallV 2 mX2_judgeNew 0 4), (4, oAl 0 5), (5, oGet 2 14 8), (8, oAl 0 9), (9, oGet 2 15 12), (12, oIf2ge 103 15), (15, oAl 0 16), (16, oAl 0 17), (17, oGet 2 14 20), (20, oAl 0 21), (21, oGet 2 13 24), (24, oCallV 2 mX2_isOfKinds 2 27), (27, oIf1eq 90 30), (30, oAl 0 31), (31, oAl 0 32), (32, oGet 2 14 35), (35, oCallV 2 mX2_against 1 38), (38, oIf1ne 90 41), (41, oAl 0 42), (42, oGet 2 11 45), (45, oAl 0 46), (46, oAl 0 47), (47, oGet 2 14 50), (50, oCallV 2 mX2_meaningAt 1 53), (53, oAl 0 54), (54, oGet 2 12 57), (57, oCallS mX2_isNew 3 60), (60, oIf1eq 90 63), (63, oAl 0 64), (64, oDup 65), (65, oGet 2 16 68), (68, oK (.int (nI 1)) 69), (69, oAdd 70), (70, oPutI 2 16 73), (73, oAl 0 74), (74, oDup 75), (75, oGet 2 14 78), (78, oK (.int (nI 1)) 79), (79, oAdd 80), (80, oPutI 2 14 83), (83, oAl 0 84), (84, oGet 2 14 87), (87, oK (.int (nI 1)) 88), (88, oSub 89), (89, oIret), (90, oAl 0 91), (91, oDup 92), (92, oGet 2 14 95), (95, oK (.int (nI 1)) 96), (96, oAdd 97), (97, oPutI 2 14 100), (100, oGo 4), (103, oK (.int (-1)) 104), (104, oIret)]
def uX2_goOn : Nat → qP := q_tb lX2_goOn
set_option maxRecDepth 20000 in
theorem suX2_goOn : q_Snd mX2_goOn uX2_goOn := by
  refine q_tb_ok ?_
  unfold lX2_goOn
  refine q_fa (ok_aload_n (by decide +kernel : decode cX2_goOn 0 = .ok (.aload_n 0, 1)) rfl rfl) ?_
  refine q_fa (ok_callV (by decide +kernel : decode cX2_goOn 1 = .ok (.invokevirtual 141, 3)) rfl kX2_judgeNew.1 kX2_judgeNew.2.1 kX2_judgeNew.2.2.1 kX2_judgeNew.2.2.2.1 kX2_judgeNew.2.2.2.2 (rfl : vwCl[2]? = some (RX2, TX2, 17)) g877 gs40 g875) ?_
  refine q_fa (ok_aload_n (by decide +kernel : decode cX2_goOn 4 = .ok (.aload_n 0, 1)) rfl rfl) ?_
  refine q_fa (ok_get (by decide +kernel : decode cX2_goOn 5 = .ok (.getfield 130, 3)) rfl (rfl : vwCl[2]? = some (RX2, TX2, 17)) inX2 (by decide) g828) ?_
  refine q_fa (ok_aload_n (by decide +kernel : decode cX2_goOn 8 = .ok (.aload_n 0, 1)) rfl rfl) ?_
  refine q_fa (ok_get (by decide +kernel : decode cX2_goOn 9 = .ok (.getfield 136, 3)) rfl (rfl : vwCl[2]? = some (RX2, TX2, 17)) inX2 (by decide) g829) ?_
  refine q_fa (ok_if2ge (by decide +kernel : decode cX2_goOn 12 = .ok (.if_icmp .ge 91, 3)) (by decide) rfl) ?_
  refine q_fa (ok_aload_n (by decide +kernel : decode cX2_goOn 15 = .ok (.aload_n 0, 1)) rfl rfl) ?_
  refine q_fa (ok_aload_n (by decide +kernel : decode cX2_goOn 16 = .ok (.aload_n 0, 1)) rfl rfl) ?_
  refine q_fa (ok_get (by decide +kernel : decode cX2_goOn 17 = .ok (.getfield 130, 3)) rfl (rfl : vwCl[2]? = some (RX2, TX2, 17)) inX2 (by decide) g828) ?_
  refine q_fa (ok_aload_n (by decide +kernel : decode cX2_goOn 20 = .ok (.aload_n 0, 1)) rfl rfl) ?_
  refine q_fa (ok_get (by decide +kernel : decode cX2_goOn 21 = .ok (.getfield 127, 3)) rfl (rfl : vwCl[2]? = some (RX2, TX2, 17)) inX2 (by decide) g827) ?_
  refine q_fa (ok_callV (by decide +kernel : decode cX2_goOn 24 = .ok (.invokevirtual 144, 3)) rfl kX2_isOfKinds.1 kX2_isOfKinds.2.1 kX2_isOfKinds.2.2.1 kX2_isOfKinds.2.2.2.1 kX2_isOfKinds.2.2.2.2 (rfl : vwCl[2]? = some (RX2, TX2, 17)) g888 gs41 g886) ?_
  refine q_fa (ok_if1eq (by decide +kernel : decode cX2_goOn 27 = .ok (.ifCond .eq 63, 3)) (by decide) rfl) ?_
  refine q_fa (ok_aload_n (by decide +kernel : decode cX2_goOn 30 = .ok (.aload_n 0, 1)) rfl rfl) ?_
  refine q_fa (ok_aload_n (by decide +kernel : decode cX2_goOn 31 = .ok (.aload_n 0, 1)) rfl rfl) ?_
  refine q_fa (ok_get (by decide +kernel : decode cX2_goOn 32 = .ok (.getfield 130, 3)) rfl (rfl : vwCl[2]? = some (RX2, TX2, 17)) inX2 (by decide) g828) ?_
  refine q_fa (ok_callV (by decide +kernel : decode cX2_goOn 35 = .ok (.invokevirtual 148, 3)) rfl kX2_against.1 kX2_against.2.1 kX2_against.2.2.1 kX2_against.2.2.2.1 kX2_against.2.2.2.2 (rfl : vwCl[2]? = some (RX2, TX2, 17)) g893 gs42 g891) ?_
  refine q_fa (ok_if1ne (by decide +kernel : decode cX2_goOn 38 = .ok (.ifCond .ne 52, 3)) (by decide) rfl) ?_
  refine q_fa (ok_aload_n (by decide +kernel : decode cX2_goOn 41 = .ok (.aload_n 0, 1)) rfl rfl) ?_
  refine q_fa (ok_get (by decide +kernel : decode cX2_goOn 42 = .ok (.getfield 40, 3)) rfl (rfl : vwCl[2]? = some (RX2, TX2, 17)) inX2 (by decide) g825) ?_
  refine q_fa (ok_aload_n (by decide +kernel : decode cX2_goOn 45 = .ok (.aload_n 0, 1)) rfl rfl) ?_
  refine q_fa (ok_aload_n (by decide +kernel : decode cX2_goOn 46 = .ok (.aload_n 0, 1)) rfl rfl) ?_
  refine q_fa (ok_get (by decide +kernel : decode cX2_goOn 47 = .ok (.getfield 130, 3)) rfl (rfl : vwCl[2]? = some (RX2, TX2, 17)) inX2 (by decide) g828) ?_
  refine q_fa (ok_callV (by decide +kernel : decode cX2_goOn 50 = .ok (.invokevirtual 86, 3)) rfl kX2_meaningAt.1 kX2_meaningAt.2.1 kX2_meaningAt.2.2.1 kX2_meaningAt.2.2.2.1 kX2_meaningAt.2.2.2.2 (rfl : vwCl[2]? = some (RX2, TX2, 17)) g812 gs39 g810) ?_
  refine q_fa (ok_aload_n (by decide +kernel : decode cX2_goOn 53 = .ok (.aload_n 0, 1)) rfl rfl) ?_
  refine q_fa (ok_get (by decide +kernel : decode cX2_goOn 54 = .ok (.getfield 124, 3)) rfl (rfl : vwCl[2]? = some (RX2, TX2, 17)) inX2 (by decide) g826) ?_
  refine q_fa (ok_callS (by decide +kernel : decode cX2_goOn 57 = .ok (.invokestatic 151, 3)) rfl kX2_isNew.1 kX2_isNew.2.1 kX2_isNew.2.2.1 kX2_isNew.2.2.2.1 kX2_isNew.2.2.2.2 g897 g896) ?_
  refine q_fa (ok_if1eq (by decide +kernel : decode cX2_goOn 60 = .ok (.ifCond .eq 30, 3)) (by decide) rfl) ?_
  refine q_fa (ok_aload_n (by decide +kernel : decode cX2_goOn 63 = .ok (.aload_n 0, 1)) rfl rfl) ?_
  refine q_fa (ok_dup (by decide +kernel : decode cX2_goOn 64 = .ok (.dup, 1)) rfl) ?_
  refine q_fa (ok_get (by decide +kernel : decode cX2_goOn 65 = .ok (.getfield 138, 3)) rfl (rfl : vwCl[2]? = some (RX2, TX2, 17)) inX2 (by decide) g830) ?_
  refine q_fa (ok_iconst (by decide +kernel : decode cX2_goOn 68 = .ok (.iconst 1, 1)) rfl (by decide +kernel)) ?_
  refine q_fa (ok_iadd (by decide +kernel : decode cX2_goOn 69 = .ok (.iadd, 1)) rfl) ?_
  refine q_fa (ok_putI tyX2 (by decide +kernel : decode cX2_goOn 70 = .ok (.putfield 138, 3)) rfl (rfl : vwCl[2]? = some (RX2, TX2, 17)) inX2 tyX2_ok nmX2 (by decide) g830 (Or.inl rfl) (by decide +kernel)) ?_
  refine q_fa (ok_aload_n (by decide +kernel : decode cX2_goOn 73 = .ok (.aload_n 0, 1)) rfl rfl) ?_
  refine q_fa (ok_dup (by decide +kernel : decode cX2_goOn 74 = .ok (.dup, 1)) rfl) ?_
  refine q_fa (ok_get (by decide +kernel : decode cX2_goOn 75 = .ok (.getfield 130, 3)) rfl (rfl : vwCl[2]? = some (RX2, TX2, 17)) inX2 (by decide) g828) ?_
  refine q_fa (ok_iconst (by decide +kernel : decode cX2_goOn 78 = .ok (.iconst 1, 1)) rfl (by decide +kernel)) ?_
  refine q_fa (ok_iadd (by decide +kernel : decode cX2_goOn 79 = .ok (.iadd, 1)) rfl) ?_
  refine q_fa (ok_putI tyX2 (by decide +kernel : decode cX2_goOn 80 = .ok (.putfield 130, 3)) rfl (rfl : vwCl[2]? = some (RX2, TX2, 17)) inX2 tyX2_ok nmX2 (by decide) g828 (Or.inl rfl) (by decide +kernel)) ?_
  refine q_fa (ok_aload_n (by decide +kernel : decode cX2_goOn 83 = .ok (.aload_n 0, 1)) rfl rfl) ?_
  refine q_fa (ok_get (by decide +kernel : decode cX2_goOn 84 = .ok (.getfield 130, 3)) rfl (rfl : vwCl[2]? = some (RX2, TX2, 17)) inX2 (by decide) g828) ?_
  refine q_fa (ok_iconst (by decide +kernel : decode cX2_goOn 87 = .ok (.iconst 1, 1)) rfl (by decide +kernel)) ?_
  refine q_fa (ok_isub (by decide +kernel : decode cX2_goOn 88 = .ok (.isub, 1)) rfl) ?_
  refine q_fa (ok_iret (by decide +kernel : decode cX2_goOn 89 = .ok (.ireturn, 1)) rfl) ?_
  refine q_fa (ok_aload_n (by decide +kernel : decode cX2_goOn 90 = .ok (.aload_n 0, 1)) rfl rfl) ?_
  refine q_fa (ok_dup (by decide +kernel : decode cX2_goOn 91 = .ok (.dup, 1)) rfl) ?_
  refine q_fa (ok_get (by decide +kernel : decode cX2_goOn 92 = .ok (.getfield 130, 3)) rfl (rfl : vwCl[2]? = some (RX2, TX2, 17)) inX2 (by decide) g828) ?_
  refine q_fa (ok_iconst (by decide +kernel : decode cX2_goOn 95 = .ok (.iconst 1, 1)) rfl (by decide +kernel)) ?_
  refine q_fa (ok_iadd (by decide +kernel : decode cX2_goOn 96 = .ok (.iadd, 1)) rfl) ?_
  refine q_fa (ok_putI tyX2 (by decide +kernel : decode cX2_goOn 97 = .ok (.putfield 130, 3)) rfl (rfl : vwCl[2]? = some (RX2, TX2, 17)) inX2 tyX2_ok nmX2 (by decide) g828 (Or.inl rfl) (by decide +kernel)) ?_
  refine q_fa (ok_goto (by decide +kernel : decode cX2_goOn 100 = .ok (.goto (-96), 3)) (by decide)) ?_
  refine q_fa (ok_iconst (by decide +kernel : decode cX2_goOn 103 = .ok (.iconst (-1), 1)) rfl (by decide +kernel)) ?_
  refine q_fa (ok_iret (by decide +kernel : decode cX2_goOn 104 = .ok (.ireturn, 1)) rfl) ?_
  exact q_fa0
theorem exX2_goOn : ∃ t : Nat → qP, t = uX2_goOn := ⟨_, rfl⟩
noncomputable def tX2_goOn : Nat → qP := Classical.choose exX2_goOn
theorem teX2_goOn : tX2_goOn = uX2_goOn := Classical.choose_spec exX2_goOn
theorem sX2_goOn : q_Snd mX2_goOn tX2_goOn := by rw [teX2_goOn]; exact suX2_goOn
theorem tX2_goOn_0 : tX2_goOn 0 = oAl 0 1 := (congrFun teX2_goOn 0).trans rfl
theorem tX2_goOn_1 : tX2_goOn 1 = oCallV 2 mX2_judgeNew 0 4 := (congrFun teX2_goOn 1).trans rfl
theorem tX2_goOn_4 : tX2_goOn 4 = oAl 0 5 := (congrFun teX2_goOn 4).trans rfl
theorem tX2_goOn_5 : tX2_goOn 5 = oGet 2 14 8 := (congrFun teX2_goOn 5).trans rfl
theorem tX2_goOn_8 : tX2_goOn 8 = oAl 0 9 := (congrFun teX2_goOn 8).trans rfl
theorem tX2_goOn_9 : tX2_goOn 9 = oGet 2 15 12 := (congrFun teX2_goOn 9).trans rfl
theorem tX2_goOn_12 : tX2_goOn 12 = oIf2ge 103 15 := (congrFun teX2_goOn 12).trans rfl
theorem tX2_goOn_15 : tX2_goOn 15 = oAl 0 16 := (congrFun teX2_goOn 15).trans rfl
theorem tX2_goOn_16 : tX2_goOn 16 = oAl 0 17 := (congrFun teX2_goOn 16).trans rfl
theorem tX2_goOn_17 : tX2_goOn 17 = oGet 2 14 20 := (congrFun teX2_goOn 17).trans rfl
theorem tX2_goOn_20 : tX2_goOn 20 = oAl 0 21 := (congrFun teX2_goOn 20).trans rfl
theorem tX2_goOn_21 : tX2_goOn 21 = oGet 2 13 24 := (congrFun teX2_goOn 21).trans rfl
theorem tX2_goOn_24 : tX2_goOn 24 = oCallV 2 mX2_isOfKinds 2 27 := (congrFun teX2_goOn 24).trans rfl
theorem tX2_goOn_27 : tX2_goOn 27 = oIf1eq 90 30 := (congrFun teX2_goOn 27).trans rfl
theorem tX2_goOn_30 : tX2_goOn 30 = oAl 0 31 := (congrFun teX2_goOn 30).trans rfl
theorem tX2_goOn_31 : tX2_goOn 31 = oAl 0 32 := (congrFun teX2_goOn 31).trans rfl
theorem tX2_goOn_32 : tX2_goOn 32 = oGet 2 14 35 := (congrFun teX2_goOn 32).trans rfl
theorem tX2_goOn_35 : tX2_goOn 35 = oCallV 2 mX2_against 1 38 := (congrFun teX2_goOn 35).trans rfl
theorem tX2_goOn_38 : tX2_goOn 38 = oIf1ne 90 41 := (congrFun teX2_goOn 38).trans rfl
theorem tX2_goOn_41 : tX2_goOn 41 = oAl 0 42 := (congrFun teX2_goOn 41).trans rfl
theorem tX2_goOn_42 : tX2_goOn 42 = oGet 2 11 45 := (congrFun teX2_goOn 42).trans rfl
theorem tX2_goOn_45 : tX2_goOn 45 = oAl 0 46 := (congrFun teX2_goOn 45).trans rfl
theorem tX2_goOn_46 : tX2_goOn 46 = oAl 0 47 := (congrFun teX2_goOn 46).trans rfl
theorem tX2_goOn_47 : tX2_goOn 47 = oGet 2 14 50 := (congrFun teX2_goOn 47).trans rfl
theorem tX2_goOn_50 : tX2_goOn 50 = oCallV 2 mX2_meaningAt 1 53 := (congrFun teX2_goOn 50).trans rfl
theorem tX2_goOn_53 : tX2_goOn 53 = oAl 0 54 := (congrFun teX2_goOn 53).trans rfl
theorem tX2_goOn_54 : tX2_goOn 54 = oGet 2 12 57 := (congrFun teX2_goOn 54).trans rfl
theorem tX2_goOn_57 : tX2_goOn 57 = oCallS mX2_isNew 3 60 := (congrFun teX2_goOn 57).trans rfl
theorem tX2_goOn_60 : tX2_goOn 60 = oIf1eq 90 63 := (congrFun teX2_goOn 60).trans rfl
theorem tX2_goOn_63 : tX2_goOn 63 = oAl 0 64 := (congrFun teX2_goOn 63).trans rfl
theorem tX2_goOn_64 : tX2_goOn 64 = oDup 65 := (congrFun teX2_goOn 64).trans rfl
theorem tX2_goOn_65 : tX2_goOn 65 = oGet 2 16 68 := (congrFun teX2_goOn 65).trans rfl
theorem tX2_goOn_68 : tX2_goOn 68 = oK (.int (nI 1)) 69 := (congrFun teX2_goOn 68).trans rfl
theorem tX2_goOn_69 : tX2_goOn 69 = oAdd 70 := (congrFun teX2_goOn 69).trans rfl
theorem tX2_goOn_70 : tX2_goOn 70 = oPutI 2 16 73 := (congrFun teX2_goOn 70).trans rfl
theorem tX2_goOn_73 : tX2_goOn 73 = oAl 0 74 := (congrFun teX2_goOn 73).trans rfl
theorem tX2_goOn_74 : tX2_goOn 74 = oDup 75 := (congrFun teX2_goOn 74).trans rfl
theorem tX2_goOn_75 : tX2_goOn 75 = oGet 2 14 78 := (congrFun teX2_goOn 75).trans rfl
theorem tX2_goOn_78 : tX2_goOn 78 = oK (.int (nI 1)) 79 := (congrFun teX2_goOn 78).trans rfl
theorem tX2_goOn_79 : tX2_goOn 79 = oAdd 80 := (congrFun teX2_goOn 79).trans rfl
theorem tX2_goOn_80 : tX2_goOn 80 = oPutI 2 14 83 := (congrFun teX2_goOn 80).trans rfl
theorem tX2_goOn_83 : tX2_goOn 83 = oAl 0 84 := (congrFun teX2_goOn 83).trans rfl
theorem tX2_goOn_84 : tX2_goOn 84 = oGet 2 14 87 := (congrFun teX2_goOn 84).trans rfl
theorem tX2_goOn_87 : tX2_goOn 87 = oK (.int (nI 1)) 88 := (congrFun teX2_goOn 87).trans rfl
theorem tX2_goOn_88 : tX2_goOn 88 = oSub 89 := (congrFun teX2_goOn 88).trans rfl
theorem tX2_goOn_89 : tX2_goOn 89 = oIret := (congrFun teX2_goOn 89).trans rfl
theorem tX2_goOn_90 : tX2_goOn 90 = oAl 0 91 := (congrFun teX2_goOn 90).trans rfl
theorem tX2_goOn_91 : tX2_goOn 91 = oDup 92 := (congrFun teX2_goOn 91).trans rfl
theorem tX2_goOn_92 : tX2_goOn 92 = oGet 2 14 95 := (congrFun teX2_goOn 92).trans rfl
theorem tX2_goOn_95 : tX2_goOn 95 = oK (.int (nI 1)) 96 := (congrFun teX2_goOn 95).trans rfl
theorem tX2_goOn_96 : tX2_goOn 96 = oAdd 97 := (congrFun teX2_goOn 96).trans rfl
theorem tX2_goOn_97 : tX2_goOn 97 = oPutI 2 14 100 := (congrFun teX2_goOn 97).trans rfl
theorem tX2_goOn_100 : tX2_goOn 100 = oGo 4 := (congrFun teX2_goOn 100).trans rfl
theorem tX2_goOn_103 : tX2_goOn 103 = oK (.int (-1)) 104 := (congrFun teX2_goOn 103).trans rfl
theorem tX2_goOn_104 : tX2_goOn 104 = oIret := (congrFun teX2_goOn 104).trans rfl
def lX2_isNew : List (Nat × qP) := [(0, oIl 1 1), (1, oIf1lt 17 4), (4, oIl 1 5), (5, oAl 0 6), (6, oAlen 7), (7, oIf2ge 17 10), (10, oAl 0 11), (11, oIl 1 12), (12, oIald 13), (13, oIl 2 14), (14, oIf2ne 19 17), (17, oK (.int (nI 0)) 18), (18, oZret), (19, oAl 0 20), (20, oIl 1 21), (21, oIl 2 22), (22, oIast 23), (23, oK (.int (nI 1)) 24), (24, oZret)]
def uX2_isNew : Nat → qP := q_tb lX2_isNew
set_option maxRecDepth 20000 in
theorem suX2_isNew : q_Snd mX2_isNew uX2_isNew := by
  refine q_tb_ok ?_
  unfold lX2_isNew
  refine q_fa (ok_iload_n (by decide +kernel : decode cX2_isNew 0 = .ok (.iload_n 1, 1)) rfl rfl) ?_
  refine q_fa (ok_if1lt (by decide +kernel : decode cX2_isNew 1 = .ok (.ifCond .lt 16, 3)) (by decide) rfl) ?_
  refine q_fa (ok_iload_n (by decide +kernel : decode cX2_isNew 4 = .ok (.iload_n 1, 1)) rfl rfl) ?_
  refine q_fa (ok_aload_n (by decide +kernel : decode cX2_isNew 5 = .ok (.aload_n 0, 1)) rfl rfl) ?_
  refine q_fa (ok_alen (by decide +kernel : decode cX2_isNew 6 = .ok (.arraylength, 1)) rfl) ?_
  refine q_fa (ok_if2ge (by decide +kernel : decode cX2_isNew 7 = .ok (.if_icmp .ge 10, 3)) (by decide) rfl) ?_
  refine q_fa (ok_aload_n (by decide +kernel : decode cX2_isNew 10 = .ok (.aload_n 0, 1)) rfl rfl) ?_
  refine q_fa (ok_iload_n (by decide +kernel : decode cX2_isNew 11 = .ok (.iload_n 1, 1)) rfl rfl) ?_
  refine q_fa (ok_iaload (by decide +kernel : decode cX2_isNew 12 = .ok (.iaload, 1)) rfl) ?_
  refine q_fa (ok_iload_n (by decide +kernel : decode cX2_isNew 13 = .ok (.iload_n 2, 1)) rfl rfl) ?_
  refine q_fa (ok_if2ne (by decide +kernel : decode cX2_isNew 14 = .ok (.if_icmp .ne 5, 3)) (by decide) rfl) ?_
  refine q_fa (ok_iconst (by decide +kernel : decode cX2_isNew 17 = .ok (.iconst 0, 1)) rfl (by decide +kernel)) ?_
  refine q_fa (ok_zret (by decide +kernel : decode cX2_isNew 18 = .ok (.ireturn, 1)) rfl) ?_
  refine q_fa (ok_aload_n (by decide +kernel : decode cX2_isNew 19 = .ok (.aload_n 0, 1)) rfl rfl) ?_
  refine q_fa (ok_iload_n (by decide +kernel : decode cX2_isNew 20 = .ok (.iload_n 1, 1)) rfl rfl) ?_
  refine q_fa (ok_iload_n (by decide +kernel : decode cX2_isNew 21 = .ok (.iload_n 2, 1)) rfl rfl) ?_
  refine q_fa (ok_iastore (by decide +kernel : decode cX2_isNew 22 = .ok (.iastore, 1)) rfl) ?_
  refine q_fa (ok_iconst (by decide +kernel : decode cX2_isNew 23 = .ok (.iconst 1, 1)) rfl (by decide +kernel)) ?_
  refine q_fa (ok_zret (by decide +kernel : decode cX2_isNew 24 = .ok (.ireturn, 1)) rfl) ?_
  exact q_fa0
theorem exX2_isNew : ∃ t : Nat → qP, t = uX2_isNew := ⟨_, rfl⟩
noncomputable def tX2_isNew : Nat → qP := Classical.choose exX2_isNew
theorem teX2_isNew : tX2_isNew = uX2_isNew := Classical.choose_spec exX2_isNew
theorem sX2_isNew : q_Snd mX2_isNew tX2_isNew := by rw [teX2_isNew]; exact suX2_isNew
theorem tX2_isNew_0 : tX2_isNew 0 = oIl 1 1 := (congrFun teX2_isNew 0).trans rfl
theorem tX2_isNew_1 : tX2_isNew 1 = oIf1lt 17 4 := (congrFun teX2_isNew 1).trans rfl
theorem tX2_isNew_4 : tX2_isNew 4 = oIl 1 5 := (congrFun teX2_isNew 4).trans rfl
theorem tX2_isNew_5 : tX2_isNew 5 = oAl 0 6 := (congrFun teX2_isNew 5).trans rfl
theorem tX2_isNew_6 : tX2_isNew 6 = oAlen 7 := (congrFun teX2_isNew 6).trans rfl
theorem tX2_isNew_7 : tX2_isNew 7 = oIf2ge 17 10 := (congrFun teX2_isNew 7).trans rfl
theorem tX2_isNew_10 : tX2_isNew 10 = oAl 0 11 := (congrFun teX2_isNew 10).trans rfl
theorem tX2_isNew_11 : tX2_isNew 11 = oIl 1 12 := (congrFun teX2_isNew 11).trans rfl
theorem tX2_isNew_12 : tX2_isNew 12 = oIald 13 := (congrFun teX2_isNew 12).trans rfl
theorem tX2_isNew_13 : tX2_isNew 13 = oIl 2 14 := (congrFun teX2_isNew 13).trans rfl
theorem tX2_isNew_14 : tX2_isNew 14 = oIf2ne 19 17 := (congrFun teX2_isNew 14).trans rfl
theorem tX2_isNew_17 : tX2_isNew 17 = oK (.int (nI 0)) 18 := (congrFun teX2_isNew 17).trans rfl
theorem tX2_isNew_18 : tX2_isNew 18 = oZret := (congrFun teX2_isNew 18).trans rfl
theorem tX2_isNew_19 : tX2_isNew 19 = oAl 0 20 := (congrFun teX2_isNew 19).trans rfl
theorem tX2_isNew_20 : tX2_isNew 20 = oIl 1 21 := (congrFun teX2_isNew 20).trans rfl
theorem tX2_isNew_21 : tX2_isNew 21 = oIl 2 22 := (congrFun teX2_isNew 21).trans rfl
theorem tX2_isNew_22 : tX2_isNew 22 = oIast 23 := (congrFun teX2_isNew 22).trans rfl
theorem tX2_isNew_23 : tX2_isNew 23 = oK (.int (nI 1)) 24 := (congrFun teX2_isNew 23).trans rfl
theorem tX2_isNew_24 : tX2_isNew 24 = oZret := (congrFun teX2_isNew 24).trans rfl
def lX2_countOpen : List (Nat × qP) := [(0, oAl 0 1), (1, oCallV 2 mX2_judgeNew 0 4), (4, oAl 0 5), (5, oDup 6), (6, oGet 2 8 9), (9, oK (.int (nI 1)) 10), (10, oAdd 11), (11, oPutI 2 8 14), (14, oK (.int (nI 0)) 15), (15, oIs 3 16), (16, oAl 0 17), (17, oGet 2 0 20), (20, oIl 2 21), (21, oCallV 1 mX1_end 1 24), (24, oK (.int (nI 4937)) 27), (27, oMin 30), (30, oIs 4 32), (32, oK (.int (nI 0)) 33), (33, oIs 5 35), (35, oIl 5 37), (37, oIl 4 39), (39, oIf2ge 90 42), (42, oAl 0 43), (43, oIl 5 45), (45, oIl 1 46), (46, oCallV 2 mX2_isOfKinds 2 49), (49, oIf1eq 84 52), (52, oAl 0 53), (53, oIl 5 55), (55, oCallV 2 mX2_against 1 58), (58, oIf1ne 84 61), (61, oAl 0 62), (62, oGet 2 7 65), (65, oAl 0 66), (66, oIl 5 68), (68, oCallV 2 mX2_meaningAt 1 71), (71, oAl 0 72), (72, oGet 2 8 75), (75, oCallS mX2_isNew 3 78), (78, oIf1eq 84 81), (81, oInc 3 (nI 1) 84), (84, oInc 5 (nI 1) 87), (87, oGo 35), (90, oIl 3 91), (91, oIret)]
def uX2_countOpen : Nat → qP := q_tb lX2_countOpen
set_option maxRecDepth 20000 in
theorem suX2_countOpen : q_Snd mX2_countOpen uX2_countOpen := by
  refine q_tb_ok ?_
  unfold lX2_countOpen
  refine q_fa (ok_aload_n (by decide +kernel : decode cX2_countOpen 0 = .ok (.aload_n 0, 1)) rfl rfl) ?_
  refine q_fa (ok_callV (by decide +kernel : decode cX2_countOpen 1 = .ok (.invokevirtual 141, 3)) rfl kX2_judgeNew.1 kX2_judgeNew.2.1 kX2_judgeNew.2.2.1 kX2_judgeNew.2.2.2.1 kX2_judgeNew.2.2.2.2 (rfl : vwCl[2]? = some (RX2, TX2, 17)) g877 gs40 g875) ?_
  refine q_fa (ok_aload_n (by decide +kernel : decode cX2_countOpen 4 = .ok (.aload_n 0, 1)) rfl rfl) ?_
  refine q_fa (ok_dup (by decide +kernel : decode cX2_countOpen 5 = .ok (.dup, 1)) rfl) ?_
  refine q_fa (ok_get (by decide +kernel : decode cX2_countOpen 6 = .ok (.getfield 155, 3)) rfl (rfl : vwCl[2]? = some (RX2, TX2, 17)) inX2 (by decide) g822) ?_
  refine q_fa (ok_iconst (by decide +kernel : decode cX2_countOpen 9 = .ok (.iconst 1, 1)) rfl (by decide +kernel)) ?_
  refine q_fa (ok_iadd (by decide +kernel : decode cX2_countOpen 10 = .ok (.iadd, 1)) rfl) ?_
  refine q_fa (ok_putI tyX2 (by decide +kernel : decode cX2_countOpen 11 = .ok (.putfield 155, 3)) rfl (rfl : vwCl[2]? = some (RX2, TX2, 17)) inX2 tyX2_ok nmX2 (by decide) g822 (Or.inl rfl) (by decide +kernel)) ?_
  refine q_fa (ok_iconst (by decide +kernel : decode cX2_countOpen 14 = .ok (.iconst 0, 1)) rfl (by decide +kernel)) ?_
  refine q_fa (ok_istore_n (by decide +kernel : decode cX2_countOpen 15 = .ok (.istore_n 3, 1)) rfl rfl (by decide)) ?_
  refine q_fa (ok_aload_n (by decide +kernel : decode cX2_countOpen 16 = .ok (.aload_n 0, 1)) rfl rfl) ?_
  refine q_fa (ok_get (by decide +kernel : decode cX2_countOpen 17 = .ok (.getfield 43, 3)) rfl (rfl : vwCl[2]? = some (RX2, TX2, 17)) inX2 (by decide) g814) ?_
  refine q_fa (ok_iload_n (by decide +kernel : decode cX2_countOpen 20 = .ok (.iload_n 2, 1)) rfl rfl) ?_
  refine q_fa (ok_callV (by decide +kernel : decode cX2_countOpen 21 = .ok (.invokevirtual 133, 3)) rfl kX1_end.1 kX1_end.2.1 kX1_end.2.2.1 kX1_end.2.2.2.1 kX1_end.2.2.2.2 (rfl : vwCl[1]? = some (RX1, TX1, 5)) g419 g420 g870) ?_
  refine q_fa (ok_sipush (by decide +kernel : decode cX2_countOpen 24 = .ok (.sipush 4937, 3)) rfl (by decide +kernel)) ?_
  refine q_fa (ok_min (by decide +kernel : decode cX2_countOpen 27 = .ok (.invokestatic 63, 3)) rfl g765 g456 g4 g457) ?_
  refine q_fa (ok_istore (by decide +kernel : decode cX2_countOpen 30 = .ok (.istore 4, 2)) rfl (by decide)) ?_
  refine q_fa (ok_iconst (by decide +kernel : decode cX2_countOpen 32 = .ok (.iconst 0, 1)) rfl (by decide +kernel)) ?_
  refine q_fa (ok_istore (by decide +kernel : decode cX2_countOpen 33 = .ok (.istore 5, 2)) rfl (by decide)) ?_
  refine q_fa (ok_iload (by decide +kernel : decode cX2_countOpen 35 = .ok (.iload 5, 2)) rfl) ?_
  refine q_fa (ok_iload (by decide +kernel : decode cX2_countOpen 37 = .ok (.iload 4, 2)) rfl) ?_
  refine q_fa (ok_if2ge (by decide +kernel : decode cX2_countOpen 39 = .ok (.if_icmp .ge 51, 3)) (by decide) rfl) ?_
  refine q_fa (ok_aload_n (by decide +kernel : decode cX2_countOpen 42 = .ok (.aload_n 0, 1)) rfl rfl) ?_
  refine q_fa (ok_iload (by decide +kernel : decode cX2_countOpen 43 = .ok (.iload 5, 2)) rfl) ?_
  refine q_fa (ok_iload_n (by decide +kernel : decode cX2_countOpen 45 = .ok (.iload_n 1, 1)) rfl rfl) ?_
  refine q_fa (ok_callV (by decide +kernel : decode cX2_countOpen 46 = .ok (.invokevirtual 144, 3)) rfl kX2_isOfKinds.1 kX2_isOfKinds.2.1 kX2_isOfKinds.2.2.1 kX2_isOfKinds.2.2.2.1 kX2_isOfKinds.2.2.2.2 (rfl : vwCl[2]? = some (RX2, TX2, 17)) g888 gs41 g886) ?_
  refine q_fa (ok_if1eq (by decide +kernel : decode cX2_countOpen 49 = .ok (.ifCond .eq 35, 3)) (by decide) rfl) ?_
  refine q_fa (ok_aload_n (by decide +kernel : decode cX2_countOpen 52 = .ok (.aload_n 0, 1)) rfl rfl) ?_
  refine q_fa (ok_iload (by decide +kernel : decode cX2_countOpen 53 = .ok (.iload 5, 2)) rfl) ?_
  refine q_fa (ok_callV (by decide +kernel : decode cX2_countOpen 55 = .ok (.invokevirtual 148, 3)) rfl kX2_against.1 kX2_against.2.1 kX2_against.2.2.1 kX2_against.2.2.2.1 kX2_against.2.2.2.2 (rfl : vwCl[2]? = some (RX2, TX2, 17)) g893 gs42 g891) ?_
  refine q_fa (ok_if1ne (by decide +kernel : decode cX2_countOpen 58 = .ok (.ifCond .ne 26, 3)) (by decide) rfl) ?_
  refine q_fa (ok_aload_n (by decide +kernel : decode cX2_countOpen 61 = .ok (.aload_n 0, 1)) rfl rfl) ?_
  refine q_fa (ok_get (by decide +kernel : decode cX2_countOpen 62 = .ok (.getfield 34, 3)) rfl (rfl : vwCl[2]? = some (RX2, TX2, 17)) inX2 (by decide) g821) ?_
  refine q_fa (ok_aload_n (by decide +kernel : decode cX2_countOpen 65 = .ok (.aload_n 0, 1)) rfl rfl) ?_
  refine q_fa (ok_iload (by decide +kernel : decode cX2_countOpen 66 = .ok (.iload 5, 2)) rfl) ?_
  refine q_fa (ok_callV (by decide +kernel : decode cX2_countOpen 68 = .ok (.invokevirtual 86, 3)) rfl kX2_meaningAt.1 kX2_meaningAt.2.1 kX2_meaningAt.2.2.1 kX2_meaningAt.2.2.2.1 kX2_meaningAt.2.2.2.2 (rfl : vwCl[2]? = some (RX2, TX2, 17)) g812 gs39 g810) ?_
  refine q_fa (ok_aload_n (by decide +kernel : decode cX2_countOpen 71 = .ok (.aload_n 0, 1)) rfl rfl) ?_
  refine q_fa (ok_get (by decide +kernel : decode cX2_countOpen 72 = .ok (.getfield 155, 3)) rfl (rfl : vwCl[2]? = some (RX2, TX2, 17)) inX2 (by decide) g822) ?_
  refine q_fa (ok_callS (by decide +kernel : decode cX2_countOpen 75 = .ok (.invokestatic 151, 3)) rfl kX2_isNew.1 kX2_isNew.2.1 kX2_isNew.2.2.1 kX2_isNew.2.2.2.1 kX2_isNew.2.2.2.2 g897 g896) ?_
  refine q_fa (ok_if1eq (by decide +kernel : decode cX2_countOpen 78 = .ok (.ifCond .eq 6, 3)) (by decide) rfl) ?_
  refine q_fa (ok_iinc (by decide +kernel : decode cX2_countOpen 81 = .ok (.iinc 3 1, 3)) rfl (by decide +kernel) (by decide)) ?_
  refine q_fa (ok_iinc (by decide +kernel : decode cX2_countOpen 84 = .ok (.iinc 5 1, 3)) rfl (by decide +kernel) (by decide)) ?_
  refine q_fa (ok_goto (by decide +kernel : decode cX2_countOpen 87 = .ok (.goto (-52), 3)) (by decide)) ?_
  refine q_fa (ok_iload_n (by decide +kernel : decode cX2_countOpen 90 = .ok (.iload_n 3, 1)) rfl rfl) ?_
  refine q_fa (ok_iret (by decide +kernel : decode cX2_countOpen 91 = .ok (.ireturn, 1)) rfl) ?_
  exact q_fa0
theorem exX2_countOpen : ∃ t : Nat → qP, t = uX2_countOpen := ⟨_, rfl⟩
noncomputable def tX2_countOpen : Nat → qP := Classical.choose exX2_countOpen
theorem teX2_countOpen : tX2_countOpen = uX2_countOpen := Classical.choose_spec exX2_countOpen
theorem sX2_countOpen : q_Snd mX2_countOpen tX2_countOpen := by rw [teX2_countOpen]; exact suX2_countOpen
theorem tX2_countOpen_0 : tX2_countOpen 0 = oAl 0 1 := (congrFun teX2_countOpen 0).trans rfl
theorem tX2_countOpen_1 : tX2_countOpen 1 = oCallV 2 mX2_judgeNew 0 4 := (congrFun teX2_countOpen 1).trans rfl
theorem tX2_countOpen_4 : tX2_countOpen 4 = oAl 0 5 := (congrFun teX2_countOpen 4).trans rfl
theorem tX2_countOpen_5 : tX2_countOpen 5 = oDup 6 := (congrFun teX2_countOpen 5).trans rfl
theorem tX2_countOpen_6 : tX2_countOpen 6 = oGet 2 8 9 := (congrFun teX2_countOpen 6).trans rfl
theorem tX2_countOpen_9 : tX2_countOpen 9 = oK (.int (nI 1)) 10 := (congrFun teX2_countOpen 9).trans rfl
theorem tX2_countOpen_10 : tX2_countOpen 10 = oAdd 11 := (congrFun teX2_countOpen 10).trans rfl
theorem tX2_countOpen_11 : tX2_countOpen 11 = oPutI 2 8 14 := (congrFun teX2_countOpen 11).trans rfl
theorem tX2_countOpen_14 : tX2_countOpen 14 = oK (.int (nI 0)) 15 := (congrFun teX2_countOpen 14).trans rfl
theorem tX2_countOpen_15 : tX2_countOpen 15 = oIs 3 16 := (congrFun teX2_countOpen 15).trans rfl
theorem tX2_countOpen_16 : tX2_countOpen 16 = oAl 0 17 := (congrFun teX2_countOpen 16).trans rfl
theorem tX2_countOpen_17 : tX2_countOpen 17 = oGet 2 0 20 := (congrFun teX2_countOpen 17).trans rfl
theorem tX2_countOpen_20 : tX2_countOpen 20 = oIl 2 21 := (congrFun teX2_countOpen 20).trans rfl
theorem tX2_countOpen_21 : tX2_countOpen 21 = oCallV 1 mX1_end 1 24 := (congrFun teX2_countOpen 21).trans rfl
theorem tX2_countOpen_24 : tX2_countOpen 24 = oK (.int (nI 4937)) 27 := (congrFun teX2_countOpen 24).trans rfl
theorem tX2_countOpen_27 : tX2_countOpen 27 = oMin 30 := (congrFun teX2_countOpen 27).trans rfl
theorem tX2_countOpen_30 : tX2_countOpen 30 = oIs 4 32 := (congrFun teX2_countOpen 30).trans rfl
theorem tX2_countOpen_32 : tX2_countOpen 32 = oK (.int (nI 0)) 33 := (congrFun teX2_countOpen 32).trans rfl
theorem tX2_countOpen_33 : tX2_countOpen 33 = oIs 5 35 := (congrFun teX2_countOpen 33).trans rfl
theorem tX2_countOpen_35 : tX2_countOpen 35 = oIl 5 37 := (congrFun teX2_countOpen 35).trans rfl
theorem tX2_countOpen_37 : tX2_countOpen 37 = oIl 4 39 := (congrFun teX2_countOpen 37).trans rfl
theorem tX2_countOpen_39 : tX2_countOpen 39 = oIf2ge 90 42 := (congrFun teX2_countOpen 39).trans rfl
theorem tX2_countOpen_42 : tX2_countOpen 42 = oAl 0 43 := (congrFun teX2_countOpen 42).trans rfl
theorem tX2_countOpen_43 : tX2_countOpen 43 = oIl 5 45 := (congrFun teX2_countOpen 43).trans rfl
theorem tX2_countOpen_45 : tX2_countOpen 45 = oIl 1 46 := (congrFun teX2_countOpen 45).trans rfl
theorem tX2_countOpen_46 : tX2_countOpen 46 = oCallV 2 mX2_isOfKinds 2 49 := (congrFun teX2_countOpen 46).trans rfl
theorem tX2_countOpen_49 : tX2_countOpen 49 = oIf1eq 84 52 := (congrFun teX2_countOpen 49).trans rfl
theorem tX2_countOpen_52 : tX2_countOpen 52 = oAl 0 53 := (congrFun teX2_countOpen 52).trans rfl
theorem tX2_countOpen_53 : tX2_countOpen 53 = oIl 5 55 := (congrFun teX2_countOpen 53).trans rfl
theorem tX2_countOpen_55 : tX2_countOpen 55 = oCallV 2 mX2_against 1 58 := (congrFun teX2_countOpen 55).trans rfl
theorem tX2_countOpen_58 : tX2_countOpen 58 = oIf1ne 84 61 := (congrFun teX2_countOpen 58).trans rfl
theorem tX2_countOpen_61 : tX2_countOpen 61 = oAl 0 62 := (congrFun teX2_countOpen 61).trans rfl
theorem tX2_countOpen_62 : tX2_countOpen 62 = oGet 2 7 65 := (congrFun teX2_countOpen 62).trans rfl
theorem tX2_countOpen_65 : tX2_countOpen 65 = oAl 0 66 := (congrFun teX2_countOpen 65).trans rfl
theorem tX2_countOpen_66 : tX2_countOpen 66 = oIl 5 68 := (congrFun teX2_countOpen 66).trans rfl
theorem tX2_countOpen_68 : tX2_countOpen 68 = oCallV 2 mX2_meaningAt 1 71 := (congrFun teX2_countOpen 68).trans rfl
theorem tX2_countOpen_71 : tX2_countOpen 71 = oAl 0 72 := (congrFun teX2_countOpen 71).trans rfl
theorem tX2_countOpen_72 : tX2_countOpen 72 = oGet 2 8 75 := (congrFun teX2_countOpen 72).trans rfl
theorem tX2_countOpen_75 : tX2_countOpen 75 = oCallS mX2_isNew 3 78 := (congrFun teX2_countOpen 75).trans rfl
theorem tX2_countOpen_78 : tX2_countOpen 78 = oIf1eq 84 81 := (congrFun teX2_countOpen 78).trans rfl
theorem tX2_countOpen_81 : tX2_countOpen 81 = oInc 3 (nI 1) 84 := (congrFun teX2_countOpen 81).trans rfl
theorem tX2_countOpen_84 : tX2_countOpen 84 = oInc 5 (nI 1) 87 := (congrFun teX2_countOpen 84).trans rfl
theorem tX2_countOpen_87 : tX2_countOpen 87 = oGo 35 := (congrFun teX2_countOpen 87).trans rfl
theorem tX2_countOpen_90 : tX2_countOpen 90 = oIl 3 91 := (congrFun teX2_countOpen 90).trans rfl
theorem tX2_countOpen_91 : tX2_countOpen 91 = oIret := (congrFun teX2_countOpen 91).trans rfl
def lX2_countRows : List (Nat × qP) := [(0, oAl 0 1), (1, oGet 2 9 4), (4, oK (.int (nI 0)) 5), (5, oCallS mJ7_fill_53178 2 8), (8, oAl 0 9), (9, oGet 2 2 12), (12, oCallV 3 mX3_size 0 15), (15, oK (.int (nI 1284)) 18), (18, oMin 21), (21, oIs 1 22), (22, oK (.int (nI 0)) 23), (23, oIs 2 24), (24, oIl 2 25), (25, oIl 1 26), (26, oIf2ge 53 29), (29, oAl 0 30), (30, oGet 2 7 33), (33, oIl 2 34), (34, oIald 35), (35, oAl 0 36), (36, oGet 2 8 39), (39, oIf2ne 47 42), (42, oAl 0 43), (43, oIl 2 44), (44, oCallV 2 mX2_addRows 1 47), (47, oInc 2 (nI 1) 50), (50, oGo 24), (53, oVret)]
def uX2_countRows : Nat → qP := q_tb lX2_countRows
set_option maxRecDepth 20000 in
theorem suX2_countRows : q_Snd mX2_countRows uX2_countRows := by
  refine q_tb_ok ?_
  unfold lX2_countRows
  refine q_fa (ok_aload_n (by decide +kernel : decode cX2_countRows 0 = .ok (.aload_n 0, 1)) rfl rfl) ?_
  refine q_fa (ok_get (by decide +kernel : decode cX2_countRows 1 = .ok (.getfield 37, 3)) rfl (rfl : vwCl[2]? = some (RX2, TX2, 17)) inX2 (by decide) g823) ?_
  refine q_fa (ok_iconst (by decide +kernel : decode cX2_countRows 4 = .ok (.iconst 0, 1)) rfl (by decide +kernel)) ?_
  refine q_fa (ok_callS (by decide +kernel : decode cX2_countRows 5 = .ok (.invokestatic 158, 3)) rfl kJ7_fill_53178.1 kJ7_fill_53178.2.1 kJ7_fill_53178.2.2.1 kJ7_fill_53178.2.2.2.1 kJ7_fill_53178.2.2.2.2 g496 g940) ?_
  refine q_fa (ok_aload_n (by decide +kernel : decode cX2_countRows 8 = .ok (.aload_n 0, 1)) rfl rfl) ?_
  refine q_fa (ok_get (by decide +kernel : decode cX2_countRows 9 = .ok (.getfield 12, 3)) rfl (rfl : vwCl[2]? = some (RX2, TX2, 17)) inX2 (by decide) g816) ?_
  refine q_fa (ok_callV (by decide +kernel : decode cX2_countRows 12 = .ok (.invokevirtual 163, 3)) rfl kX3_size.1 kX3_size.2.1 kX3_size.2.2.1 kX3_size.2.2.2.1 kX3_size.2.2.2.2 (rfl : vwCl[3]? = some (RX3, TX3, 6)) g942 g943 g941) ?_
  refine q_fa (ok_sipush (by decide +kernel : decode cX2_countRows 15 = .ok (.sipush 1284, 3)) rfl (by decide +kernel)) ?_
  refine q_fa (ok_min (by decide +kernel : decode cX2_countRows 18 = .ok (.invokestatic 63, 3)) rfl g765 g456 g4 g457) ?_
  refine q_fa (ok_istore_n (by decide +kernel : decode cX2_countRows 21 = .ok (.istore_n 1, 1)) rfl rfl (by decide)) ?_
  refine q_fa (ok_iconst (by decide +kernel : decode cX2_countRows 22 = .ok (.iconst 0, 1)) rfl (by decide +kernel)) ?_
  refine q_fa (ok_istore_n (by decide +kernel : decode cX2_countRows 23 = .ok (.istore_n 2, 1)) rfl rfl (by decide)) ?_
  refine q_fa (ok_iload_n (by decide +kernel : decode cX2_countRows 24 = .ok (.iload_n 2, 1)) rfl rfl) ?_
  refine q_fa (ok_iload_n (by decide +kernel : decode cX2_countRows 25 = .ok (.iload_n 1, 1)) rfl rfl) ?_
  refine q_fa (ok_if2ge (by decide +kernel : decode cX2_countRows 26 = .ok (.if_icmp .ge 27, 3)) (by decide) rfl) ?_
  refine q_fa (ok_aload_n (by decide +kernel : decode cX2_countRows 29 = .ok (.aload_n 0, 1)) rfl rfl) ?_
  refine q_fa (ok_get (by decide +kernel : decode cX2_countRows 30 = .ok (.getfield 34, 3)) rfl (rfl : vwCl[2]? = some (RX2, TX2, 17)) inX2 (by decide) g821) ?_
  refine q_fa (ok_iload_n (by decide +kernel : decode cX2_countRows 33 = .ok (.iload_n 2, 1)) rfl rfl) ?_
  refine q_fa (ok_iaload (by decide +kernel : decode cX2_countRows 34 = .ok (.iaload, 1)) rfl) ?_
  refine q_fa (ok_aload_n (by decide +kernel : decode cX2_countRows 35 = .ok (.aload_n 0, 1)) rfl rfl) ?_
  refine q_fa (ok_get (by decide +kernel : decode cX2_countRows 36 = .ok (.getfield 155, 3)) rfl (rfl : vwCl[2]? = some (RX2, TX2, 17)) inX2 (by decide) g822) ?_
  refine q_fa (ok_if2ne (by decide +kernel : decode cX2_countRows 39 = .ok (.if_icmp .ne 8, 3)) (by decide) rfl) ?_
  refine q_fa (ok_aload_n (by decide +kernel : decode cX2_countRows 42 = .ok (.aload_n 0, 1)) rfl rfl) ?_
  refine q_fa (ok_iload_n (by decide +kernel : decode cX2_countRows 43 = .ok (.iload_n 2, 1)) rfl rfl) ?_
  refine q_fa (ok_callV (by decide +kernel : decode cX2_countRows 44 = .ok (.invokevirtual 164, 3)) rfl kX2_addRows.1 kX2_addRows.2.1 kX2_addRows.2.2.1 kX2_addRows.2.2.2.1 kX2_addRows.2.2.2.2 (rfl : vwCl[2]? = some (RX2, TX2, 17)) g947 gs45 g945) ?_
  refine q_fa (ok_iinc (by decide +kernel : decode cX2_countRows 47 = .ok (.iinc 2 1, 3)) rfl (by decide +kernel) (by decide)) ?_
  refine q_fa (ok_goto (by decide +kernel : decode cX2_countRows 50 = .ok (.goto (-26), 3)) (by decide)) ?_
  refine q_fa (ok_vret (by decide +kernel : decode cX2_countRows 53 = .ok (.return_, 1)) rfl) ?_
  exact q_fa0
theorem exX2_countRows : ∃ t : Nat → qP, t = uX2_countRows := ⟨_, rfl⟩
noncomputable def tX2_countRows : Nat → qP := Classical.choose exX2_countRows
theorem teX2_countRows : tX2_countRows = uX2_countRows := Classical.choose_spec exX2_countRows
theorem sX2_countRows : q_Snd mX2_countRows tX2_countRows := by rw [teX2_countRows]; exact suX2_countRows
theorem tX2_countRows_0 : tX2_countRows 0 = oAl 0 1 := (congrFun teX2_countRows 0).trans rfl
theorem tX2_countRows_1 : tX2_countRows 1 = oGet 2 9 4 := (congrFun teX2_countRows 1).trans rfl
theorem tX2_countRows_4 : tX2_countRows 4 = oK (.int (nI 0)) 5 := (congrFun teX2_countRows 4).trans rfl
theorem tX2_countRows_5 : tX2_countRows 5 = oCallS mJ7_fill_53178 2 8 := (congrFun teX2_countRows 5).trans rfl
theorem tX2_countRows_8 : tX2_countRows 8 = oAl 0 9 := (congrFun teX2_countRows 8).trans rfl
theorem tX2_countRows_9 : tX2_countRows 9 = oGet 2 2 12 := (congrFun teX2_countRows 9).trans rfl
theorem tX2_countRows_12 : tX2_countRows 12 = oCallV 3 mX3_size 0 15 := (congrFun teX2_countRows 12).trans rfl
theorem tX2_countRows_15 : tX2_countRows 15 = oK (.int (nI 1284)) 18 := (congrFun teX2_countRows 15).trans rfl
theorem tX2_countRows_18 : tX2_countRows 18 = oMin 21 := (congrFun teX2_countRows 18).trans rfl
theorem tX2_countRows_21 : tX2_countRows 21 = oIs 1 22 := (congrFun teX2_countRows 21).trans rfl
theorem tX2_countRows_22 : tX2_countRows 22 = oK (.int (nI 0)) 23 := (congrFun teX2_countRows 22).trans rfl
theorem tX2_countRows_23 : tX2_countRows 23 = oIs 2 24 := (congrFun teX2_countRows 23).trans rfl
theorem tX2_countRows_24 : tX2_countRows 24 = oIl 2 25 := (congrFun teX2_countRows 24).trans rfl
theorem tX2_countRows_25 : tX2_countRows 25 = oIl 1 26 := (congrFun teX2_countRows 25).trans rfl
theorem tX2_countRows_26 : tX2_countRows 26 = oIf2ge 53 29 := (congrFun teX2_countRows 26).trans rfl
theorem tX2_countRows_29 : tX2_countRows 29 = oAl 0 30 := (congrFun teX2_countRows 29).trans rfl
theorem tX2_countRows_30 : tX2_countRows 30 = oGet 2 7 33 := (congrFun teX2_countRows 30).trans rfl
theorem tX2_countRows_33 : tX2_countRows 33 = oIl 2 34 := (congrFun teX2_countRows 33).trans rfl
theorem tX2_countRows_34 : tX2_countRows 34 = oIald 35 := (congrFun teX2_countRows 34).trans rfl
theorem tX2_countRows_35 : tX2_countRows 35 = oAl 0 36 := (congrFun teX2_countRows 35).trans rfl
theorem tX2_countRows_36 : tX2_countRows 36 = oGet 2 8 39 := (congrFun teX2_countRows 36).trans rfl
theorem tX2_countRows_39 : tX2_countRows 39 = oIf2ne 47 42 := (congrFun teX2_countRows 39).trans rfl
theorem tX2_countRows_42 : tX2_countRows 42 = oAl 0 43 := (congrFun teX2_countRows 42).trans rfl
theorem tX2_countRows_43 : tX2_countRows 43 = oIl 2 44 := (congrFun teX2_countRows 43).trans rfl
theorem tX2_countRows_44 : tX2_countRows 44 = oCallV 2 mX2_addRows 1 47 := (congrFun teX2_countRows 44).trans rfl
theorem tX2_countRows_47 : tX2_countRows 47 = oInc 2 (nI 1) 50 := (congrFun teX2_countRows 47).trans rfl
theorem tX2_countRows_50 : tX2_countRows 50 = oGo 24 := (congrFun teX2_countRows 50).trans rfl
theorem tX2_countRows_53 : tX2_countRows 53 = oVret := (congrFun teX2_countRows 53).trans rfl
def lX2_addRows : List (Nat × qP) := [(0, oK (.int (nI 0)) 1), (1, oIs 2 2), (2, oIl 2 3), (3, oK (.int (nI 40)) 5), (5, oIf2ge 36 8), (8, oAl 0 9), (9, oGet 2 2 12), (12, oIl 1 13), (13, oIl 2 14), (14, oCallV 3 mX3_hasRow 2 17), (17, oIf1eq 30 20), (20, oAl 0 21), (21, oGet 2 9 24), (24, oIl 2 25), (25, oDup2 26), (26, oIald 27), (27, oK (.int (nI 1)) 28), (28, oAdd 29), (29, oIast 30), (30, oInc 2 (nI 1) 33), (33, oGo 2), (36, oVret)]
def uX2_addRows : Nat → qP := q_tb lX2_addRows
set_option maxRecDepth 20000 in
theorem suX2_addRows : q_Snd mX2_addRows uX2_addRows := by
  refine q_tb_ok ?_
  unfold lX2_addRows
  refine q_fa (ok_iconst (by decide +kernel : decode cX2_addRows 0 = .ok (.iconst 0, 1)) rfl (by decide +kernel)) ?_
  refine q_fa (ok_istore_n (by decide +kernel : decode cX2_addRows 1 = .ok (.istore_n 2, 1)) rfl rfl (by decide)) ?_
  refine q_fa (ok_iload_n (by decide +kernel : decode cX2_addRows 2 = .ok (.iload_n 2, 1)) rfl rfl) ?_
  refine q_fa (ok_bipush (by decide +kernel : decode cX2_addRows 3 = .ok (.bipush 40, 2)) rfl (by decide +kernel)) ?_
  refine q_fa (ok_if2ge (by decide +kernel : decode cX2_addRows 5 = .ok (.if_icmp .ge 31, 3)) (by decide) rfl) ?_
  refine q_fa (ok_aload_n (by decide +kernel : decode cX2_addRows 8 = .ok (.aload_n 0, 1)) rfl rfl) ?_
  refine q_fa (ok_get (by decide +kernel : decode cX2_addRows 9 = .ok (.getfield 12, 3)) rfl (rfl : vwCl[2]? = some (RX2, TX2, 17)) inX2 (by decide) g816) ?_
  refine q_fa (ok_iload_n (by decide +kernel : decode cX2_addRows 12 = .ok (.iload_n 1, 1)) rfl rfl) ?_
  refine q_fa (ok_iload_n (by decide +kernel : decode cX2_addRows 13 = .ok (.iload_n 2, 1)) rfl rfl) ?_
  refine q_fa (ok_callV (by decide +kernel : decode cX2_addRows 14 = .ok (.invokevirtual 167, 3)) rfl kX3_hasRow.1 kX3_hasRow.2.1 kX3_hasRow.2.2.1 kX3_hasRow.2.2.2.1 kX3_hasRow.2.2.2.2 (rfl : vwCl[3]? = some (RX3, TX3, 6)) g950 g951 g949) ?_
  refine q_fa (ok_if1eq (by decide +kernel : decode cX2_addRows 17 = .ok (.ifCond .eq 13, 3)) (by decide) rfl) ?_
  refine q_fa (ok_aload_n (by decide +kernel : decode cX2_addRows 20 = .ok (.aload_n 0, 1)) rfl rfl) ?_
  refine q_fa (ok_get (by decide +kernel : decode cX2_addRows 21 = .ok (.getfield 37, 3)) rfl (rfl : vwCl[2]? = some (RX2, TX2, 17)) inX2 (by decide) g823) ?_
  refine q_fa (ok_iload_n (by decide +kernel : decode cX2_addRows 24 = .ok (.iload_n 2, 1)) rfl rfl) ?_
  refine q_fa (ok_dup2 (by decide +kernel : decode cX2_addRows 25 = .ok (.dup2, 1)) rfl) ?_
  refine q_fa (ok_iaload (by decide +kernel : decode cX2_addRows 26 = .ok (.iaload, 1)) rfl) ?_
  refine q_fa (ok_iconst (by decide +kernel : decode cX2_addRows 27 = .ok (.iconst 1, 1)) rfl (by decide +kernel)) ?_
  refine q_fa (ok_iadd (by decide +kernel : decode cX2_addRows 28 = .ok (.iadd, 1)) rfl) ?_
  refine q_fa (ok_iastore (by decide +kernel : decode cX2_addRows 29 = .ok (.iastore, 1)) rfl) ?_
  refine q_fa (ok_iinc (by decide +kernel : decode cX2_addRows 30 = .ok (.iinc 2 1, 3)) rfl (by decide +kernel) (by decide)) ?_
  refine q_fa (ok_goto (by decide +kernel : decode cX2_addRows 33 = .ok (.goto (-31), 3)) (by decide)) ?_
  refine q_fa (ok_vret (by decide +kernel : decode cX2_addRows 36 = .ok (.return_, 1)) rfl) ?_
  exact q_fa0
theorem exX2_addRows : ∃ t : Nat → qP, t = uX2_addRows := ⟨_, rfl⟩
noncomputable def tX2_addRows : Nat → qP := Classical.choose exX2_addRows
theorem teX2_addRows : tX2_addRows = uX2_addRows := Classical.choose_spec exX2_addRows
theorem sX2_addRows : q_Snd mX2_addRows tX2_addRows := by rw [teX2_addRows]; exact suX2_addRows
theorem tX2_addRows_0 : tX2_addRows 0 = oK (.int (nI 0)) 1 := (congrFun teX2_addRows 0).trans rfl
theorem tX2_addRows_1 : tX2_addRows 1 = oIs 2 2 := (congrFun teX2_addRows 1).trans rfl
theorem tX2_addRows_2 : tX2_addRows 2 = oIl 2 3 := (congrFun teX2_addRows 2).trans rfl
theorem tX2_addRows_3 : tX2_addRows 3 = oK (.int (nI 40)) 5 := (congrFun teX2_addRows 3).trans rfl
theorem tX2_addRows_5 : tX2_addRows 5 = oIf2ge 36 8 := (congrFun teX2_addRows 5).trans rfl
theorem tX2_addRows_8 : tX2_addRows 8 = oAl 0 9 := (congrFun teX2_addRows 8).trans rfl
theorem tX2_addRows_9 : tX2_addRows 9 = oGet 2 2 12 := (congrFun teX2_addRows 9).trans rfl
theorem tX2_addRows_12 : tX2_addRows 12 = oIl 1 13 := (congrFun teX2_addRows 12).trans rfl
theorem tX2_addRows_13 : tX2_addRows 13 = oIl 2 14 := (congrFun teX2_addRows 13).trans rfl
theorem tX2_addRows_14 : tX2_addRows 14 = oCallV 3 mX3_hasRow 2 17 := (congrFun teX2_addRows 14).trans rfl
theorem tX2_addRows_17 : tX2_addRows 17 = oIf1eq 30 20 := (congrFun teX2_addRows 17).trans rfl
theorem tX2_addRows_20 : tX2_addRows 20 = oAl 0 21 := (congrFun teX2_addRows 20).trans rfl
theorem tX2_addRows_21 : tX2_addRows 21 = oGet 2 9 24 := (congrFun teX2_addRows 21).trans rfl
theorem tX2_addRows_24 : tX2_addRows 24 = oIl 2 25 := (congrFun teX2_addRows 24).trans rfl
theorem tX2_addRows_25 : tX2_addRows 25 = oDup2 26 := (congrFun teX2_addRows 25).trans rfl
theorem tX2_addRows_26 : tX2_addRows 26 = oIald 27 := (congrFun teX2_addRows 26).trans rfl
theorem tX2_addRows_27 : tX2_addRows 27 = oK (.int (nI 1)) 28 := (congrFun teX2_addRows 27).trans rfl
theorem tX2_addRows_28 : tX2_addRows 28 = oAdd 29 := (congrFun teX2_addRows 28).trans rfl
theorem tX2_addRows_29 : tX2_addRows 29 = oIast 30 := (congrFun teX2_addRows 29).trans rfl
theorem tX2_addRows_30 : tX2_addRows 30 = oInc 2 (nI 1) 33 := (congrFun teX2_addRows 30).trans rfl
theorem tX2_addRows_33 : tX2_addRows 33 = oGo 2 := (congrFun teX2_addRows 33).trans rfl
theorem tX2_addRows_36 : tX2_addRows 36 = oVret := (congrFun teX2_addRows 36).trans rfl
def lX2_evenestRow : List (Nat × qP) := [(0, oAl 0 1), (1, oIl 1 2), (2, oIl 2 3), (3, oCallV 2 mX2_countOpen 2 6), (6, oIs 3 7), (7, oAl 0 8), (8, oCallV 2 mX2_countRows 0 11), (11, oK (.int (nI 0)) 12), (12, oIs 4 14), (14, oK (.int (nI 0)) 15), (15, oIs 5 17), (17, oK (.int (nI 0)) 18), (18, oIs 6 20), (20, oIl 6 22), (22, oK (.int (nI 40)) 24), (24, oIf2ge 69 27), (27, oAl 0 28), (28, oGet 2 9 31), (31, oIl 6 33), (33, oIald 34), (34, oIl 3 35), (35, oAl 0 36), (36, oGet 2 9 39), (39, oIl 6 41), (41, oIald 42), (42, oSub 43), (43, oMin 46), (46, oIs 7 48), (48, oIl 7 50), (50, oIl 5 52), (52, oIf2le 63 55), (55, oIl 7 57), (57, oIs 5 59), (59, oIl 6 61), (61, oIs 4 63), (63, oInc 6 (nI 1) 66), (66, oGo 20), (69, oAl 0 70), (70, oIl 5 72), (72, oIf1le 85 75), (75, oAl 0 76), (76, oGet 2 9 79), (79, oIl 4 81), (81, oIald 82), (82, oGo 86), (85, oK (.int (nI 0)) 86), (86, oPutI 2 10 89), (89, oIl 5 91), (91, oIf1le 102 94), (94, oIl 4 96), (96, oCallS mX2_rowBy 1 99), (99, oGo 104), (102, oK (.int (-2)) 104), (104, oIret)]
def uX2_evenestRow : Nat → qP := q_tb lX2_evenestRow
set_option maxRecDepth 20000 in
theorem suX2_evenestRow : q_Snd mX2_evenestRow uX2_evenestRow := by
  refine q_tb_ok ?_
  unfold lX2_evenestRow
  refine q_fa (ok_aload_n (by decide +kernel : decode cX2_evenestRow 0 = .ok (.aload_n 0, 1)) rfl rfl) ?_
  refine q_fa (ok_iload_n (by decide +kernel : decode cX2_evenestRow 1 = .ok (.iload_n 1, 1)) rfl rfl) ?_
  refine q_fa (ok_iload_n (by decide +kernel : decode cX2_evenestRow 2 = .ok (.iload_n 2, 1)) rfl rfl) ?_
  refine q_fa (ok_callV (by decide +kernel : decode cX2_evenestRow 3 = .ok (.invokevirtual 170, 3)) rfl kX2_countOpen.1 kX2_countOpen.2.1 kX2_countOpen.2.2.1 kX2_countOpen.2.2.2.1 kX2_countOpen.2.2.2.2 (rfl : vwCl[2]? = some (RX2, TX2, 17)) g924 g925 g935) ?_
  refine q_fa (ok_istore_n (by decide +kernel : decode cX2_evenestRow 6 = .ok (.istore_n 3, 1)) rfl rfl (by decide)) ?_
  refine q_fa (ok_aload_n (by decide +kernel : decode cX2_evenestRow 7 = .ok (.aload_n 0, 1)) rfl rfl) ?_
  refine q_fa (ok_callV (by decide +kernel : decode cX2_evenestRow 8 = .ok (.invokevirtual 173, 3)) rfl kX2_countRows.1 kX2_countRows.2.1 kX2_countRows.2.2.1 kX2_countRows.2.2.2.1 kX2_countRows.2.2.2.2 (rfl : vwCl[2]? = some (RX2, TX2, 17)) g938 gs44 g936) ?_
  refine q_fa (ok_iconst (by decide +kernel : decode cX2_evenestRow 11 = .ok (.iconst 0, 1)) rfl (by decide +kernel)) ?_
  refine q_fa (ok_istore (by decide +kernel : decode cX2_evenestRow 12 = .ok (.istore 4, 2)) rfl (by decide)) ?_
  refine q_fa (ok_iconst (by decide +kernel : decode cX2_evenestRow 14 = .ok (.iconst 0, 1)) rfl (by decide +kernel)) ?_
  refine q_fa (ok_istore (by decide +kernel : decode cX2_evenestRow 15 = .ok (.istore 5, 2)) rfl (by decide)) ?_
  refine q_fa (ok_iconst (by decide +kernel : decode cX2_evenestRow 17 = .ok (.iconst 0, 1)) rfl (by decide +kernel)) ?_
  refine q_fa (ok_istore (by decide +kernel : decode cX2_evenestRow 18 = .ok (.istore 6, 2)) rfl (by decide)) ?_
  refine q_fa (ok_iload (by decide +kernel : decode cX2_evenestRow 20 = .ok (.iload 6, 2)) rfl) ?_
  refine q_fa (ok_bipush (by decide +kernel : decode cX2_evenestRow 22 = .ok (.bipush 40, 2)) rfl (by decide +kernel)) ?_
  refine q_fa (ok_if2ge (by decide +kernel : decode cX2_evenestRow 24 = .ok (.if_icmp .ge 45, 3)) (by decide) rfl) ?_
  refine q_fa (ok_aload_n (by decide +kernel : decode cX2_evenestRow 27 = .ok (.aload_n 0, 1)) rfl rfl) ?_
  refine q_fa (ok_get (by decide +kernel : decode cX2_evenestRow 28 = .ok (.getfield 37, 3)) rfl (rfl : vwCl[2]? = some (RX2, TX2, 17)) inX2 (by decide) g823) ?_
  refine q_fa (ok_iload (by decide +kernel : decode cX2_evenestRow 31 = .ok (.iload 6, 2)) rfl) ?_
  refine q_fa (ok_iaload (by decide +kernel : decode cX2_evenestRow 33 = .ok (.iaload, 1)) rfl) ?_
  refine q_fa (ok_iload_n (by decide +kernel : decode cX2_evenestRow 34 = .ok (.iload_n 3, 1)) rfl rfl) ?_
  refine q_fa (ok_aload_n (by decide +kernel : decode cX2_evenestRow 35 = .ok (.aload_n 0, 1)) rfl rfl) ?_
  refine q_fa (ok_get (by decide +kernel : decode cX2_evenestRow 36 = .ok (.getfield 37, 3)) rfl (rfl : vwCl[2]? = some (RX2, TX2, 17)) inX2 (by decide) g823) ?_
  refine q_fa (ok_iload (by decide +kernel : decode cX2_evenestRow 39 = .ok (.iload 6, 2)) rfl) ?_
  refine q_fa (ok_iaload (by decide +kernel : decode cX2_evenestRow 41 = .ok (.iaload, 1)) rfl) ?_
  refine q_fa (ok_isub (by decide +kernel : decode cX2_evenestRow 42 = .ok (.isub, 1)) rfl) ?_
  refine q_fa (ok_min (by decide +kernel : decode cX2_evenestRow 43 = .ok (.invokestatic 63, 3)) rfl g765 g456 g4 g457) ?_
  refine q_fa (ok_istore (by decide +kernel : decode cX2_evenestRow 46 = .ok (.istore 7, 2)) rfl (by decide)) ?_
  refine q_fa (ok_iload (by decide +kernel : decode cX2_evenestRow 48 = .ok (.iload 7, 2)) rfl) ?_
  refine q_fa (ok_iload (by decide +kernel : decode cX2_evenestRow 50 = .ok (.iload 5, 2)) rfl) ?_
  refine q_fa (ok_if2le (by decide +kernel : decode cX2_evenestRow 52 = .ok (.if_icmp .le 11, 3)) (by decide) rfl) ?_
  refine q_fa (ok_iload (by decide +kernel : decode cX2_evenestRow 55 = .ok (.iload 7, 2)) rfl) ?_
  refine q_fa (ok_istore (by decide +kernel : decode cX2_evenestRow 57 = .ok (.istore 5, 2)) rfl (by decide)) ?_
  refine q_fa (ok_iload (by decide +kernel : decode cX2_evenestRow 59 = .ok (.iload 6, 2)) rfl) ?_
  refine q_fa (ok_istore (by decide +kernel : decode cX2_evenestRow 61 = .ok (.istore 4, 2)) rfl (by decide)) ?_
  refine q_fa (ok_iinc (by decide +kernel : decode cX2_evenestRow 63 = .ok (.iinc 6 1, 3)) rfl (by decide +kernel) (by decide)) ?_
  refine q_fa (ok_goto (by decide +kernel : decode cX2_evenestRow 66 = .ok (.goto (-46), 3)) (by decide)) ?_
  refine q_fa (ok_aload_n (by decide +kernel : decode cX2_evenestRow 69 = .ok (.aload_n 0, 1)) rfl rfl) ?_
  refine q_fa (ok_iload (by decide +kernel : decode cX2_evenestRow 70 = .ok (.iload 5, 2)) rfl) ?_
  refine q_fa (ok_if1le (by decide +kernel : decode cX2_evenestRow 72 = .ok (.ifCond .le 13, 3)) (by decide) rfl) ?_
  refine q_fa (ok_aload_n (by decide +kernel : decode cX2_evenestRow 75 = .ok (.aload_n 0, 1)) rfl rfl) ?_
  refine q_fa (ok_get (by decide +kernel : decode cX2_evenestRow 76 = .ok (.getfield 37, 3)) rfl (rfl : vwCl[2]? = some (RX2, TX2, 17)) inX2 (by decide) g823) ?_
  refine q_fa (ok_iload (by decide +kernel : decode cX2_evenestRow 79 = .ok (.iload 4, 2)) rfl) ?_
  refine q_fa (ok_iaload (by decide +kernel : decode cX2_evenestRow 81 = .ok (.iaload, 1)) rfl) ?_
  refine q_fa (ok_goto (by decide +kernel : decode cX2_evenestRow 82 = .ok (.goto 4, 3)) (by decide)) ?_
  refine q_fa (ok_iconst (by decide +kernel : decode cX2_evenestRow 85 = .ok (.iconst 0, 1)) rfl (by decide +kernel)) ?_
  refine q_fa (ok_putI tyX2 (by decide +kernel : decode cX2_evenestRow 86 = .ok (.putfield 176, 3)) rfl (rfl : vwCl[2]? = some (RX2, TX2, 17)) inX2 tyX2_ok nmX2 (by decide) g824 (Or.inl rfl) (by decide +kernel)) ?_
  refine q_fa (ok_iload (by decide +kernel : decode cX2_evenestRow 89 = .ok (.iload 5, 2)) rfl) ?_
  refine q_fa (ok_if1le (by decide +kernel : decode cX2_evenestRow 91 = .ok (.ifCond .le 11, 3)) (by decide) rfl) ?_
  refine q_fa (ok_iload (by decide +kernel : decode cX2_evenestRow 94 = .ok (.iload 4, 2)) rfl) ?_
  refine q_fa (ok_callS (by decide +kernel : decode cX2_evenestRow 96 = .ok (.invokestatic 179, 3)) rfl kX2_rowBy.1 kX2_rowBy.2.1 kX2_rowBy.2.2.1 kX2_rowBy.2.2.2.1 kX2_rowBy.2.2.2.2 g954 g953) ?_
  refine q_fa (ok_goto (by decide +kernel : decode cX2_evenestRow 99 = .ok (.goto 5, 3)) (by decide)) ?_
  refine q_fa (ok_bipush (by decide +kernel : decode cX2_evenestRow 102 = .ok (.bipush (-2), 2)) rfl (by decide +kernel)) ?_
  refine q_fa (ok_iret (by decide +kernel : decode cX2_evenestRow 104 = .ok (.ireturn, 1)) rfl) ?_
  exact q_fa0
theorem exX2_evenestRow : ∃ t : Nat → qP, t = uX2_evenestRow := ⟨_, rfl⟩
noncomputable def tX2_evenestRow : Nat → qP := Classical.choose exX2_evenestRow
theorem teX2_evenestRow : tX2_evenestRow = uX2_evenestRow := Classical.choose_spec exX2_evenestRow
theorem sX2_evenestRow : q_Snd mX2_evenestRow tX2_evenestRow := by rw [teX2_evenestRow]; exact suX2_evenestRow
theorem tX2_evenestRow_0 : tX2_evenestRow 0 = oAl 0 1 := (congrFun teX2_evenestRow 0).trans rfl
theorem tX2_evenestRow_1 : tX2_evenestRow 1 = oIl 1 2 := (congrFun teX2_evenestRow 1).trans rfl
theorem tX2_evenestRow_2 : tX2_evenestRow 2 = oIl 2 3 := (congrFun teX2_evenestRow 2).trans rfl
theorem tX2_evenestRow_3 : tX2_evenestRow 3 = oCallV 2 mX2_countOpen 2 6 := (congrFun teX2_evenestRow 3).trans rfl
theorem tX2_evenestRow_6 : tX2_evenestRow 6 = oIs 3 7 := (congrFun teX2_evenestRow 6).trans rfl
theorem tX2_evenestRow_7 : tX2_evenestRow 7 = oAl 0 8 := (congrFun teX2_evenestRow 7).trans rfl
theorem tX2_evenestRow_8 : tX2_evenestRow 8 = oCallV 2 mX2_countRows 0 11 := (congrFun teX2_evenestRow 8).trans rfl
theorem tX2_evenestRow_11 : tX2_evenestRow 11 = oK (.int (nI 0)) 12 := (congrFun teX2_evenestRow 11).trans rfl
theorem tX2_evenestRow_12 : tX2_evenestRow 12 = oIs 4 14 := (congrFun teX2_evenestRow 12).trans rfl
theorem tX2_evenestRow_14 : tX2_evenestRow 14 = oK (.int (nI 0)) 15 := (congrFun teX2_evenestRow 14).trans rfl
theorem tX2_evenestRow_15 : tX2_evenestRow 15 = oIs 5 17 := (congrFun teX2_evenestRow 15).trans rfl
theorem tX2_evenestRow_17 : tX2_evenestRow 17 = oK (.int (nI 0)) 18 := (congrFun teX2_evenestRow 17).trans rfl
theorem tX2_evenestRow_18 : tX2_evenestRow 18 = oIs 6 20 := (congrFun teX2_evenestRow 18).trans rfl
theorem tX2_evenestRow_20 : tX2_evenestRow 20 = oIl 6 22 := (congrFun teX2_evenestRow 20).trans rfl
theorem tX2_evenestRow_22 : tX2_evenestRow 22 = oK (.int (nI 40)) 24 := (congrFun teX2_evenestRow 22).trans rfl
theorem tX2_evenestRow_24 : tX2_evenestRow 24 = oIf2ge 69 27 := (congrFun teX2_evenestRow 24).trans rfl
theorem tX2_evenestRow_27 : tX2_evenestRow 27 = oAl 0 28 := (congrFun teX2_evenestRow 27).trans rfl
theorem tX2_evenestRow_28 : tX2_evenestRow 28 = oGet 2 9 31 := (congrFun teX2_evenestRow 28).trans rfl
theorem tX2_evenestRow_31 : tX2_evenestRow 31 = oIl 6 33 := (congrFun teX2_evenestRow 31).trans rfl
theorem tX2_evenestRow_33 : tX2_evenestRow 33 = oIald 34 := (congrFun teX2_evenestRow 33).trans rfl
theorem tX2_evenestRow_34 : tX2_evenestRow 34 = oIl 3 35 := (congrFun teX2_evenestRow 34).trans rfl
theorem tX2_evenestRow_35 : tX2_evenestRow 35 = oAl 0 36 := (congrFun teX2_evenestRow 35).trans rfl
theorem tX2_evenestRow_36 : tX2_evenestRow 36 = oGet 2 9 39 := (congrFun teX2_evenestRow 36).trans rfl
theorem tX2_evenestRow_39 : tX2_evenestRow 39 = oIl 6 41 := (congrFun teX2_evenestRow 39).trans rfl
theorem tX2_evenestRow_41 : tX2_evenestRow 41 = oIald 42 := (congrFun teX2_evenestRow 41).trans rfl
theorem tX2_evenestRow_42 : tX2_evenestRow 42 = oSub 43 := (congrFun teX2_evenestRow 42).trans rfl
theorem tX2_evenestRow_43 : tX2_evenestRow 43 = oMin 46 := (congrFun teX2_evenestRow 43).trans rfl
theorem tX2_evenestRow_46 : tX2_evenestRow 46 = oIs 7 48 := (congrFun teX2_evenestRow 46).trans rfl
theorem tX2_evenestRow_48 : tX2_evenestRow 48 = oIl 7 50 := (congrFun teX2_evenestRow 48).trans rfl
theorem tX2_evenestRow_50 : tX2_evenestRow 50 = oIl 5 52 := (congrFun teX2_evenestRow 50).trans rfl
theorem tX2_evenestRow_52 : tX2_evenestRow 52 = oIf2le 63 55 := (congrFun teX2_evenestRow 52).trans rfl
theorem tX2_evenestRow_55 : tX2_evenestRow 55 = oIl 7 57 := (congrFun teX2_evenestRow 55).trans rfl
theorem tX2_evenestRow_57 : tX2_evenestRow 57 = oIs 5 59 := (congrFun teX2_evenestRow 57).trans rfl
theorem tX2_evenestRow_59 : tX2_evenestRow 59 = oIl 6 61 := (congrFun teX2_evenestRow 59).trans rfl
theorem tX2_evenestRow_61 : tX2_evenestRow 61 = oIs 4 63 := (congrFun teX2_evenestRow 61).trans rfl
theorem tX2_evenestRow_63 : tX2_evenestRow 63 = oInc 6 (nI 1) 66 := (congrFun teX2_evenestRow 63).trans rfl
theorem tX2_evenestRow_66 : tX2_evenestRow 66 = oGo 20 := (congrFun teX2_evenestRow 66).trans rfl
theorem tX2_evenestRow_69 : tX2_evenestRow 69 = oAl 0 70 := (congrFun teX2_evenestRow 69).trans rfl
theorem tX2_evenestRow_70 : tX2_evenestRow 70 = oIl 5 72 := (congrFun teX2_evenestRow 70).trans rfl
theorem tX2_evenestRow_72 : tX2_evenestRow 72 = oIf1le 85 75 := (congrFun teX2_evenestRow 72).trans rfl
theorem tX2_evenestRow_75 : tX2_evenestRow 75 = oAl 0 76 := (congrFun teX2_evenestRow 75).trans rfl
theorem tX2_evenestRow_76 : tX2_evenestRow 76 = oGet 2 9 79 := (congrFun teX2_evenestRow 76).trans rfl
theorem tX2_evenestRow_79 : tX2_evenestRow 79 = oIl 4 81 := (congrFun teX2_evenestRow 79).trans rfl
theorem tX2_evenestRow_81 : tX2_evenestRow 81 = oIald 82 := (congrFun teX2_evenestRow 81).trans rfl
theorem tX2_evenestRow_82 : tX2_evenestRow 82 = oGo 86 := (congrFun teX2_evenestRow 82).trans rfl
theorem tX2_evenestRow_85 : tX2_evenestRow 85 = oK (.int (nI 0)) 86 := (congrFun teX2_evenestRow 85).trans rfl
theorem tX2_evenestRow_86 : tX2_evenestRow 86 = oPutI 2 10 89 := (congrFun teX2_evenestRow 86).trans rfl
theorem tX2_evenestRow_89 : tX2_evenestRow 89 = oIl 5 91 := (congrFun teX2_evenestRow 89).trans rfl
theorem tX2_evenestRow_91 : tX2_evenestRow 91 = oIf1le 102 94 := (congrFun teX2_evenestRow 91).trans rfl
theorem tX2_evenestRow_94 : tX2_evenestRow 94 = oIl 4 96 := (congrFun teX2_evenestRow 94).trans rfl
theorem tX2_evenestRow_96 : tX2_evenestRow 96 = oCallS mX2_rowBy 1 99 := (congrFun teX2_evenestRow 96).trans rfl
theorem tX2_evenestRow_99 : tX2_evenestRow 99 = oGo 104 := (congrFun teX2_evenestRow 99).trans rfl
theorem tX2_evenestRow_102 : tX2_evenestRow 102 = oK (.int (-2)) 104 := (congrFun teX2_evenestRow 102).trans rfl
theorem tX2_evenestRow_104 : tX2_evenestRow 104 = oIret := (congrFun teX2_evenestRow 104).trans rfl
def lX2_rowBy : List (Nat × qP) := [(0, oIl 0 1), (1, oIs 1 2), (2, oK (.int (nI 0)) 3), (3, oIs 2 4), (4, oIl 2 5), (5, oStW 8), (8, oAlen 9), (9, oIf2ge 43 12), (12, oIl 1 13), (13, oStW 16), (16, oIl 2 17), (17, oIald 18), (18, oIf2ge 29 21), (21, oStW 24), (24, oIl 2 25), (25, oIald 26), (26, oIl 1 27), (27, oAdd 28), (28, oIret), (29, oIl 1 30), (30, oStW 33), (33, oIl 2 34), (34, oIald 35), (35, oSub 36), (36, oIs 1 37), (37, oInc 2 (nI 1) 40), (40, oGo 4), (43, oK (.int (nI 1)) 44), (44, oIret)]
def uX2_rowBy : Nat → qP := q_tb lX2_rowBy
set_option maxRecDepth 20000 in
theorem suX2_rowBy : q_Snd mX2_rowBy uX2_rowBy := by
  refine q_tb_ok ?_
  unfold lX2_rowBy
  refine q_fa (ok_iload_n (by decide +kernel : decode cX2_rowBy 0 = .ok (.iload_n 0, 1)) rfl rfl) ?_
  refine q_fa (ok_istore_n (by decide +kernel : decode cX2_rowBy 1 = .ok (.istore_n 1, 1)) rfl rfl (by decide)) ?_
  refine q_fa (ok_iconst (by decide +kernel : decode cX2_rowBy 2 = .ok (.iconst 0, 1)) rfl (by decide +kernel)) ?_
  refine q_fa (ok_istore_n (by decide +kernel : decode cX2_rowBy 3 = .ok (.istore_n 2, 1)) rfl rfl (by decide)) ?_
  refine q_fa (ok_iload_n (by decide +kernel : decode cX2_rowBy 4 = .ok (.iload_n 2, 1)) rfl rfl) ?_
  refine q_fa (ok_stWN (by decide +kernel : decode cX2_rowBy 5 = .ok (.getstatic 182, 3)) rfl gn956) ?_
  refine q_fa (ok_alen (by decide +kernel : decode cX2_rowBy 8 = .ok (.arraylength, 1)) rfl) ?_
  refine q_fa (ok_if2ge (by decide +kernel : decode cX2_rowBy 9 = .ok (.if_icmp .ge 34, 3)) (by decide) rfl) ?_
  refine q_fa (ok_iload_n (by decide +kernel : decode cX2_rowBy 12 = .ok (.iload_n 1, 1)) rfl rfl) ?_
  refine q_fa (ok_stWN (by decide +kernel : decode cX2_rowBy 13 = .ok (.getstatic 182, 3)) rfl gn956) ?_
  refine q_fa (ok_iload_n (by decide +kernel : decode cX2_rowBy 16 = .ok (.iload_n 2, 1)) rfl rfl) ?_
  refine q_fa (ok_iaload (by decide +kernel : decode cX2_rowBy 17 = .ok (.iaload, 1)) rfl) ?_
  refine q_fa (ok_if2ge (by decide +kernel : decode cX2_rowBy 18 = .ok (.if_icmp .ge 11, 3)) (by decide) rfl) ?_
  refine q_fa (ok_stWN (by decide +kernel : decode cX2_rowBy 21 = .ok (.getstatic 182, 3)) rfl gn956) ?_
  refine q_fa (ok_iload_n (by decide +kernel : decode cX2_rowBy 24 = .ok (.iload_n 2, 1)) rfl rfl) ?_
  refine q_fa (ok_iaload (by decide +kernel : decode cX2_rowBy 25 = .ok (.iaload, 1)) rfl) ?_
  refine q_fa (ok_iload_n (by decide +kernel : decode cX2_rowBy 26 = .ok (.iload_n 1, 1)) rfl rfl) ?_
  refine q_fa (ok_iadd (by decide +kernel : decode cX2_rowBy 27 = .ok (.iadd, 1)) rfl) ?_
  refine q_fa (ok_iret (by decide +kernel : decode cX2_rowBy 28 = .ok (.ireturn, 1)) rfl) ?_
  refine q_fa (ok_iload_n (by decide +kernel : decode cX2_rowBy 29 = .ok (.iload_n 1, 1)) rfl rfl) ?_
  refine q_fa (ok_stWN (by decide +kernel : decode cX2_rowBy 30 = .ok (.getstatic 182, 3)) rfl gn956) ?_
  refine q_fa (ok_iload_n (by decide +kernel : decode cX2_rowBy 33 = .ok (.iload_n 2, 1)) rfl rfl) ?_
  refine q_fa (ok_iaload (by decide +kernel : decode cX2_rowBy 34 = .ok (.iaload, 1)) rfl) ?_
  refine q_fa (ok_isub (by decide +kernel : decode cX2_rowBy 35 = .ok (.isub, 1)) rfl) ?_
  refine q_fa (ok_istore_n (by decide +kernel : decode cX2_rowBy 36 = .ok (.istore_n 1, 1)) rfl rfl (by decide)) ?_
  refine q_fa (ok_iinc (by decide +kernel : decode cX2_rowBy 37 = .ok (.iinc 2 1, 3)) rfl (by decide +kernel) (by decide)) ?_
  refine q_fa (ok_goto (by decide +kernel : decode cX2_rowBy 40 = .ok (.goto (-36), 3)) (by decide)) ?_
  refine q_fa (ok_iconst (by decide +kernel : decode cX2_rowBy 43 = .ok (.iconst 1, 1)) rfl (by decide +kernel)) ?_
  refine q_fa (ok_iret (by decide +kernel : decode cX2_rowBy 44 = .ok (.ireturn, 1)) rfl) ?_
  exact q_fa0
theorem exX2_rowBy : ∃ t : Nat → qP, t = uX2_rowBy := ⟨_, rfl⟩
noncomputable def tX2_rowBy : Nat → qP := Classical.choose exX2_rowBy
theorem teX2_rowBy : tX2_rowBy = uX2_rowBy := Classical.choose_spec exX2_rowBy
theorem sX2_rowBy : q_Snd mX2_rowBy tX2_rowBy := by rw [teX2_rowBy]; exact suX2_rowBy
theorem tX2_rowBy_0 : tX2_rowBy 0 = oIl 0 1 := (congrFun teX2_rowBy 0).trans rfl
theorem tX2_rowBy_1 : tX2_rowBy 1 = oIs 1 2 := (congrFun teX2_rowBy 1).trans rfl
theorem tX2_rowBy_2 : tX2_rowBy 2 = oK (.int (nI 0)) 3 := (congrFun teX2_rowBy 2).trans rfl
theorem tX2_rowBy_3 : tX2_rowBy 3 = oIs 2 4 := (congrFun teX2_rowBy 3).trans rfl
theorem tX2_rowBy_4 : tX2_rowBy 4 = oIl 2 5 := (congrFun teX2_rowBy 4).trans rfl
theorem tX2_rowBy_5 : tX2_rowBy 5 = oStW 8 := (congrFun teX2_rowBy 5).trans rfl
theorem tX2_rowBy_8 : tX2_rowBy 8 = oAlen 9 := (congrFun teX2_rowBy 8).trans rfl
theorem tX2_rowBy_9 : tX2_rowBy 9 = oIf2ge 43 12 := (congrFun teX2_rowBy 9).trans rfl
theorem tX2_rowBy_12 : tX2_rowBy 12 = oIl 1 13 := (congrFun teX2_rowBy 12).trans rfl
theorem tX2_rowBy_13 : tX2_rowBy 13 = oStW 16 := (congrFun teX2_rowBy 13).trans rfl
theorem tX2_rowBy_16 : tX2_rowBy 16 = oIl 2 17 := (congrFun teX2_rowBy 16).trans rfl
theorem tX2_rowBy_17 : tX2_rowBy 17 = oIald 18 := (congrFun teX2_rowBy 17).trans rfl
theorem tX2_rowBy_18 : tX2_rowBy 18 = oIf2ge 29 21 := (congrFun teX2_rowBy 18).trans rfl
theorem tX2_rowBy_21 : tX2_rowBy 21 = oStW 24 := (congrFun teX2_rowBy 21).trans rfl
theorem tX2_rowBy_24 : tX2_rowBy 24 = oIl 2 25 := (congrFun teX2_rowBy 24).trans rfl
theorem tX2_rowBy_25 : tX2_rowBy 25 = oIald 26 := (congrFun teX2_rowBy 25).trans rfl
theorem tX2_rowBy_26 : tX2_rowBy 26 = oIl 1 27 := (congrFun teX2_rowBy 26).trans rfl
theorem tX2_rowBy_27 : tX2_rowBy 27 = oAdd 28 := (congrFun teX2_rowBy 27).trans rfl
theorem tX2_rowBy_28 : tX2_rowBy 28 = oIret := (congrFun teX2_rowBy 28).trans rfl
theorem tX2_rowBy_29 : tX2_rowBy 29 = oIl 1 30 := (congrFun teX2_rowBy 29).trans rfl
theorem tX2_rowBy_30 : tX2_rowBy 30 = oStW 33 := (congrFun teX2_rowBy 30).trans rfl
theorem tX2_rowBy_33 : tX2_rowBy 33 = oIl 2 34 := (congrFun teX2_rowBy 33).trans rfl
theorem tX2_rowBy_34 : tX2_rowBy 34 = oIald 35 := (congrFun teX2_rowBy 34).trans rfl
theorem tX2_rowBy_35 : tX2_rowBy 35 = oSub 36 := (congrFun teX2_rowBy 35).trans rfl
theorem tX2_rowBy_36 : tX2_rowBy 36 = oIs 1 37 := (congrFun teX2_rowBy 36).trans rfl
theorem tX2_rowBy_37 : tX2_rowBy 37 = oInc 2 (nI 1) 40 := (congrFun teX2_rowBy 37).trans rfl
theorem tX2_rowBy_40 : tX2_rowBy 40 = oGo 4 := (congrFun teX2_rowBy 40).trans rfl
theorem tX2_rowBy_43 : tX2_rowBy 43 = oK (.int (nI 1)) 44 := (congrFun teX2_rowBy 43).trans rfl
theorem tX2_rowBy_44 : tX2_rowBy 44 = oIret := (congrFun teX2_rowBy 44).trans rfl
def lX2_haveAskedRow : List (Nat × qP) := [(0, oAl 0 1), (1, oGet 2 10 4), (4, oIret)]
def uX2_haveAskedRow : Nat → qP := q_tb lX2_haveAskedRow
set_option maxRecDepth 20000 in
theorem suX2_haveAskedRow : q_Snd mX2_haveAskedRow uX2_haveAskedRow := by
  refine q_tb_ok ?_
  unfold lX2_haveAskedRow
  refine q_fa (ok_aload_n (by decide +kernel : decode cX2_haveAskedRow 0 = .ok (.aload_n 0, 1)) rfl rfl) ?_
  refine q_fa (ok_get (by decide +kernel : decode cX2_haveAskedRow 1 = .ok (.getfield 176, 3)) rfl (rfl : vwCl[2]? = some (RX2, TX2, 17)) inX2 (by decide) g824) ?_
  refine q_fa (ok_iret (by decide +kernel : decode cX2_haveAskedRow 4 = .ok (.ireturn, 1)) rfl) ?_
  exact q_fa0
theorem exX2_haveAskedRow : ∃ t : Nat → qP, t = uX2_haveAskedRow := ⟨_, rfl⟩
noncomputable def tX2_haveAskedRow : Nat → qP := Classical.choose exX2_haveAskedRow
theorem teX2_haveAskedRow : tX2_haveAskedRow = uX2_haveAskedRow := Classical.choose_spec exX2_haveAskedRow
theorem sX2_haveAskedRow : q_Snd mX2_haveAskedRow tX2_haveAskedRow := by rw [teX2_haveAskedRow]; exact suX2_haveAskedRow
theorem tX2_haveAskedRow_0 : tX2_haveAskedRow 0 = oAl 0 1 := (congrFun teX2_haveAskedRow 0).trans rfl
theorem tX2_haveAskedRow_1 : tX2_haveAskedRow 1 = oGet 2 10 4 := (congrFun teX2_haveAskedRow 1).trans rfl
theorem tX2_haveAskedRow_4 : tX2_haveAskedRow 4 = oIret := (congrFun teX2_haveAskedRow 4).trans rfl
def lX2_cheapest : List (Nat × qP) := [(0, oAl 0 1), (1, oCallV 2 mX2_judgeNew 0 4), (4, oK (.int (-1)) 5), (5, oIs 3 6), (6, oK (.int (nI 0)) 7), (7, oIs 4 9), (9, oK (.int (nI 2)) 10), (10, oIs 5 12), (12, oIl 5 14), (14, oIl 2 15), (15, oIf2gt 120 18), (18, oIl 3 19), (19, oK (.int (-1)) 20), (20, oIf2eq 30 23), (23, oIl 5 25), (25, oIl 4 27), (27, oIf2ge 120 30), (30, oAl 0 31), (31, oGet 2 0 34), (34, oIl 5 36), (36, oCallV 1 mX1_end 1 39), (39, oK (.int (nI 4937)) 42), (42, oMin 45), (45, oIs 6 47), (47, oAl 0 48), (48, oGet 2 0 51), (51, oIl 5 53), (53, oCallV 1 mX1_begin 1 56), (56, oIs 7 58), (58, oIl 7 60), (60, oIl 6 62), (62, oIf2ge 114 65), (65, oAl 0 66), (66, oIl 7 68), (68, oIl 1 69), (69, oCallV 2 mX2_isOfKinds 2 72), (72, oIf1ne 78 75), (75, oGo 108), (78, oAl 0 79), (79, oIl 7 81), (81, oCallV 2 mX2_priceOf 1 84), (84, oIl 5 86), (86, oAdd 87), (87, oIs 8 89), (89, oIl 3 90), (90, oK (.int (-1)) 91), (91, oIf2eq 101 94), (94, oIl 8 96), (96, oIl 4 98), (98, oIf2ge 108 101), (101, oIl 7 103), (103, oIs 3 104), (104, oIl 8 106), (106, oIs 4 108), (108, oInc 7 (nI 1) 111), (111, oGo 58), (114, oInc 5 (nI 1) 117), (117, oGo 12), (120, oIl 3 121), (121, oIret)]
def uX2_cheapest : Nat → qP := q_tb lX2_cheapest
set_option maxRecDepth 20000 in
theorem suX2_cheapest : q_Snd mX2_cheapest uX2_cheapest := by
  refine q_tb_ok ?_
  unfold lX2_cheapest
  refine q_fa (ok_aload_n (by decide +kernel : decode cX2_cheapest 0 = .ok (.aload_n 0, 1)) rfl rfl) ?_
  refine q_fa (ok_callV (by decide +kernel : decode cX2_cheapest 1 = .ok (.invokevirtual 141, 3)) rfl kX2_judgeNew.1 kX2_judgeNew.2.1 kX2_judgeNew.2.2.1 kX2_judgeNew.2.2.2.1 kX2_judgeNew.2.2.2.2 (rfl : vwCl[2]? = some (RX2, TX2, 17)) g877 gs40 g875) ?_
  refine q_fa (ok_iconst (by decide +kernel : decode cX2_cheapest 4 = .ok (.iconst (-1), 1)) rfl (by decide +kernel)) ?_
  refine q_fa (ok_istore_n (by decide +kernel : decode cX2_cheapest 5 = .ok (.istore_n 3, 1)) rfl rfl (by decide)) ?_
  refine q_fa (ok_iconst (by decide +kernel : decode cX2_cheapest 6 = .ok (.iconst 0, 1)) rfl (by decide +kernel)) ?_
  refine q_fa (ok_istore (by decide +kernel : decode cX2_cheapest 7 = .ok (.istore 4, 2)) rfl (by decide)) ?_
  refine q_fa (ok_iconst (by decide +kernel : decode cX2_cheapest 9 = .ok (.iconst 2, 1)) rfl (by decide +kernel)) ?_
  refine q_fa (ok_istore (by decide +kernel : decode cX2_cheapest 10 = .ok (.istore 5, 2)) rfl (by decide)) ?_
  refine q_fa (ok_iload (by decide +kernel : decode cX2_cheapest 12 = .ok (.iload 5, 2)) rfl) ?_
  refine q_fa (ok_iload_n (by decide +kernel : decode cX2_cheapest 14 = .ok (.iload_n 2, 1)) rfl rfl) ?_
  refine q_fa (ok_if2gt (by decide +kernel : decode cX2_cheapest 15 = .ok (.if_icmp .gt 105, 3)) (by decide) rfl) ?_
  refine q_fa (ok_iload_n (by decide +kernel : decode cX2_cheapest 18 = .ok (.iload_n 3, 1)) rfl rfl) ?_
  refine q_fa (ok_iconst (by decide +kernel : decode cX2_cheapest 19 = .ok (.iconst (-1), 1)) rfl (by decide +kernel)) ?_
  refine q_fa (ok_if2eq (by decide +kernel : decode cX2_cheapest 20 = .ok (.if_icmp .eq 10, 3)) (by decide) rfl) ?_
  refine q_fa (ok_iload (by decide +kernel : decode cX2_cheapest 23 = .ok (.iload 5, 2)) rfl) ?_
  refine q_fa (ok_iload (by decide +kernel : decode cX2_cheapest 25 = .ok (.iload 4, 2)) rfl) ?_
  refine q_fa (ok_if2ge (by decide +kernel : decode cX2_cheapest 27 = .ok (.if_icmp .ge 93, 3)) (by decide) rfl) ?_
  refine q_fa (ok_aload_n (by decide +kernel : decode cX2_cheapest 30 = .ok (.aload_n 0, 1)) rfl rfl) ?_
  refine q_fa (ok_get (by decide +kernel : decode cX2_cheapest 31 = .ok (.getfield 43, 3)) rfl (rfl : vwCl[2]? = some (RX2, TX2, 17)) inX2 (by decide) g814) ?_
  refine q_fa (ok_iload (by decide +kernel : decode cX2_cheapest 34 = .ok (.iload 5, 2)) rfl) ?_
  refine q_fa (ok_callV (by decide +kernel : decode cX2_cheapest 36 = .ok (.invokevirtual 133, 3)) rfl kX1_end.1 kX1_end.2.1 kX1_end.2.2.1 kX1_end.2.2.2.1 kX1_end.2.2.2.2 (rfl : vwCl[1]? = some (RX1, TX1, 5)) g419 g420 g870) ?_
  refine q_fa (ok_sipush (by decide +kernel : decode cX2_cheapest 39 = .ok (.sipush 4937, 3)) rfl (by decide +kernel)) ?_
  refine q_fa (ok_min (by decide +kernel : decode cX2_cheapest 42 = .ok (.invokestatic 63, 3)) rfl g765 g456 g4 g457) ?_
  refine q_fa (ok_istore (by decide +kernel : decode cX2_cheapest 45 = .ok (.istore 6, 2)) rfl (by decide)) ?_
  refine q_fa (ok_aload_n (by decide +kernel : decode cX2_cheapest 47 = .ok (.aload_n 0, 1)) rfl rfl) ?_
  refine q_fa (ok_get (by decide +kernel : decode cX2_cheapest 48 = .ok (.getfield 43, 3)) rfl (rfl : vwCl[2]? = some (RX2, TX2, 17)) inX2 (by decide) g814) ?_
  refine q_fa (ok_iload (by decide +kernel : decode cX2_cheapest 51 = .ok (.iload 5, 2)) rfl) ?_
  refine q_fa (ok_callV (by decide +kernel : decode cX2_cheapest 53 = .ok (.invokevirtual 185, 3)) rfl kX1_begin.1 kX1_begin.2.1 kX1_begin.2.2.1 kX1_begin.2.2.2.1 kX1_begin.2.2.2.2 (rfl : vwCl[1]? = some (RX1, TX1, 5)) g415 g416 g973) ?_
  refine q_fa (ok_istore (by decide +kernel : decode cX2_cheapest 56 = .ok (.istore 7, 2)) rfl (by decide)) ?_
  refine q_fa (ok_iload (by decide +kernel : decode cX2_cheapest 58 = .ok (.iload 7, 2)) rfl) ?_
  refine q_fa (ok_iload (by decide +kernel : decode cX2_cheapest 60 = .ok (.iload 6, 2)) rfl) ?_
  refine q_fa (ok_if2ge (by decide +kernel : decode cX2_cheapest 62 = .ok (.if_icmp .ge 52, 3)) (by decide) rfl) ?_
  refine q_fa (ok_aload_n (by decide +kernel : decode cX2_cheapest 65 = .ok (.aload_n 0, 1)) rfl rfl) ?_
  refine q_fa (ok_iload (by decide +kernel : decode cX2_cheapest 66 = .ok (.iload 7, 2)) rfl) ?_
  refine q_fa (ok_iload_n (by decide +kernel : decode cX2_cheapest 68 = .ok (.iload_n 1, 1)) rfl rfl) ?_
  refine q_fa (ok_callV (by decide +kernel : decode cX2_cheapest 69 = .ok (.invokevirtual 144, 3)) rfl kX2_isOfKinds.1 kX2_isOfKinds.2.1 kX2_isOfKinds.2.2.1 kX2_isOfKinds.2.2.2.1 kX2_isOfKinds.2.2.2.2 (rfl : vwCl[2]? = some (RX2, TX2, 17)) g888 gs41 g886) ?_
  refine q_fa (ok_if1ne (by decide +kernel : decode cX2_cheapest 72 = .ok (.ifCond .ne 6, 3)) (by decide) rfl) ?_
  refine q_fa (ok_goto (by decide +kernel : decode cX2_cheapest 75 = .ok (.goto 33, 3)) (by decide)) ?_
  refine q_fa (ok_aload_n (by decide +kernel : decode cX2_cheapest 78 = .ok (.aload_n 0, 1)) rfl rfl) ?_
  refine q_fa (ok_iload (by decide +kernel : decode cX2_cheapest 79 = .ok (.iload 7, 2)) rfl) ?_
  refine q_fa (ok_callV (by decide +kernel : decode cX2_cheapest 81 = .ok (.invokevirtual 188, 3)) rfl kX2_priceOf.1 kX2_priceOf.2.1 kX2_priceOf.2.2.1 kX2_priceOf.2.2.2.1 kX2_priceOf.2.2.2.2 (rfl : vwCl[2]? = some (RX2, TX2, 17)) g975 g976 g974) ?_
  refine q_fa (ok_iload (by decide +kernel : decode cX2_cheapest 84 = .ok (.iload 5, 2)) rfl) ?_
  refine q_fa (ok_iadd (by decide +kernel : decode cX2_cheapest 86 = .ok (.iadd, 1)) rfl) ?_
  refine q_fa (ok_istore (by decide +kernel : decode cX2_cheapest 87 = .ok (.istore 8, 2)) rfl (by decide)) ?_
  refine q_fa (ok_iload_n (by decide +kernel : decode cX2_cheapest 89 = .ok (.iload_n 3, 1)) rfl rfl) ?_
  refine q_fa (ok_iconst (by decide +kernel : decode cX2_cheapest 90 = .ok (.iconst (-1), 1)) rfl (by decide +kernel)) ?_
  refine q_fa (ok_if2eq (by decide +kernel : decode cX2_cheapest 91 = .ok (.if_icmp .eq 10, 3)) (by decide) rfl) ?_
  refine q_fa (ok_iload (by decide +kernel : decode cX2_cheapest 94 = .ok (.iload 8, 2)) rfl) ?_
  refine q_fa (ok_iload (by decide +kernel : decode cX2_cheapest 96 = .ok (.iload 4, 2)) rfl) ?_
  refine q_fa (ok_if2ge (by decide +kernel : decode cX2_cheapest 98 = .ok (.if_icmp .ge 10, 3)) (by decide) rfl) ?_
  refine q_fa (ok_iload (by decide +kernel : decode cX2_cheapest 101 = .ok (.iload 7, 2)) rfl) ?_
  refine q_fa (ok_istore_n (by decide +kernel : decode cX2_cheapest 103 = .ok (.istore_n 3, 1)) rfl rfl (by decide)) ?_
  refine q_fa (ok_iload (by decide +kernel : decode cX2_cheapest 104 = .ok (.iload 8, 2)) rfl) ?_
  refine q_fa (ok_istore (by decide +kernel : decode cX2_cheapest 106 = .ok (.istore 4, 2)) rfl (by decide)) ?_
  refine q_fa (ok_iinc (by decide +kernel : decode cX2_cheapest 108 = .ok (.iinc 7 1, 3)) rfl (by decide +kernel) (by decide)) ?_
  refine q_fa (ok_goto (by decide +kernel : decode cX2_cheapest 111 = .ok (.goto (-53), 3)) (by decide)) ?_
  refine q_fa (ok_iinc (by decide +kernel : decode cX2_cheapest 114 = .ok (.iinc 5 1, 3)) rfl (by decide +kernel) (by decide)) ?_
  refine q_fa (ok_goto (by decide +kernel : decode cX2_cheapest 117 = .ok (.goto (-105), 3)) (by decide)) ?_
  refine q_fa (ok_iload_n (by decide +kernel : decode cX2_cheapest 120 = .ok (.iload_n 3, 1)) rfl rfl) ?_
  refine q_fa (ok_iret (by decide +kernel : decode cX2_cheapest 121 = .ok (.ireturn, 1)) rfl) ?_
  exact q_fa0
theorem exX2_cheapest : ∃ t : Nat → qP, t = uX2_cheapest := ⟨_, rfl⟩
noncomputable def tX2_cheapest : Nat → qP := Classical.choose exX2_cheapest
theorem teX2_cheapest : tX2_cheapest = uX2_cheapest := Classical.choose_spec exX2_cheapest
theorem sX2_cheapest : q_Snd mX2_cheapest tX2_cheapest := by rw [teX2_cheapest]; exact suX2_cheapest
theorem tX2_cheapest_0 : tX2_cheapest 0 = oAl 0 1 := (congrFun teX2_cheapest 0).trans rfl
theorem tX2_cheapest_1 : tX2_cheapest 1 = oCallV 2 mX2_judgeNew 0 4 := (congrFun teX2_cheapest 1).trans rfl
theorem tX2_cheapest_4 : tX2_cheapest 4 = oK (.int (-1)) 5 := (congrFun teX2_cheapest 4).trans rfl
theorem tX2_cheapest_5 : tX2_cheapest 5 = oIs 3 6 := (congrFun teX2_cheapest 5).trans rfl
theorem tX2_cheapest_6 : tX2_cheapest 6 = oK (.int (nI 0)) 7 := (congrFun teX2_cheapest 6).trans rfl
theorem tX2_cheapest_7 : tX2_cheapest 7 = oIs 4 9 := (congrFun teX2_cheapest 7).trans rfl
theorem tX2_cheapest_9 : tX2_cheapest 9 = oK (.int (nI 2)) 10 := (congrFun teX2_cheapest 9).trans rfl
theorem tX2_cheapest_10 : tX2_cheapest 10 = oIs 5 12 := (congrFun teX2_cheapest 10).trans rfl
theorem tX2_cheapest_12 : tX2_cheapest 12 = oIl 5 14 := (congrFun teX2_cheapest 12).trans rfl
theorem tX2_cheapest_14 : tX2_cheapest 14 = oIl 2 15 := (congrFun teX2_cheapest 14).trans rfl
theorem tX2_cheapest_15 : tX2_cheapest 15 = oIf2gt 120 18 := (congrFun teX2_cheapest 15).trans rfl
theorem tX2_cheapest_18 : tX2_cheapest 18 = oIl 3 19 := (congrFun teX2_cheapest 18).trans rfl
theorem tX2_cheapest_19 : tX2_cheapest 19 = oK (.int (-1)) 20 := (congrFun teX2_cheapest 19).trans rfl
theorem tX2_cheapest_20 : tX2_cheapest 20 = oIf2eq 30 23 := (congrFun teX2_cheapest 20).trans rfl
theorem tX2_cheapest_23 : tX2_cheapest 23 = oIl 5 25 := (congrFun teX2_cheapest 23).trans rfl
theorem tX2_cheapest_25 : tX2_cheapest 25 = oIl 4 27 := (congrFun teX2_cheapest 25).trans rfl
theorem tX2_cheapest_27 : tX2_cheapest 27 = oIf2ge 120 30 := (congrFun teX2_cheapest 27).trans rfl
theorem tX2_cheapest_30 : tX2_cheapest 30 = oAl 0 31 := (congrFun teX2_cheapest 30).trans rfl
theorem tX2_cheapest_31 : tX2_cheapest 31 = oGet 2 0 34 := (congrFun teX2_cheapest 31).trans rfl
theorem tX2_cheapest_34 : tX2_cheapest 34 = oIl 5 36 := (congrFun teX2_cheapest 34).trans rfl
theorem tX2_cheapest_36 : tX2_cheapest 36 = oCallV 1 mX1_end 1 39 := (congrFun teX2_cheapest 36).trans rfl
theorem tX2_cheapest_39 : tX2_cheapest 39 = oK (.int (nI 4937)) 42 := (congrFun teX2_cheapest 39).trans rfl
theorem tX2_cheapest_42 : tX2_cheapest 42 = oMin 45 := (congrFun teX2_cheapest 42).trans rfl
theorem tX2_cheapest_45 : tX2_cheapest 45 = oIs 6 47 := (congrFun teX2_cheapest 45).trans rfl
theorem tX2_cheapest_47 : tX2_cheapest 47 = oAl 0 48 := (congrFun teX2_cheapest 47).trans rfl
theorem tX2_cheapest_48 : tX2_cheapest 48 = oGet 2 0 51 := (congrFun teX2_cheapest 48).trans rfl
theorem tX2_cheapest_51 : tX2_cheapest 51 = oIl 5 53 := (congrFun teX2_cheapest 51).trans rfl
theorem tX2_cheapest_53 : tX2_cheapest 53 = oCallV 1 mX1_begin 1 56 := (congrFun teX2_cheapest 53).trans rfl
theorem tX2_cheapest_56 : tX2_cheapest 56 = oIs 7 58 := (congrFun teX2_cheapest 56).trans rfl
theorem tX2_cheapest_58 : tX2_cheapest 58 = oIl 7 60 := (congrFun teX2_cheapest 58).trans rfl
theorem tX2_cheapest_60 : tX2_cheapest 60 = oIl 6 62 := (congrFun teX2_cheapest 60).trans rfl
theorem tX2_cheapest_62 : tX2_cheapest 62 = oIf2ge 114 65 := (congrFun teX2_cheapest 62).trans rfl
theorem tX2_cheapest_65 : tX2_cheapest 65 = oAl 0 66 := (congrFun teX2_cheapest 65).trans rfl
theorem tX2_cheapest_66 : tX2_cheapest 66 = oIl 7 68 := (congrFun teX2_cheapest 66).trans rfl
theorem tX2_cheapest_68 : tX2_cheapest 68 = oIl 1 69 := (congrFun teX2_cheapest 68).trans rfl
theorem tX2_cheapest_69 : tX2_cheapest 69 = oCallV 2 mX2_isOfKinds 2 72 := (congrFun teX2_cheapest 69).trans rfl
theorem tX2_cheapest_72 : tX2_cheapest 72 = oIf1ne 78 75 := (congrFun teX2_cheapest 72).trans rfl
theorem tX2_cheapest_75 : tX2_cheapest 75 = oGo 108 := (congrFun teX2_cheapest 75).trans rfl
theorem tX2_cheapest_78 : tX2_cheapest 78 = oAl 0 79 := (congrFun teX2_cheapest 78).trans rfl
theorem tX2_cheapest_79 : tX2_cheapest 79 = oIl 7 81 := (congrFun teX2_cheapest 79).trans rfl
theorem tX2_cheapest_81 : tX2_cheapest 81 = oCallV 2 mX2_priceOf 1 84 := (congrFun teX2_cheapest 81).trans rfl
theorem tX2_cheapest_84 : tX2_cheapest 84 = oIl 5 86 := (congrFun teX2_cheapest 84).trans rfl
theorem tX2_cheapest_86 : tX2_cheapest 86 = oAdd 87 := (congrFun teX2_cheapest 86).trans rfl
theorem tX2_cheapest_87 : tX2_cheapest 87 = oIs 8 89 := (congrFun teX2_cheapest 87).trans rfl
theorem tX2_cheapest_89 : tX2_cheapest 89 = oIl 3 90 := (congrFun teX2_cheapest 89).trans rfl
theorem tX2_cheapest_90 : tX2_cheapest 90 = oK (.int (-1)) 91 := (congrFun teX2_cheapest 90).trans rfl
theorem tX2_cheapest_91 : tX2_cheapest 91 = oIf2eq 101 94 := (congrFun teX2_cheapest 91).trans rfl
theorem tX2_cheapest_94 : tX2_cheapest 94 = oIl 8 96 := (congrFun teX2_cheapest 94).trans rfl
theorem tX2_cheapest_96 : tX2_cheapest 96 = oIl 4 98 := (congrFun teX2_cheapest 96).trans rfl
theorem tX2_cheapest_98 : tX2_cheapest 98 = oIf2ge 108 101 := (congrFun teX2_cheapest 98).trans rfl
theorem tX2_cheapest_101 : tX2_cheapest 101 = oIl 7 103 := (congrFun teX2_cheapest 101).trans rfl
theorem tX2_cheapest_103 : tX2_cheapest 103 = oIs 3 104 := (congrFun teX2_cheapest 103).trans rfl
theorem tX2_cheapest_104 : tX2_cheapest 104 = oIl 8 106 := (congrFun teX2_cheapest 104).trans rfl
theorem tX2_cheapest_106 : tX2_cheapest 106 = oIs 4 108 := (congrFun teX2_cheapest 106).trans rfl
theorem tX2_cheapest_108 : tX2_cheapest 108 = oInc 7 (nI 1) 111 := (congrFun teX2_cheapest 108).trans rfl
theorem tX2_cheapest_111 : tX2_cheapest 111 = oGo 58 := (congrFun teX2_cheapest 111).trans rfl
theorem tX2_cheapest_114 : tX2_cheapest 114 = oInc 5 (nI 1) 117 := (congrFun teX2_cheapest 114).trans rfl
theorem tX2_cheapest_117 : tX2_cheapest 117 = oGo 12 := (congrFun teX2_cheapest 117).trans rfl
theorem tX2_cheapest_120 : tX2_cheapest 120 = oIl 3 121 := (congrFun teX2_cheapest 120).trans rfl
theorem tX2_cheapest_121 : tX2_cheapest 121 = oIret := (congrFun teX2_cheapest 121).trans rfl
def lX2_priceOf : List (Nat × qP) := [(0, oAl 0 1), (1, oGet 2 1 4), (4, oAl 0 5), (5, oIl 1 6), (6, oCallV 2 mX2_against 1 9), (9, oCallV 7 mX7_priceOf 1 12), (12, oIret)]
def uX2_priceOf : Nat → qP := q_tb lX2_priceOf
set_option maxRecDepth 20000 in
theorem suX2_priceOf : q_Snd mX2_priceOf uX2_priceOf := by
  refine q_tb_ok ?_
  unfold lX2_priceOf
  refine q_fa (ok_aload_n (by decide +kernel : decode cX2_priceOf 0 = .ok (.aload_n 0, 1)) rfl rfl) ?_
  refine q_fa (ok_get (by decide +kernel : decode cX2_priceOf 1 = .ok (.getfield 47, 3)) rfl (rfl : vwCl[2]? = some (RX2, TX2, 17)) inX2 (by decide) g815) ?_
  refine q_fa (ok_aload_n (by decide +kernel : decode cX2_priceOf 4 = .ok (.aload_n 0, 1)) rfl rfl) ?_
  refine q_fa (ok_iload_n (by decide +kernel : decode cX2_priceOf 5 = .ok (.iload_n 1, 1)) rfl rfl) ?_
  refine q_fa (ok_callV (by decide +kernel : decode cX2_priceOf 6 = .ok (.invokevirtual 148, 3)) rfl kX2_against.1 kX2_against.2.1 kX2_against.2.2.1 kX2_against.2.2.2.1 kX2_against.2.2.2.2 (rfl : vwCl[2]? = some (RX2, TX2, 17)) g893 gs42 g891) ?_
  refine q_fa (ok_callV (by decide +kernel : decode cX2_priceOf 9 = .ok (.invokevirtual 191, 3)) rfl kX7_priceOf.1 kX7_priceOf.2.1 kX7_priceOf.2.2.1 kX7_priceOf.2.2.2.1 kX7_priceOf.2.2.2.2 (rfl : vwCl[7]? = some (RX7, TX7, 6)) g716 g717 g978) ?_
  refine q_fa (ok_iret (by decide +kernel : decode cX2_priceOf 12 = .ok (.ireturn, 1)) rfl) ?_
  exact q_fa0
theorem exX2_priceOf : ∃ t : Nat → qP, t = uX2_priceOf := ⟨_, rfl⟩
noncomputable def tX2_priceOf : Nat → qP := Classical.choose exX2_priceOf
theorem teX2_priceOf : tX2_priceOf = uX2_priceOf := Classical.choose_spec exX2_priceOf
theorem sX2_priceOf : q_Snd mX2_priceOf tX2_priceOf := by rw [teX2_priceOf]; exact suX2_priceOf
theorem tX2_priceOf_0 : tX2_priceOf 0 = oAl 0 1 := (congrFun teX2_priceOf 0).trans rfl
theorem tX2_priceOf_1 : tX2_priceOf 1 = oGet 2 1 4 := (congrFun teX2_priceOf 1).trans rfl
theorem tX2_priceOf_4 : tX2_priceOf 4 = oAl 0 5 := (congrFun teX2_priceOf 4).trans rfl
theorem tX2_priceOf_5 : tX2_priceOf 5 = oIl 1 6 := (congrFun teX2_priceOf 5).trans rfl
theorem tX2_priceOf_6 : tX2_priceOf 6 = oCallV 2 mX2_against 1 9 := (congrFun teX2_priceOf 6).trans rfl
theorem tX2_priceOf_9 : tX2_priceOf 9 = oCallV 7 mX7_priceOf 1 12 := (congrFun teX2_priceOf 9).trans rfl
theorem tX2_priceOf_12 : tX2_priceOf 12 = oIret := (congrFun teX2_priceOf 12).trans rfl
def lX3_init : List (Nat × qP) := [(0, oAl 0 1), (1, oObj 4), (4, oAl 0 5), (5, oK (.int (nI 6420)) 8), (8, oNewa 1 10), (10, oPutR 3 0 13), (13, oAl 0 14), (14, oK (.int (nI 4096)) 17), (17, oNewa 1 19), (19, oPutR 3 1 22), (22, oAl 0 23), (23, oK (.int (nI 5)) 24), (24, oNewa 1 26), (26, oPutR 3 2 29), (29, oAl 0 30), (30, oK (.int (nI 5)) 31), (31, oNewa 1 33), (33, oPutR 3 3 36), (36, oAl 0 37), (37, oK (.int (nI 5)) 38), (38, oNewa 1 40), (40, oPutR 3 4 43), (43, oVret)]
def uX3_init : Nat → qP := q_tb lX3_init
set_option maxRecDepth 20000 in
theorem suX3_init : q_Snd mX3_init uX3_init := by
  refine q_tb_ok ?_
  unfold lX3_init
  refine q_fa (ok_aload_n (by decide +kernel : decode cX3_init 0 = .ok (.aload_n 0, 1)) rfl rfl) ?_
  refine q_fa (ok_obj (by decide +kernel : decode cX3_init 1 = .ok (.invokespecial 3, 3)) rfl g741 g24 g25) ?_
  refine q_fa (ok_aload_n (by decide +kernel : decode cX3_init 4 = .ok (.aload_n 0, 1)) rfl rfl) ?_
  refine q_fa (ok_sipush (by decide +kernel : decode cX3_init 5 = .ok (.sipush 6420, 3)) rfl (by decide +kernel)) ?_
  refine q_fa (ok_newa_int (by decide +kernel : decode cX3_init 8 = .ok (.newarray .int, 2)) rfl g56) ?_
  refine q_fa (ok_putR tyX3 (by decide +kernel : decode cX3_init 10 = .ok (.putfield 11, 3)) rfl (rfl : vwCl[3]? = some (RX3, TX3, 6)) inX3 tyX3_ok nmX3 (by decide) g742 (Or.inr ⟨rfl, rfl, rfl⟩) (by decide +kernel : parseFieldDescriptor (TX3 0).2.2.1 = some (tyX3 0)) (q_rfA _)) ?_
  refine q_fa (ok_aload_n (by decide +kernel : decode cX3_init 13 = .ok (.aload_n 0, 1)) rfl rfl) ?_
  refine q_fa (ok_sipush (by decide +kernel : decode cX3_init 14 = .ok (.sipush 4096, 3)) rfl (by decide +kernel)) ?_
  refine q_fa (ok_newa_int (by decide +kernel : decode cX3_init 17 = .ok (.newarray .int, 2)) rfl g56) ?_
  refine q_fa (ok_putR tyX3 (by decide +kernel : decode cX3_init 19 = .ok (.putfield 15, 3)) rfl (rfl : vwCl[3]? = some (RX3, TX3, 6)) inX3 tyX3_ok nmX3 (by decide) g743 (Or.inr ⟨rfl, rfl, rfl⟩) (by decide +kernel : parseFieldDescriptor (TX3 1).2.2.1 = some (tyX3 1)) (q_rfA _)) ?_
  refine q_fa (ok_aload_n (by decide +kernel : decode cX3_init 22 = .ok (.aload_n 0, 1)) rfl rfl) ?_
  refine q_fa (ok_iconst (by decide +kernel : decode cX3_init 23 = .ok (.iconst 5, 1)) rfl (by decide +kernel)) ?_
  refine q_fa (ok_newa_int (by decide +kernel : decode cX3_init 24 = .ok (.newarray .int, 2)) rfl g56) ?_
  refine q_fa (ok_putR tyX3 (by decide +kernel : decode cX3_init 26 = .ok (.putfield 18, 3)) rfl (rfl : vwCl[3]? = some (RX3, TX3, 6)) inX3 tyX3_ok nmX3 (by decide) g744 (Or.inr ⟨rfl, rfl, rfl⟩) (by decide +kernel : parseFieldDescriptor (TX3 2).2.2.1 = some (tyX3 2)) (q_rfA _)) ?_
  refine q_fa (ok_aload_n (by decide +kernel : decode cX3_init 29 = .ok (.aload_n 0, 1)) rfl rfl) ?_
  refine q_fa (ok_iconst (by decide +kernel : decode cX3_init 30 = .ok (.iconst 5, 1)) rfl (by decide +kernel)) ?_
  refine q_fa (ok_newa_int (by decide +kernel : decode cX3_init 31 = .ok (.newarray .int, 2)) rfl g56) ?_
  refine q_fa (ok_putR tyX3 (by decide +kernel : decode cX3_init 33 = .ok (.putfield 21, 3)) rfl (rfl : vwCl[3]? = some (RX3, TX3, 6)) inX3 tyX3_ok nmX3 (by decide) g745 (Or.inr ⟨rfl, rfl, rfl⟩) (by decide +kernel : parseFieldDescriptor (TX3 3).2.2.1 = some (tyX3 3)) (q_rfA _)) ?_
  refine q_fa (ok_aload_n (by decide +kernel : decode cX3_init 36 = .ok (.aload_n 0, 1)) rfl rfl) ?_
  refine q_fa (ok_iconst (by decide +kernel : decode cX3_init 37 = .ok (.iconst 5, 1)) rfl (by decide +kernel)) ?_
  refine q_fa (ok_newa_int (by decide +kernel : decode cX3_init 38 = .ok (.newarray .int, 2)) rfl g56) ?_
  refine q_fa (ok_putR tyX3 (by decide +kernel : decode cX3_init 40 = .ok (.putfield 24, 3)) rfl (rfl : vwCl[3]? = some (RX3, TX3, 6)) inX3 tyX3_ok nmX3 (by decide) g746 (Or.inr ⟨rfl, rfl, rfl⟩) (by decide +kernel : parseFieldDescriptor (TX3 4).2.2.1 = some (tyX3 4)) (q_rfA _)) ?_
  refine q_fa (ok_vret (by decide +kernel : decode cX3_init 43 = .ok (.return_, 1)) rfl) ?_
  exact q_fa0
theorem exX3_init : ∃ t : Nat → qP, t = uX3_init := ⟨_, rfl⟩
noncomputable def tX3_init : Nat → qP := Classical.choose exX3_init
theorem teX3_init : tX3_init = uX3_init := Classical.choose_spec exX3_init
theorem sX3_init : q_Snd mX3_init tX3_init := by rw [teX3_init]; exact suX3_init
theorem tX3_init_0 : tX3_init 0 = oAl 0 1 := (congrFun teX3_init 0).trans rfl
theorem tX3_init_1 : tX3_init 1 = oObj 4 := (congrFun teX3_init 1).trans rfl
theorem tX3_init_4 : tX3_init 4 = oAl 0 5 := (congrFun teX3_init 4).trans rfl
theorem tX3_init_5 : tX3_init 5 = oK (.int (nI 6420)) 8 := (congrFun teX3_init 5).trans rfl
theorem tX3_init_8 : tX3_init 8 = oNewa 1 10 := (congrFun teX3_init 8).trans rfl
theorem tX3_init_10 : tX3_init 10 = oPutR 3 0 13 := (congrFun teX3_init 10).trans rfl
theorem tX3_init_13 : tX3_init 13 = oAl 0 14 := (congrFun teX3_init 13).trans rfl
theorem tX3_init_14 : tX3_init 14 = oK (.int (nI 4096)) 17 := (congrFun teX3_init 14).trans rfl
theorem tX3_init_17 : tX3_init 17 = oNewa 1 19 := (congrFun teX3_init 17).trans rfl
theorem tX3_init_19 : tX3_init 19 = oPutR 3 1 22 := (congrFun teX3_init 19).trans rfl
theorem tX3_init_22 : tX3_init 22 = oAl 0 23 := (congrFun teX3_init 22).trans rfl
theorem tX3_init_23 : tX3_init 23 = oK (.int (nI 5)) 24 := (congrFun teX3_init 23).trans rfl
theorem tX3_init_24 : tX3_init 24 = oNewa 1 26 := (congrFun teX3_init 24).trans rfl
theorem tX3_init_26 : tX3_init 26 = oPutR 3 2 29 := (congrFun teX3_init 26).trans rfl
theorem tX3_init_29 : tX3_init 29 = oAl 0 30 := (congrFun teX3_init 29).trans rfl
theorem tX3_init_30 : tX3_init 30 = oK (.int (nI 5)) 31 := (congrFun teX3_init 30).trans rfl
theorem tX3_init_31 : tX3_init 31 = oNewa 1 33 := (congrFun teX3_init 31).trans rfl
theorem tX3_init_33 : tX3_init 33 = oPutR 3 3 36 := (congrFun teX3_init 33).trans rfl
theorem tX3_init_36 : tX3_init 36 = oAl 0 37 := (congrFun teX3_init 36).trans rfl
theorem tX3_init_37 : tX3_init 37 = oK (.int (nI 5)) 38 := (congrFun teX3_init 37).trans rfl
theorem tX3_init_38 : tX3_init 38 = oNewa 1 40 := (congrFun teX3_init 38).trans rfl
theorem tX3_init_40 : tX3_init 40 = oPutR 3 4 43 := (congrFun teX3_init 40).trans rfl
theorem tX3_init_43 : tX3_init 43 = oVret := (congrFun teX3_init 43).trans rfl
def lX3_size : List (Nat × qP) := [(0, oAl 0 1), (1, oGet 3 5 4), (4, oIret)]
def uX3_size : Nat → qP := q_tb lX3_size
set_option maxRecDepth 20000 in
theorem suX3_size : q_Snd mX3_size uX3_size := by
  refine q_tb_ok ?_
  unfold lX3_size
  refine q_fa (ok_aload_n (by decide +kernel : decode cX3_size 0 = .ok (.aload_n 0, 1)) rfl rfl) ?_
  refine q_fa (ok_get (by decide +kernel : decode cX3_size 1 = .ok (.getfield 27, 3)) rfl (rfl : vwCl[3]? = some (RX3, TX3, 6)) inX3 (by decide) g747) ?_
  refine q_fa (ok_iret (by decide +kernel : decode cX3_size 4 = .ok (.ireturn, 1)) rfl) ?_
  exact q_fa0
theorem exX3_size : ∃ t : Nat → qP, t = uX3_size := ⟨_, rfl⟩
noncomputable def tX3_size : Nat → qP := Classical.choose exX3_size
theorem teX3_size : tX3_size = uX3_size := Classical.choose_spec exX3_size
theorem sX3_size : q_Snd mX3_size tX3_size := by rw [teX3_size]; exact suX3_size
theorem tX3_size_0 : tX3_size 0 = oAl 0 1 := (congrFun teX3_size 0).trans rfl
theorem tX3_size_1 : tX3_size 1 = oGet 3 5 4 := (congrFun teX3_size 1).trans rfl
theorem tX3_size_4 : tX3_size 4 = oIret := (congrFun teX3_size 4).trans rfl
def lX3_hasRow : List (Nat × qP) := [(0, oIl 2 1), (1, oK (.int (nI 13)) 3), (3, oIf2ge 17 6), (6, oAl 0 7), (7, oIl 1 8), (8, oK (.int (nI 0)) 9), (9, oCallV 3 mX3_wordOf 2 12), (12, oIl 2 13), (13, oShr 14), (14, oGo 28), (17, oAl 0 18), (18, oIl 1 19), (19, oK (.int (nI 1)) 20), (20, oCallV 3 mX3_wordOf 2 23), (23, oIl 2 24), (24, oK (.int (nI 13)) 26), (26, oSub 27), (27, oShr 28), (28, oIs 3 29), (29, oIl 3 30), (30, oK (.int (nI 1)) 31), (31, oAnd 32), (32, oK (.int (nI 1)) 33), (33, oIf2ne 40 36), (36, oK (.int (nI 1)) 37), (37, oGo 41), (40, oK (.int (nI 0)) 41), (41, oZret)]
def uX3_hasRow : Nat → qP := q_tb lX3_hasRow
set_option maxRecDepth 20000 in
theorem suX3_hasRow : q_Snd mX3_hasRow uX3_hasRow := by
  refine q_tb_ok ?_
  unfold lX3_hasRow
  refine q_fa (ok_iload_n (by decide +kernel : decode cX3_hasRow 0 = .ok (.iload_n 2, 1)) rfl rfl) ?_
  refine q_fa (ok_bipush (by decide +kernel : decode cX3_hasRow 1 = .ok (.bipush 13, 2)) rfl (by decide +kernel)) ?_
  refine q_fa (ok_if2ge (by decide +kernel : decode cX3_hasRow 3 = .ok (.if_icmp .ge 14, 3)) (by decide) rfl) ?_
  refine q_fa (ok_aload_n (by decide +kernel : decode cX3_hasRow 6 = .ok (.aload_n 0, 1)) rfl rfl) ?_
  refine q_fa (ok_iload_n (by decide +kernel : decode cX3_hasRow 7 = .ok (.iload_n 1, 1)) rfl rfl) ?_
  refine q_fa (ok_iconst (by decide +kernel : decode cX3_hasRow 8 = .ok (.iconst 0, 1)) rfl (by decide +kernel)) ?_
  refine q_fa (ok_callV (by decide +kernel : decode cX3_hasRow 9 = .ok (.invokevirtual 31, 3)) rfl kX3_wordOf.1 kX3_wordOf.2.1 kX3_wordOf.2.2.1 kX3_wordOf.2.2.2.1 kX3_wordOf.2.2.2.2 (rfl : vwCl[3]? = some (RX3, TX3, 6)) g781 gs33 g779) ?_
  refine q_fa (ok_iload_n (by decide +kernel : decode cX3_hasRow 12 = .ok (.iload_n 2, 1)) rfl rfl) ?_
  refine q_fa (ok_ishr (by decide +kernel : decode cX3_hasRow 13 = .ok (.ishr, 1)) rfl) ?_
  refine q_fa (ok_goto (by decide +kernel : decode cX3_hasRow 14 = .ok (.goto 14, 3)) (by decide)) ?_
  refine q_fa (ok_aload_n (by decide +kernel : decode cX3_hasRow 17 = .ok (.aload_n 0, 1)) rfl rfl) ?_
  refine q_fa (ok_iload_n (by decide +kernel : decode cX3_hasRow 18 = .ok (.iload_n 1, 1)) rfl rfl) ?_
  refine q_fa (ok_iconst (by decide +kernel : decode cX3_hasRow 19 = .ok (.iconst 1, 1)) rfl (by decide +kernel)) ?_
  refine q_fa (ok_callV (by decide +kernel : decode cX3_hasRow 20 = .ok (.invokevirtual 31, 3)) rfl kX3_wordOf.1 kX3_wordOf.2.1 kX3_wordOf.2.2.1 kX3_wordOf.2.2.2.1 kX3_wordOf.2.2.2.2 (rfl : vwCl[3]? = some (RX3, TX3, 6)) g781 gs33 g779) ?_
  refine q_fa (ok_iload_n (by decide +kernel : decode cX3_hasRow 23 = .ok (.iload_n 2, 1)) rfl rfl) ?_
  refine q_fa (ok_bipush (by decide +kernel : decode cX3_hasRow 24 = .ok (.bipush 13, 2)) rfl (by decide +kernel)) ?_
  refine q_fa (ok_isub (by decide +kernel : decode cX3_hasRow 26 = .ok (.isub, 1)) rfl) ?_
  refine q_fa (ok_ishr (by decide +kernel : decode cX3_hasRow 27 = .ok (.ishr, 1)) rfl) ?_
  refine q_fa (ok_istore_n (by decide +kernel : decode cX3_hasRow 28 = .ok (.istore_n 3, 1)) rfl rfl (by decide)) ?_
  refine q_fa (ok_iload_n (by decide +kernel : decode cX3_hasRow 29 = .ok (.iload_n 3, 1)) rfl rfl) ?_
  refine q_fa (ok_iconst (by decide +kernel : decode cX3_hasRow 30 = .ok (.iconst 1, 1)) rfl (by decide +kernel)) ?_
  refine q_fa (ok_iand (by decide +kernel : decode cX3_hasRow 31 = .ok (.iand, 1)) rfl) ?_
  refine q_fa (ok_iconst (by decide +kernel : decode cX3_hasRow 32 = .ok (.iconst 1, 1)) rfl (by decide +kernel)) ?_
  refine q_fa (ok_if2ne (by decide +kernel : decode cX3_hasRow 33 = .ok (.if_icmp .ne 7, 3)) (by decide) rfl) ?_
  refine q_fa (ok_iconst (by decide +kernel : decode cX3_hasRow 36 = .ok (.iconst 1, 1)) rfl (by decide +kernel)) ?_
  refine q_fa (ok_goto (by decide +kernel : decode cX3_hasRow 37 = .ok (.goto 4, 3)) (by decide)) ?_
  refine q_fa (ok_iconst (by decide +kernel : decode cX3_hasRow 40 = .ok (.iconst 0, 1)) rfl (by decide +kernel)) ?_
  refine q_fa (ok_zret (by decide +kernel : decode cX3_hasRow 41 = .ok (.ireturn, 1)) rfl) ?_
  exact q_fa0
theorem exX3_hasRow : ∃ t : Nat → qP, t = uX3_hasRow := ⟨_, rfl⟩
noncomputable def tX3_hasRow : Nat → qP := Classical.choose exX3_hasRow
theorem teX3_hasRow : tX3_hasRow = uX3_hasRow := Classical.choose_spec exX3_hasRow
theorem sX3_hasRow : q_Snd mX3_hasRow tX3_hasRow := by rw [teX3_hasRow]; exact suX3_hasRow
theorem tX3_hasRow_0 : tX3_hasRow 0 = oIl 2 1 := (congrFun teX3_hasRow 0).trans rfl
theorem tX3_hasRow_1 : tX3_hasRow 1 = oK (.int (nI 13)) 3 := (congrFun teX3_hasRow 1).trans rfl
theorem tX3_hasRow_3 : tX3_hasRow 3 = oIf2ge 17 6 := (congrFun teX3_hasRow 3).trans rfl
theorem tX3_hasRow_6 : tX3_hasRow 6 = oAl 0 7 := (congrFun teX3_hasRow 6).trans rfl
theorem tX3_hasRow_7 : tX3_hasRow 7 = oIl 1 8 := (congrFun teX3_hasRow 7).trans rfl
theorem tX3_hasRow_8 : tX3_hasRow 8 = oK (.int (nI 0)) 9 := (congrFun teX3_hasRow 8).trans rfl
theorem tX3_hasRow_9 : tX3_hasRow 9 = oCallV 3 mX3_wordOf 2 12 := (congrFun teX3_hasRow 9).trans rfl
theorem tX3_hasRow_12 : tX3_hasRow 12 = oIl 2 13 := (congrFun teX3_hasRow 12).trans rfl
theorem tX3_hasRow_13 : tX3_hasRow 13 = oShr 14 := (congrFun teX3_hasRow 13).trans rfl
theorem tX3_hasRow_14 : tX3_hasRow 14 = oGo 28 := (congrFun teX3_hasRow 14).trans rfl
theorem tX3_hasRow_17 : tX3_hasRow 17 = oAl 0 18 := (congrFun teX3_hasRow 17).trans rfl
theorem tX3_hasRow_18 : tX3_hasRow 18 = oIl 1 19 := (congrFun teX3_hasRow 18).trans rfl
theorem tX3_hasRow_19 : tX3_hasRow 19 = oK (.int (nI 1)) 20 := (congrFun teX3_hasRow 19).trans rfl
theorem tX3_hasRow_20 : tX3_hasRow 20 = oCallV 3 mX3_wordOf 2 23 := (congrFun teX3_hasRow 20).trans rfl
theorem tX3_hasRow_23 : tX3_hasRow 23 = oIl 2 24 := (congrFun teX3_hasRow 23).trans rfl
theorem tX3_hasRow_24 : tX3_hasRow 24 = oK (.int (nI 13)) 26 := (congrFun teX3_hasRow 24).trans rfl
theorem tX3_hasRow_26 : tX3_hasRow 26 = oSub 27 := (congrFun teX3_hasRow 26).trans rfl
theorem tX3_hasRow_27 : tX3_hasRow 27 = oShr 28 := (congrFun teX3_hasRow 27).trans rfl
theorem tX3_hasRow_28 : tX3_hasRow 28 = oIs 3 29 := (congrFun teX3_hasRow 28).trans rfl
theorem tX3_hasRow_29 : tX3_hasRow 29 = oIl 3 30 := (congrFun teX3_hasRow 29).trans rfl
theorem tX3_hasRow_30 : tX3_hasRow 30 = oK (.int (nI 1)) 31 := (congrFun teX3_hasRow 30).trans rfl
theorem tX3_hasRow_31 : tX3_hasRow 31 = oAnd 32 := (congrFun teX3_hasRow 31).trans rfl
theorem tX3_hasRow_32 : tX3_hasRow 32 = oK (.int (nI 1)) 33 := (congrFun teX3_hasRow 32).trans rfl
theorem tX3_hasRow_33 : tX3_hasRow 33 = oIf2ne 40 36 := (congrFun teX3_hasRow 33).trans rfl
theorem tX3_hasRow_36 : tX3_hasRow 36 = oK (.int (nI 1)) 37 := (congrFun teX3_hasRow 36).trans rfl
theorem tX3_hasRow_37 : tX3_hasRow 37 = oGo 41 := (congrFun teX3_hasRow 37).trans rfl
theorem tX3_hasRow_40 : tX3_hasRow 40 = oK (.int (nI 0)) 41 := (congrFun teX3_hasRow 40).trans rfl
theorem tX3_hasRow_41 : tX3_hasRow 41 = oZret := (congrFun teX3_hasRow 41).trans rfl
def lX3_wordOf : List (Nat × qP) := [(0, oIl 1 1), (1, oK (.int (nI 5)) 2), (2, oMul 3), (3, oIl 2 4), (4, oAdd 5), (5, oIs 3 6), (6, oIl 3 7), (7, oIf1lt 28 10), (10, oIl 3 11), (11, oAl 0 12), (12, oGet 3 0 15), (15, oAlen 16), (16, oIf2ge 28 19), (19, oAl 0 20), (20, oGet 3 0 23), (23, oIl 3 24), (24, oIald 25), (25, oGo 29), (28, oK (.int (nI 0)) 29), (29, oIret)]
def uX3_wordOf : Nat → qP := q_tb lX3_wordOf
set_option maxRecDepth 20000 in
theorem suX3_wordOf : q_Snd mX3_wordOf uX3_wordOf := by
  refine q_tb_ok ?_
  unfold lX3_wordOf
  refine q_fa (ok_iload_n (by decide +kernel : decode cX3_wordOf 0 = .ok (.iload_n 1, 1)) rfl rfl) ?_
  refine q_fa (ok_iconst (by decide +kernel : decode cX3_wordOf 1 = .ok (.iconst 5, 1)) rfl (by decide +kernel)) ?_
  refine q_fa (ok_imul (by decide +kernel : decode cX3_wordOf 2 = .ok (.imul, 1)) rfl) ?_
  refine q_fa (ok_iload_n (by decide +kernel : decode cX3_wordOf 3 = .ok (.iload_n 2, 1)) rfl rfl) ?_
  refine q_fa (ok_iadd (by decide +kernel : decode cX3_wordOf 4 = .ok (.iadd, 1)) rfl) ?_
  refine q_fa (ok_istore_n (by decide +kernel : decode cX3_wordOf 5 = .ok (.istore_n 3, 1)) rfl rfl (by decide)) ?_
  refine q_fa (ok_iload_n (by decide +kernel : decode cX3_wordOf 6 = .ok (.iload_n 3, 1)) rfl rfl) ?_
  refine q_fa (ok_if1lt (by decide +kernel : decode cX3_wordOf 7 = .ok (.ifCond .lt 21, 3)) (by decide) rfl) ?_
  refine q_fa (ok_iload_n (by decide +kernel : decode cX3_wordOf 10 = .ok (.iload_n 3, 1)) rfl rfl) ?_
  refine q_fa (ok_aload_n (by decide +kernel : decode cX3_wordOf 11 = .ok (.aload_n 0, 1)) rfl rfl) ?_
  refine q_fa (ok_get (by decide +kernel : decode cX3_wordOf 12 = .ok (.getfield 11, 3)) rfl (rfl : vwCl[3]? = some (RX3, TX3, 6)) inX3 (by decide) g742) ?_
  refine q_fa (ok_alen (by decide +kernel : decode cX3_wordOf 15 = .ok (.arraylength, 1)) rfl) ?_
  refine q_fa (ok_if2ge (by decide +kernel : decode cX3_wordOf 16 = .ok (.if_icmp .ge 12, 3)) (by decide) rfl) ?_
  refine q_fa (ok_aload_n (by decide +kernel : decode cX3_wordOf 19 = .ok (.aload_n 0, 1)) rfl rfl) ?_
  refine q_fa (ok_get (by decide +kernel : decode cX3_wordOf 20 = .ok (.getfield 11, 3)) rfl (rfl : vwCl[3]? = some (RX3, TX3, 6)) inX3 (by decide) g742) ?_
  refine q_fa (ok_iload_n (by decide +kernel : decode cX3_wordOf 23 = .ok (.iload_n 3, 1)) rfl rfl) ?_
  refine q_fa (ok_iaload (by decide +kernel : decode cX3_wordOf 24 = .ok (.iaload, 1)) rfl) ?_
  refine q_fa (ok_goto (by decide +kernel : decode cX3_wordOf 25 = .ok (.goto 4, 3)) (by decide)) ?_
  refine q_fa (ok_iconst (by decide +kernel : decode cX3_wordOf 28 = .ok (.iconst 0, 1)) rfl (by decide +kernel)) ?_
  refine q_fa (ok_iret (by decide +kernel : decode cX3_wordOf 29 = .ok (.ireturn, 1)) rfl) ?_
  exact q_fa0
theorem exX3_wordOf : ∃ t : Nat → qP, t = uX3_wordOf := ⟨_, rfl⟩
noncomputable def tX3_wordOf : Nat → qP := Classical.choose exX3_wordOf
theorem teX3_wordOf : tX3_wordOf = uX3_wordOf := Classical.choose_spec exX3_wordOf
theorem sX3_wordOf : q_Snd mX3_wordOf tX3_wordOf := by rw [teX3_wordOf]; exact suX3_wordOf
theorem tX3_wordOf_0 : tX3_wordOf 0 = oIl 1 1 := (congrFun teX3_wordOf 0).trans rfl
theorem tX3_wordOf_1 : tX3_wordOf 1 = oK (.int (nI 5)) 2 := (congrFun teX3_wordOf 1).trans rfl
theorem tX3_wordOf_2 : tX3_wordOf 2 = oMul 3 := (congrFun teX3_wordOf 2).trans rfl
theorem tX3_wordOf_3 : tX3_wordOf 3 = oIl 2 4 := (congrFun teX3_wordOf 3).trans rfl
theorem tX3_wordOf_4 : tX3_wordOf 4 = oAdd 5 := (congrFun teX3_wordOf 4).trans rfl
theorem tX3_wordOf_5 : tX3_wordOf 5 = oIs 3 6 := (congrFun teX3_wordOf 5).trans rfl
theorem tX3_wordOf_6 : tX3_wordOf 6 = oIl 3 7 := (congrFun teX3_wordOf 6).trans rfl
theorem tX3_wordOf_7 : tX3_wordOf 7 = oIf1lt 28 10 := (congrFun teX3_wordOf 7).trans rfl
theorem tX3_wordOf_10 : tX3_wordOf 10 = oIl 3 11 := (congrFun teX3_wordOf 10).trans rfl
theorem tX3_wordOf_11 : tX3_wordOf 11 = oAl 0 12 := (congrFun teX3_wordOf 11).trans rfl
theorem tX3_wordOf_12 : tX3_wordOf 12 = oGet 3 0 15 := (congrFun teX3_wordOf 12).trans rfl
theorem tX3_wordOf_15 : tX3_wordOf 15 = oAlen 16 := (congrFun teX3_wordOf 15).trans rfl
theorem tX3_wordOf_16 : tX3_wordOf 16 = oIf2ge 28 19 := (congrFun teX3_wordOf 16).trans rfl
theorem tX3_wordOf_19 : tX3_wordOf 19 = oAl 0 20 := (congrFun teX3_wordOf 19).trans rfl
theorem tX3_wordOf_20 : tX3_wordOf 20 = oGet 3 0 23 := (congrFun teX3_wordOf 20).trans rfl
theorem tX3_wordOf_23 : tX3_wordOf 23 = oIl 3 24 := (congrFun teX3_wordOf 23).trans rfl
theorem tX3_wordOf_24 : tX3_wordOf 24 = oIald 25 := (congrFun teX3_wordOf 24).trans rfl
theorem tX3_wordOf_25 : tX3_wordOf 25 = oGo 29 := (congrFun teX3_wordOf 25).trans rfl
theorem tX3_wordOf_28 : tX3_wordOf 28 = oK (.int (nI 0)) 29 := (congrFun teX3_wordOf 28).trans rfl
theorem tX3_wordOf_29 : tX3_wordOf 29 = oIret := (congrFun teX3_wordOf 29).trans rfl
def lX3_meaningOf : List (Nat × qP) := [(0, oAl 0 1), (1, oGet 3 2 4), (4, oK (.int (nI 0)) 5), (5, oCallS mJ7_fill_53178 2 8), (8, oIl 1 9), (9, oTab 0 [44, 56, 68, 93, 125] 150), (44, oAl 0 45), (45, oGet 3 2 48), (48, oK (.int (nI 0)) 49), (49, oK (.int (nI 2)) 50), (50, oIl 2 51), (51, oShl 52), (52, oIast 53), (53, oGo 169), (56, oAl 0 57), (57, oGet 3 2 60), (60, oK (.int (nI 0)) 61), (61, oIl 2 62), (62, oK (.int (nI 1)) 63), (63, oShl 64), (64, oIast 65), (65, oGo 169), (68, oAl 0 69), (69, oIl 2 70), (70, oAl 0 71), (71, oGet 3 3 74), (74, oCallV 3 mX3_load 2 77), (77, oAl 0 78), (78, oIl 3 79), (79, oAl 0 80), (80, oGet 3 4 83), (83, oCallV 3 mX3_load 2 86), (86, oAl 0 87), (87, oCallV 3 mX3_addJoined 0 90), (90, oGo 169), (93, oAl 0 94), (94, oIl 2 95), (95, oAl 0 96), (96, oGet 3 2 99), (99, oCallV 3 mX3_load 2 102), (102, oAl 0 103), (103, oIl 3 104), (104, oAl 0 105), (105, oGet 3 4 108), (108, oCallV 3 mX3_load 2 111), (111, oAl 0 112), (112, oGet 3 4 115), (115, oAl 0 116), (116, oGet 3 2 119), (119, oCallS mX3_addAll 2 122), (122, oGo 169), (125, oAl 0 126), (126, oIl 2 127), (127, oAl 0 128), (128, oGet 3 2 131), (131, oCallV 3 mX3_load 2 134), (134, oAl 0 135), (135, oIl 2 136), (136, oAl 0 137), (137, oGet 3 4 140), (140, oCallV 3 mX3_load 2 143), (143, oAl 0 144), (144, oCallV 3 mX3_repeat 0 147), (147, oGo 169), (150, oAl 0 151), (151, oIl 2 152), (152, oAl 0 153), (153, oGet 3 2 156), (156, oCallV 3 mX3_load 2 159), (159, oAl 0 160), (160, oGet 3 2 163), (163, oK (.int (nI 0)) 164), (164, oDup2 165), (165, oIald 166), (166, oK (.int (nI 1)) 167), (167, oOr 168), (168, oIast 169), (169, oAl 0 170), (170, oCallV 3 mX3_keep 0 173), (173, oIret)]
def uX3_meaningOf : Nat → qP := q_tb lX3_meaningOf
set_option maxRecDepth 20000 in
theorem suX3_meaningOf : q_Snd mX3_meaningOf uX3_meaningOf := by
  refine q_tb_ok ?_
  unfold lX3_meaningOf
  refine q_fa (ok_aload_n (by decide +kernel : decode cX3_meaningOf 0 = .ok (.aload_n 0, 1)) rfl rfl) ?_
  refine q_fa (ok_get (by decide +kernel : decode cX3_meaningOf 1 = .ok (.getfield 18, 3)) rfl (rfl : vwCl[3]? = some (RX3, TX3, 6)) inX3 (by decide) g744) ?_
  refine q_fa (ok_iconst (by decide +kernel : decode cX3_meaningOf 4 = .ok (.iconst 0, 1)) rfl (by decide +kernel)) ?_
  refine q_fa (ok_callS (by decide +kernel : decode cX3_meaningOf 5 = .ok (.invokestatic 35, 3)) rfl kJ7_fill_53178.1 kJ7_fill_53178.2.1 kJ7_fill_53178.2.2.1 kJ7_fill_53178.2.2.2.1 kJ7_fill_53178.2.2.2.2 g496 g774) ?_
  refine q_fa (ok_iload_n (by decide +kernel : decode cX3_meaningOf 8 = .ok (.iload_n 1, 1)) rfl rfl) ?_
  refine q_fa (ok_table (by decide +kernel : decode cX3_meaningOf 9 = .ok (.tableswitch 141 0 4 #[35, 47, 59, 84, 116], 35)) (by decide) (by decide) (by decide) (by decide) (by decide)) ?_
  refine q_fa (ok_aload_n (by decide +kernel : decode cX3_meaningOf 44 = .ok (.aload_n 0, 1)) rfl rfl) ?_
  refine q_fa (ok_get (by decide +kernel : decode cX3_meaningOf 45 = .ok (.getfield 18, 3)) rfl (rfl : vwCl[3]? = some (RX3, TX3, 6)) inX3 (by decide) g744) ?_
  refine q_fa (ok_iconst (by decide +kernel : decode cX3_meaningOf 48 = .ok (.iconst 0, 1)) rfl (by decide +kernel)) ?_
  refine q_fa (ok_iconst (by decide +kernel : decode cX3_meaningOf 49 = .ok (.iconst 2, 1)) rfl (by decide +kernel)) ?_
  refine q_fa (ok_iload_n (by decide +kernel : decode cX3_meaningOf 50 = .ok (.iload_n 2, 1)) rfl rfl) ?_
  refine q_fa (ok_ishl (by decide +kernel : decode cX3_meaningOf 51 = .ok (.ishl, 1)) rfl) ?_
  refine q_fa (ok_iastore (by decide +kernel : decode cX3_meaningOf 52 = .ok (.iastore, 1)) rfl) ?_
  refine q_fa (ok_goto (by decide +kernel : decode cX3_meaningOf 53 = .ok (.goto 116, 3)) (by decide)) ?_
  refine q_fa (ok_aload_n (by decide +kernel : decode cX3_meaningOf 56 = .ok (.aload_n 0, 1)) rfl rfl) ?_
  refine q_fa (ok_get (by decide +kernel : decode cX3_meaningOf 57 = .ok (.getfield 18, 3)) rfl (rfl : vwCl[3]? = some (RX3, TX3, 6)) inX3 (by decide) g744) ?_
  refine q_fa (ok_iconst (by decide +kernel : decode cX3_meaningOf 60 = .ok (.iconst 0, 1)) rfl (by decide +kernel)) ?_
  refine q_fa (ok_iload_n (by decide +kernel : decode cX3_meaningOf 61 = .ok (.iload_n 2, 1)) rfl rfl) ?_
  refine q_fa (ok_iconst (by decide +kernel : decode cX3_meaningOf 62 = .ok (.iconst 1, 1)) rfl (by decide +kernel)) ?_
  refine q_fa (ok_ishl (by decide +kernel : decode cX3_meaningOf 63 = .ok (.ishl, 1)) rfl) ?_
  refine q_fa (ok_iastore (by decide +kernel : decode cX3_meaningOf 64 = .ok (.iastore, 1)) rfl) ?_
  refine q_fa (ok_goto (by decide +kernel : decode cX3_meaningOf 65 = .ok (.goto 104, 3)) (by decide)) ?_
  refine q_fa (ok_aload_n (by decide +kernel : decode cX3_meaningOf 68 = .ok (.aload_n 0, 1)) rfl rfl) ?_
  refine q_fa (ok_iload_n (by decide +kernel : decode cX3_meaningOf 69 = .ok (.iload_n 2, 1)) rfl rfl) ?_
  refine q_fa (ok_aload_n (by decide +kernel : decode cX3_meaningOf 70 = .ok (.aload_n 0, 1)) rfl rfl) ?_
  refine q_fa (ok_get (by decide +kernel : decode cX3_meaningOf 71 = .ok (.getfield 21, 3)) rfl (rfl : vwCl[3]? = some (RX3, TX3, 6)) inX3 (by decide) g745) ?_
  refine q_fa (ok_callV (by decide +kernel : decode cX3_meaningOf 74 = .ok (.invokevirtual 41, 3)) rfl kX3_load.1 kX3_load.2.1 kX3_load.2.2.1 kX3_load.2.2.2.1 kX3_load.2.2.2.2 (rfl : vwCl[3]? = some (RX3, TX3, 6)) g777 gs32 g775) ?_
  refine q_fa (ok_aload_n (by decide +kernel : decode cX3_meaningOf 77 = .ok (.aload_n 0, 1)) rfl rfl) ?_
  refine q_fa (ok_iload_n (by decide +kernel : decode cX3_meaningOf 78 = .ok (.iload_n 3, 1)) rfl rfl) ?_
  refine q_fa (ok_aload_n (by decide +kernel : decode cX3_meaningOf 79 = .ok (.aload_n 0, 1)) rfl rfl) ?_
  refine q_fa (ok_get (by decide +kernel : decode cX3_meaningOf 80 = .ok (.getfield 24, 3)) rfl (rfl : vwCl[3]? = some (RX3, TX3, 6)) inX3 (by decide) g746) ?_
  refine q_fa (ok_callV (by decide +kernel : decode cX3_meaningOf 83 = .ok (.invokevirtual 41, 3)) rfl kX3_load.1 kX3_load.2.1 kX3_load.2.2.1 kX3_load.2.2.2.1 kX3_load.2.2.2.2 (rfl : vwCl[3]? = some (RX3, TX3, 6)) g777 gs32 g775) ?_
  refine q_fa (ok_aload_n (by decide +kernel : decode cX3_meaningOf 86 = .ok (.aload_n 0, 1)) rfl rfl) ?_
  refine q_fa (ok_callV (by decide +kernel : decode cX3_meaningOf 87 = .ok (.invokevirtual 45, 3)) rfl kX3_addJoined.1 kX3_addJoined.2.1 kX3_addJoined.2.2.1 kX3_addJoined.2.2.2.1 kX3_addJoined.2.2.2.2 (rfl : vwCl[3]? = some (RX3, TX3, 6)) g785 gs34 g783) ?_
  refine q_fa (ok_goto (by decide +kernel : decode cX3_meaningOf 90 = .ok (.goto 79, 3)) (by decide)) ?_
  refine q_fa (ok_aload_n (by decide +kernel : decode cX3_meaningOf 93 = .ok (.aload_n 0, 1)) rfl rfl) ?_
  refine q_fa (ok_iload_n (by decide +kernel : decode cX3_meaningOf 94 = .ok (.iload_n 2, 1)) rfl rfl) ?_
  refine q_fa (ok_aload_n (by decide +kernel : decode cX3_meaningOf 95 = .ok (.aload_n 0, 1)) rfl rfl) ?_
  refine q_fa (ok_get (by decide +kernel : decode cX3_meaningOf 96 = .ok (.getfield 18, 3)) rfl (rfl : vwCl[3]? = some (RX3, TX3, 6)) inX3 (by decide) g744) ?_
  refine q_fa (ok_callV (by decide +kernel : decode cX3_meaningOf 99 = .ok (.invokevirtual 41, 3)) rfl kX3_load.1 kX3_load.2.1 kX3_load.2.2.1 kX3_load.2.2.2.1 kX3_load.2.2.2.2 (rfl : vwCl[3]? = some (RX3, TX3, 6)) g777 gs32 g775) ?_
  refine q_fa (ok_aload_n (by decide +kernel : decode cX3_meaningOf 102 = .ok (.aload_n 0, 1)) rfl rfl) ?_
  refine q_fa (ok_iload_n (by decide +kernel : decode cX3_meaningOf 103 = .ok (.iload_n 3, 1)) rfl rfl) ?_
  refine q_fa (ok_aload_n (by decide +kernel : decode cX3_meaningOf 104 = .ok (.aload_n 0, 1)) rfl rfl) ?_
  refine q_fa (ok_get (by decide +kernel : decode cX3_meaningOf 105 = .ok (.getfield 24, 3)) rfl (rfl : vwCl[3]? = some (RX3, TX3, 6)) inX3 (by decide) g746) ?_
  refine q_fa (ok_callV (by decide +kernel : decode cX3_meaningOf 108 = .ok (.invokevirtual 41, 3)) rfl kX3_load.1 kX3_load.2.1 kX3_load.2.2.1 kX3_load.2.2.2.1 kX3_load.2.2.2.2 (rfl : vwCl[3]? = some (RX3, TX3, 6)) g777 gs32 g775) ?_
  refine q_fa (ok_aload_n (by decide +kernel : decode cX3_meaningOf 111 = .ok (.aload_n 0, 1)) rfl rfl) ?_
  refine q_fa (ok_get (by decide +kernel : decode cX3_meaningOf 112 = .ok (.getfield 24, 3)) rfl (rfl : vwCl[3]? = some (RX3, TX3, 6)) inX3 (by decide) g746) ?_
  refine q_fa (ok_aload_n (by decide +kernel : decode cX3_meaningOf 115 = .ok (.aload_n 0, 1)) rfl rfl) ?_
  refine q_fa (ok_get (by decide +kernel : decode cX3_meaningOf 116 = .ok (.getfield 18, 3)) rfl (rfl : vwCl[3]? = some (RX3, TX3, 6)) inX3 (by decide) g744) ?_
  refine q_fa (ok_callS (by decide +kernel : decode cX3_meaningOf 119 = .ok (.invokestatic 48, 3)) rfl kX3_addAll.1 kX3_addAll.2.1 kX3_addAll.2.2.1 kX3_addAll.2.2.2.1 kX3_addAll.2.2.2.2 g788 g787) ?_
  refine q_fa (ok_goto (by decide +kernel : decode cX3_meaningOf 122 = .ok (.goto 47, 3)) (by decide)) ?_
  refine q_fa (ok_aload_n (by decide +kernel : decode cX3_meaningOf 125 = .ok (.aload_n 0, 1)) rfl rfl) ?_
  refine q_fa (ok_iload_n (by decide +kernel : decode cX3_meaningOf 126 = .ok (.iload_n 2, 1)) rfl rfl) ?_
  refine q_fa (ok_aload_n (by decide +kernel : decode cX3_meaningOf 127 = .ok (.aload_n 0, 1)) rfl rfl) ?_
  refine q_fa (ok_get (by decide +kernel : decode cX3_meaningOf 128 = .ok (.getfield 18, 3)) rfl (rfl : vwCl[3]? = some (RX3, TX3, 6)) inX3 (by decide) g744) ?_
  refine q_fa (ok_callV (by decide +kernel : decode cX3_meaningOf 131 = .ok (.invokevirtual 41, 3)) rfl kX3_load.1 kX3_load.2.1 kX3_load.2.2.1 kX3_load.2.2.2.1 kX3_load.2.2.2.2 (rfl : vwCl[3]? = some (RX3, TX3, 6)) g777 gs32 g775) ?_
  refine q_fa (ok_aload_n (by decide +kernel : decode cX3_meaningOf 134 = .ok (.aload_n 0, 1)) rfl rfl) ?_
  refine q_fa (ok_iload_n (by decide +kernel : decode cX3_meaningOf 135 = .ok (.iload_n 2, 1)) rfl rfl) ?_
  refine q_fa (ok_aload_n (by decide +kernel : decode cX3_meaningOf 136 = .ok (.aload_n 0, 1)) rfl rfl) ?_
  refine q_fa (ok_get (by decide +kernel : decode cX3_meaningOf 137 = .ok (.getfield 24, 3)) rfl (rfl : vwCl[3]? = some (RX3, TX3, 6)) inX3 (by decide) g746) ?_
  refine q_fa (ok_callV (by decide +kernel : decode cX3_meaningOf 140 = .ok (.invokevirtual 41, 3)) rfl kX3_load.1 kX3_load.2.1 kX3_load.2.2.1 kX3_load.2.2.2.1 kX3_load.2.2.2.2 (rfl : vwCl[3]? = some (RX3, TX3, 6)) g777 gs32 g775) ?_
  refine q_fa (ok_aload_n (by decide +kernel : decode cX3_meaningOf 143 = .ok (.aload_n 0, 1)) rfl rfl) ?_
  refine q_fa (ok_callV (by decide +kernel : decode cX3_meaningOf 144 = .ok (.invokevirtual 52, 3)) rfl kX3_repeat.1 kX3_repeat.2.1 kX3_repeat.2.2.1 kX3_repeat.2.2.2.1 kX3_repeat.2.2.2.2 (rfl : vwCl[3]? = some (RX3, TX3, 6)) g792 gs35 g790) ?_
  refine q_fa (ok_goto (by decide +kernel : decode cX3_meaningOf 147 = .ok (.goto 22, 3)) (by decide)) ?_
  refine q_fa (ok_aload_n (by decide +kernel : decode cX3_meaningOf 150 = .ok (.aload_n 0, 1)) rfl rfl) ?_
  refine q_fa (ok_iload_n (by decide +kernel : decode cX3_meaningOf 151 = .ok (.iload_n 2, 1)) rfl rfl) ?_
  refine q_fa (ok_aload_n (by decide +kernel : decode cX3_meaningOf 152 = .ok (.aload_n 0, 1)) rfl rfl) ?_
  refine q_fa (ok_get (by decide +kernel : decode cX3_meaningOf 153 = .ok (.getfield 18, 3)) rfl (rfl : vwCl[3]? = some (RX3, TX3, 6)) inX3 (by decide) g744) ?_
  refine q_fa (ok_callV (by decide +kernel : decode cX3_meaningOf 156 = .ok (.invokevirtual 41, 3)) rfl kX3_load.1 kX3_load.2.1 kX3_load.2.2.1 kX3_load.2.2.2.1 kX3_load.2.2.2.2 (rfl : vwCl[3]? = some (RX3, TX3, 6)) g777 gs32 g775) ?_
  refine q_fa (ok_aload_n (by decide +kernel : decode cX3_meaningOf 159 = .ok (.aload_n 0, 1)) rfl rfl) ?_
  refine q_fa (ok_get (by decide +kernel : decode cX3_meaningOf 160 = .ok (.getfield 18, 3)) rfl (rfl : vwCl[3]? = some (RX3, TX3, 6)) inX3 (by decide) g744) ?_
  refine q_fa (ok_iconst (by decide +kernel : decode cX3_meaningOf 163 = .ok (.iconst 0, 1)) rfl (by decide +kernel)) ?_
  refine q_fa (ok_dup2 (by decide +kernel : decode cX3_meaningOf 164 = .ok (.dup2, 1)) rfl) ?_
  refine q_fa (ok_iaload (by decide +kernel : decode cX3_meaningOf 165 = .ok (.iaload, 1)) rfl) ?_
  refine q_fa (ok_iconst (by decide +kernel : decode cX3_meaningOf 166 = .ok (.iconst 1, 1)) rfl (by decide +kernel)) ?_
  refine q_fa (ok_ior (by decide +kernel : decode cX3_meaningOf 167 = .ok (.ior, 1)) rfl) ?_
  refine q_fa (ok_iastore (by decide +kernel : decode cX3_meaningOf 168 = .ok (.iastore, 1)) rfl) ?_
  refine q_fa (ok_aload_n (by decide +kernel : decode cX3_meaningOf 169 = .ok (.aload_n 0, 1)) rfl rfl) ?_
  refine q_fa (ok_callV (by decide +kernel : decode cX3_meaningOf 170 = .ok (.invokevirtual 55, 3)) rfl kX3_keep.1 kX3_keep.2.1 kX3_keep.2.2.1 kX3_keep.2.2.2.1 kX3_keep.2.2.2.2 (rfl : vwCl[3]? = some (RX3, TX3, 6)) g799 gs36 g797) ?_
  refine q_fa (ok_iret (by decide +kernel : decode cX3_meaningOf 173 = .ok (.ireturn, 1)) rfl) ?_
  exact q_fa0
theorem exX3_meaningOf : ∃ t : Nat → qP, t = uX3_meaningOf := ⟨_, rfl⟩
noncomputable def tX3_meaningOf : Nat → qP := Classical.choose exX3_meaningOf
theorem teX3_meaningOf : tX3_meaningOf = uX3_meaningOf := Classical.choose_spec exX3_meaningOf
theorem sX3_meaningOf : q_Snd mX3_meaningOf tX3_meaningOf := by rw [teX3_meaningOf]; exact suX3_meaningOf
theorem tX3_meaningOf_0 : tX3_meaningOf 0 = oAl 0 1 := (congrFun teX3_meaningOf 0).trans rfl
theorem tX3_meaningOf_1 : tX3_meaningOf 1 = oGet 3 2 4 := (congrFun teX3_meaningOf 1).trans rfl
theorem tX3_meaningOf_4 : tX3_meaningOf 4 = oK (.int (nI 0)) 5 := (congrFun teX3_meaningOf 4).trans rfl
theorem tX3_meaningOf_5 : tX3_meaningOf 5 = oCallS mJ7_fill_53178 2 8 := (congrFun teX3_meaningOf 5).trans rfl
theorem tX3_meaningOf_8 : tX3_meaningOf 8 = oIl 1 9 := (congrFun teX3_meaningOf 8).trans rfl
theorem tX3_meaningOf_9 : tX3_meaningOf 9 = oTab 0 [44, 56, 68, 93, 125] 150 := (congrFun teX3_meaningOf 9).trans rfl
theorem tX3_meaningOf_44 : tX3_meaningOf 44 = oAl 0 45 := (congrFun teX3_meaningOf 44).trans rfl
theorem tX3_meaningOf_45 : tX3_meaningOf 45 = oGet 3 2 48 := (congrFun teX3_meaningOf 45).trans rfl
theorem tX3_meaningOf_48 : tX3_meaningOf 48 = oK (.int (nI 0)) 49 := (congrFun teX3_meaningOf 48).trans rfl
theorem tX3_meaningOf_49 : tX3_meaningOf 49 = oK (.int (nI 2)) 50 := (congrFun teX3_meaningOf 49).trans rfl
theorem tX3_meaningOf_50 : tX3_meaningOf 50 = oIl 2 51 := (congrFun teX3_meaningOf 50).trans rfl
theorem tX3_meaningOf_51 : tX3_meaningOf 51 = oShl 52 := (congrFun teX3_meaningOf 51).trans rfl
theorem tX3_meaningOf_52 : tX3_meaningOf 52 = oIast 53 := (congrFun teX3_meaningOf 52).trans rfl
theorem tX3_meaningOf_53 : tX3_meaningOf 53 = oGo 169 := (congrFun teX3_meaningOf 53).trans rfl
theorem tX3_meaningOf_56 : tX3_meaningOf 56 = oAl 0 57 := (congrFun teX3_meaningOf 56).trans rfl
theorem tX3_meaningOf_57 : tX3_meaningOf 57 = oGet 3 2 60 := (congrFun teX3_meaningOf 57).trans rfl
theorem tX3_meaningOf_60 : tX3_meaningOf 60 = oK (.int (nI 0)) 61 := (congrFun teX3_meaningOf 60).trans rfl
theorem tX3_meaningOf_61 : tX3_meaningOf 61 = oIl 2 62 := (congrFun teX3_meaningOf 61).trans rfl
theorem tX3_meaningOf_62 : tX3_meaningOf 62 = oK (.int (nI 1)) 63 := (congrFun teX3_meaningOf 62).trans rfl
theorem tX3_meaningOf_63 : tX3_meaningOf 63 = oShl 64 := (congrFun teX3_meaningOf 63).trans rfl
theorem tX3_meaningOf_64 : tX3_meaningOf 64 = oIast 65 := (congrFun teX3_meaningOf 64).trans rfl
theorem tX3_meaningOf_65 : tX3_meaningOf 65 = oGo 169 := (congrFun teX3_meaningOf 65).trans rfl
theorem tX3_meaningOf_68 : tX3_meaningOf 68 = oAl 0 69 := (congrFun teX3_meaningOf 68).trans rfl
theorem tX3_meaningOf_69 : tX3_meaningOf 69 = oIl 2 70 := (congrFun teX3_meaningOf 69).trans rfl
theorem tX3_meaningOf_70 : tX3_meaningOf 70 = oAl 0 71 := (congrFun teX3_meaningOf 70).trans rfl
theorem tX3_meaningOf_71 : tX3_meaningOf 71 = oGet 3 3 74 := (congrFun teX3_meaningOf 71).trans rfl
theorem tX3_meaningOf_74 : tX3_meaningOf 74 = oCallV 3 mX3_load 2 77 := (congrFun teX3_meaningOf 74).trans rfl
theorem tX3_meaningOf_77 : tX3_meaningOf 77 = oAl 0 78 := (congrFun teX3_meaningOf 77).trans rfl
theorem tX3_meaningOf_78 : tX3_meaningOf 78 = oIl 3 79 := (congrFun teX3_meaningOf 78).trans rfl
theorem tX3_meaningOf_79 : tX3_meaningOf 79 = oAl 0 80 := (congrFun teX3_meaningOf 79).trans rfl
theorem tX3_meaningOf_80 : tX3_meaningOf 80 = oGet 3 4 83 := (congrFun teX3_meaningOf 80).trans rfl
theorem tX3_meaningOf_83 : tX3_meaningOf 83 = oCallV 3 mX3_load 2 86 := (congrFun teX3_meaningOf 83).trans rfl
theorem tX3_meaningOf_86 : tX3_meaningOf 86 = oAl 0 87 := (congrFun teX3_meaningOf 86).trans rfl
theorem tX3_meaningOf_87 : tX3_meaningOf 87 = oCallV 3 mX3_addJoined 0 90 := (congrFun teX3_meaningOf 87).trans rfl
theorem tX3_meaningOf_90 : tX3_meaningOf 90 = oGo 169 := (congrFun teX3_meaningOf 90).trans rfl
theorem tX3_meaningOf_93 : tX3_meaningOf 93 = oAl 0 94 := (congrFun teX3_meaningOf 93).trans rfl
theorem tX3_meaningOf_94 : tX3_meaningOf 94 = oIl 2 95 := (congrFun teX3_meaningOf 94).trans rfl
theorem tX3_meaningOf_95 : tX3_meaningOf 95 = oAl 0 96 := (congrFun teX3_meaningOf 95).trans rfl
theorem tX3_meaningOf_96 : tX3_meaningOf 96 = oGet 3 2 99 := (congrFun teX3_meaningOf 96).trans rfl
theorem tX3_meaningOf_99 : tX3_meaningOf 99 = oCallV 3 mX3_load 2 102 := (congrFun teX3_meaningOf 99).trans rfl
theorem tX3_meaningOf_102 : tX3_meaningOf 102 = oAl 0 103 := (congrFun teX3_meaningOf 102).trans rfl
theorem tX3_meaningOf_103 : tX3_meaningOf 103 = oIl 3 104 := (congrFun teX3_meaningOf 103).trans rfl
theorem tX3_meaningOf_104 : tX3_meaningOf 104 = oAl 0 105 := (congrFun teX3_meaningOf 104).trans rfl
theorem tX3_meaningOf_105 : tX3_meaningOf 105 = oGet 3 4 108 := (congrFun teX3_meaningOf 105).trans rfl
theorem tX3_meaningOf_108 : tX3_meaningOf 108 = oCallV 3 mX3_load 2 111 := (congrFun teX3_meaningOf 108).trans rfl
theorem tX3_meaningOf_111 : tX3_meaningOf 111 = oAl 0 112 := (congrFun teX3_meaningOf 111).trans rfl
theorem tX3_meaningOf_112 : tX3_meaningOf 112 = oGet 3 4 115 := (congrFun teX3_meaningOf 112).trans rfl
theorem tX3_meaningOf_115 : tX3_meaningOf 115 = oAl 0 116 := (congrFun teX3_meaningOf 115).trans rfl
theorem tX3_meaningOf_116 : tX3_meaningOf 116 = oGet 3 2 119 := (congrFun teX3_meaningOf 116).trans rfl
theorem tX3_meaningOf_119 : tX3_meaningOf 119 = oCallS mX3_addAll 2 122 := (congrFun teX3_meaningOf 119).trans rfl
theorem tX3_meaningOf_122 : tX3_meaningOf 122 = oGo 169 := (congrFun teX3_meaningOf 122).trans rfl
theorem tX3_meaningOf_125 : tX3_meaningOf 125 = oAl 0 126 := (congrFun teX3_meaningOf 125).trans rfl
theorem tX3_meaningOf_126 : tX3_meaningOf 126 = oIl 2 127 := (congrFun teX3_meaningOf 126).trans rfl
theorem tX3_meaningOf_127 : tX3_meaningOf 127 = oAl 0 128 := (congrFun teX3_meaningOf 127).trans rfl
theorem tX3_meaningOf_128 : tX3_meaningOf 128 = oGet 3 2 131 := (congrFun teX3_meaningOf 128).trans rfl
theorem tX3_meaningOf_131 : tX3_meaningOf 131 = oCallV 3 mX3_load 2 134 := (congrFun teX3_meaningOf 131).trans rfl
theorem tX3_meaningOf_134 : tX3_meaningOf 134 = oAl 0 135 := (congrFun teX3_meaningOf 134).trans rfl
theorem tX3_meaningOf_135 : tX3_meaningOf 135 = oIl 2 136 := (congrFun teX3_meaningOf 135).trans rfl
theorem tX3_meaningOf_136 : tX3_meaningOf 136 = oAl 0 137 := (congrFun teX3_meaningOf 136).trans rfl
theorem tX3_meaningOf_137 : tX3_meaningOf 137 = oGet 3 4 140 := (congrFun teX3_meaningOf 137).trans rfl
theorem tX3_meaningOf_140 : tX3_meaningOf 140 = oCallV 3 mX3_load 2 143 := (congrFun teX3_meaningOf 140).trans rfl
theorem tX3_meaningOf_143 : tX3_meaningOf 143 = oAl 0 144 := (congrFun teX3_meaningOf 143).trans rfl
theorem tX3_meaningOf_144 : tX3_meaningOf 144 = oCallV 3 mX3_repeat 0 147 := (congrFun teX3_meaningOf 144).trans rfl
theorem tX3_meaningOf_147 : tX3_meaningOf 147 = oGo 169 := (congrFun teX3_meaningOf 147).trans rfl
theorem tX3_meaningOf_150 : tX3_meaningOf 150 = oAl 0 151 := (congrFun teX3_meaningOf 150).trans rfl
theorem tX3_meaningOf_151 : tX3_meaningOf 151 = oIl 2 152 := (congrFun teX3_meaningOf 151).trans rfl
theorem tX3_meaningOf_152 : tX3_meaningOf 152 = oAl 0 153 := (congrFun teX3_meaningOf 152).trans rfl
theorem tX3_meaningOf_153 : tX3_meaningOf 153 = oGet 3 2 156 := (congrFun teX3_meaningOf 153).trans rfl
theorem tX3_meaningOf_156 : tX3_meaningOf 156 = oCallV 3 mX3_load 2 159 := (congrFun teX3_meaningOf 156).trans rfl
theorem tX3_meaningOf_159 : tX3_meaningOf 159 = oAl 0 160 := (congrFun teX3_meaningOf 159).trans rfl
theorem tX3_meaningOf_160 : tX3_meaningOf 160 = oGet 3 2 163 := (congrFun teX3_meaningOf 160).trans rfl
theorem tX3_meaningOf_163 : tX3_meaningOf 163 = oK (.int (nI 0)) 164 := (congrFun teX3_meaningOf 163).trans rfl
theorem tX3_meaningOf_164 : tX3_meaningOf 164 = oDup2 165 := (congrFun teX3_meaningOf 164).trans rfl
theorem tX3_meaningOf_165 : tX3_meaningOf 165 = oIald 166 := (congrFun teX3_meaningOf 165).trans rfl
theorem tX3_meaningOf_166 : tX3_meaningOf 166 = oK (.int (nI 1)) 167 := (congrFun teX3_meaningOf 166).trans rfl
theorem tX3_meaningOf_167 : tX3_meaningOf 167 = oOr 168 := (congrFun teX3_meaningOf 167).trans rfl
theorem tX3_meaningOf_168 : tX3_meaningOf 168 = oIast 169 := (congrFun teX3_meaningOf 168).trans rfl
theorem tX3_meaningOf_169 : tX3_meaningOf 169 = oAl 0 170 := (congrFun teX3_meaningOf 169).trans rfl
theorem tX3_meaningOf_170 : tX3_meaningOf 170 = oCallV 3 mX3_keep 0 173 := (congrFun teX3_meaningOf 170).trans rfl
theorem tX3_meaningOf_173 : tX3_meaningOf 173 = oIret := (congrFun teX3_meaningOf 173).trans rfl
def lX3_load : List (Nat × qP) := [(0, oK (.int (nI 0)) 1), (1, oIs 3 2), (2, oIl 3 3), (3, oAl 2 4), (4, oAlen 5), (5, oIf2ge 23 8), (8, oAl 2 9), (9, oIl 3 10), (10, oAl 0 11), (11, oIl 1 12), (12, oIl 3 13), (13, oCallV 3 mX3_wordOf 2 16), (16, oIast 17), (17, oInc 3 (nI 1) 20), (20, oGo 2), (23, oVret)]
def uX3_load : Nat → qP := q_tb lX3_load
set_option maxRecDepth 20000 in
theorem suX3_load : q_Snd mX3_load uX3_load := by
  refine q_tb_ok ?_
  unfold lX3_load
  refine q_fa (ok_iconst (by decide +kernel : decode cX3_load 0 = .ok (.iconst 0, 1)) rfl (by decide +kernel)) ?_
  refine q_fa (ok_istore_n (by decide +kernel : decode cX3_load 1 = .ok (.istore_n 3, 1)) rfl rfl (by decide)) ?_
  refine q_fa (ok_iload_n (by decide +kernel : decode cX3_load 2 = .ok (.iload_n 3, 1)) rfl rfl) ?_
  refine q_fa (ok_aload_n (by decide +kernel : decode cX3_load 3 = .ok (.aload_n 2, 1)) rfl rfl) ?_
  refine q_fa (ok_alen (by decide +kernel : decode cX3_load 4 = .ok (.arraylength, 1)) rfl) ?_
  refine q_fa (ok_if2ge (by decide +kernel : decode cX3_load 5 = .ok (.if_icmp .ge 18, 3)) (by decide) rfl) ?_
  refine q_fa (ok_aload_n (by decide +kernel : decode cX3_load 8 = .ok (.aload_n 2, 1)) rfl rfl) ?_
  refine q_fa (ok_iload_n (by decide +kernel : decode cX3_load 9 = .ok (.iload_n 3, 1)) rfl rfl) ?_
  refine q_fa (ok_aload_n (by decide +kernel : decode cX3_load 10 = .ok (.aload_n 0, 1)) rfl rfl) ?_
  refine q_fa (ok_iload_n (by decide +kernel : decode cX3_load 11 = .ok (.iload_n 1, 1)) rfl rfl) ?_
  refine q_fa (ok_iload_n (by decide +kernel : decode cX3_load 12 = .ok (.iload_n 3, 1)) rfl rfl) ?_
  refine q_fa (ok_callV (by decide +kernel : decode cX3_load 13 = .ok (.invokevirtual 31, 3)) rfl kX3_wordOf.1 kX3_wordOf.2.1 kX3_wordOf.2.2.1 kX3_wordOf.2.2.2.1 kX3_wordOf.2.2.2.2 (rfl : vwCl[3]? = some (RX3, TX3, 6)) g781 gs33 g779) ?_
  refine q_fa (ok_iastore (by decide +kernel : decode cX3_load 16 = .ok (.iastore, 1)) rfl) ?_
  refine q_fa (ok_iinc (by decide +kernel : decode cX3_load 17 = .ok (.iinc 3 1, 3)) rfl (by decide +kernel) (by decide)) ?_
  refine q_fa (ok_goto (by decide +kernel : decode cX3_load 20 = .ok (.goto (-18), 3)) (by decide)) ?_
  refine q_fa (ok_vret (by decide +kernel : decode cX3_load 23 = .ok (.return_, 1)) rfl) ?_
  exact q_fa0
theorem exX3_load : ∃ t : Nat → qP, t = uX3_load := ⟨_, rfl⟩
noncomputable def tX3_load : Nat → qP := Classical.choose exX3_load
theorem teX3_load : tX3_load = uX3_load := Classical.choose_spec exX3_load
theorem sX3_load : q_Snd mX3_load tX3_load := by rw [teX3_load]; exact suX3_load
theorem tX3_load_0 : tX3_load 0 = oK (.int (nI 0)) 1 := (congrFun teX3_load 0).trans rfl
theorem tX3_load_1 : tX3_load 1 = oIs 3 2 := (congrFun teX3_load 1).trans rfl
theorem tX3_load_2 : tX3_load 2 = oIl 3 3 := (congrFun teX3_load 2).trans rfl
theorem tX3_load_3 : tX3_load 3 = oAl 2 4 := (congrFun teX3_load 3).trans rfl
theorem tX3_load_4 : tX3_load 4 = oAlen 5 := (congrFun teX3_load 4).trans rfl
theorem tX3_load_5 : tX3_load 5 = oIf2ge 23 8 := (congrFun teX3_load 5).trans rfl
theorem tX3_load_8 : tX3_load 8 = oAl 2 9 := (congrFun teX3_load 8).trans rfl
theorem tX3_load_9 : tX3_load 9 = oIl 3 10 := (congrFun teX3_load 9).trans rfl
theorem tX3_load_10 : tX3_load 10 = oAl 0 11 := (congrFun teX3_load 10).trans rfl
theorem tX3_load_11 : tX3_load 11 = oIl 1 12 := (congrFun teX3_load 11).trans rfl
theorem tX3_load_12 : tX3_load 12 = oIl 3 13 := (congrFun teX3_load 12).trans rfl
theorem tX3_load_13 : tX3_load 13 = oCallV 3 mX3_wordOf 2 16 := (congrFun teX3_load 13).trans rfl
theorem tX3_load_16 : tX3_load 16 = oIast 17 := (congrFun teX3_load 16).trans rfl
theorem tX3_load_17 : tX3_load 17 = oInc 3 (nI 1) 20 := (congrFun teX3_load 17).trans rfl
theorem tX3_load_20 : tX3_load 20 = oGo 2 := (congrFun teX3_load 20).trans rfl
theorem tX3_load_23 : tX3_load 23 = oVret := (congrFun teX3_load 23).trans rfl
def lX3_addAll : List (Nat × qP) := [(0, oK (.int (nI 0)) 1), (1, oIs 2 2), (2, oIl 2 3), (3, oAl 0 4), (4, oAlen 5), (5, oIf2ge 29 8), (8, oIl 2 9), (9, oAl 1 10), (10, oAlen 11), (11, oIf2ge 29 14), (14, oAl 1 15), (15, oIl 2 16), (16, oDup2 17), (17, oIald 18), (18, oAl 0 19), (19, oIl 2 20), (20, oIald 21), (21, oOr 22), (22, oIast 23), (23, oInc 2 (nI 1) 26), (26, oGo 2), (29, oVret)]
def uX3_addAll : Nat → qP := q_tb lX3_addAll
set_option maxRecDepth 20000 in
theorem suX3_addAll : q_Snd mX3_addAll uX3_addAll := by
  refine q_tb_ok ?_
  unfold lX3_addAll
  refine q_fa (ok_iconst (by decide +kernel : decode cX3_addAll 0 = .ok (.iconst 0, 1)) rfl (by decide +kernel)) ?_
  refine q_fa (ok_istore_n (by decide +kernel : decode cX3_addAll 1 = .ok (.istore_n 2, 1)) rfl rfl (by decide)) ?_
  refine q_fa (ok_iload_n (by decide +kernel : decode cX3_addAll 2 = .ok (.iload_n 2, 1)) rfl rfl) ?_
  refine q_fa (ok_aload_n (by decide +kernel : decode cX3_addAll 3 = .ok (.aload_n 0, 1)) rfl rfl) ?_
  refine q_fa (ok_alen (by decide +kernel : decode cX3_addAll 4 = .ok (.arraylength, 1)) rfl) ?_
  refine q_fa (ok_if2ge (by decide +kernel : decode cX3_addAll 5 = .ok (.if_icmp .ge 24, 3)) (by decide) rfl) ?_
  refine q_fa (ok_iload_n (by decide +kernel : decode cX3_addAll 8 = .ok (.iload_n 2, 1)) rfl rfl) ?_
  refine q_fa (ok_aload_n (by decide +kernel : decode cX3_addAll 9 = .ok (.aload_n 1, 1)) rfl rfl) ?_
  refine q_fa (ok_alen (by decide +kernel : decode cX3_addAll 10 = .ok (.arraylength, 1)) rfl) ?_
  refine q_fa (ok_if2ge (by decide +kernel : decode cX3_addAll 11 = .ok (.if_icmp .ge 18, 3)) (by decide) rfl) ?_
  refine q_fa (ok_aload_n (by decide +kernel : decode cX3_addAll 14 = .ok (.aload_n 1, 1)) rfl rfl) ?_
  refine q_fa (ok_iload_n (by decide +kernel : decode cX3_addAll 15 = .ok (.iload_n 2, 1)) rfl rfl) ?_
  refine q_fa (ok_dup2 (by decide +kernel : decode cX3_addAll 16 = .ok (.dup2, 1)) rfl) ?_
  refine q_fa (ok_iaload (by decide +kernel : decode cX3_addAll 17 = .ok (.iaload, 1)) rfl) ?_
  refine q_fa (ok_aload_n (by decide +kernel : decode cX3_addAll 18 = .ok (.aload_n 0, 1)) rfl rfl) ?_
  refine q_fa (ok_iload_n (by decide +kernel : decode cX3_addAll 19 = .ok (.iload_n 2, 1)) rfl rfl) ?_
  refine q_fa (ok_iaload (by decide +kernel : decode cX3_addAll 20 = .ok (.iaload, 1)) rfl) ?_
  refine q_fa (ok_ior (by decide +kernel : decode cX3_addAll 21 = .ok (.ior, 1)) rfl) ?_
  refine q_fa (ok_iastore (by decide +kernel : decode cX3_addAll 22 = .ok (.iastore, 1)) rfl) ?_
  refine q_fa (ok_iinc (by decide +kernel : decode cX3_addAll 23 = .ok (.iinc 2 1, 3)) rfl (by decide +kernel) (by decide)) ?_
  refine q_fa (ok_goto (by decide +kernel : decode cX3_addAll 26 = .ok (.goto (-24), 3)) (by decide)) ?_
  refine q_fa (ok_vret (by decide +kernel : decode cX3_addAll 29 = .ok (.return_, 1)) rfl) ?_
  exact q_fa0
theorem exX3_addAll : ∃ t : Nat → qP, t = uX3_addAll := ⟨_, rfl⟩
noncomputable def tX3_addAll : Nat → qP := Classical.choose exX3_addAll
theorem teX3_addAll : tX3_addAll = uX3_addAll := Classical.choose_spec exX3_addAll
theorem sX3_addAll : q_Snd mX3_addAll tX3_addAll := by rw [teX3_addAll]; exact suX3_addAll
theorem tX3_addAll_0 : tX3_addAll 0 = oK (.int (nI 0)) 1 := (congrFun teX3_addAll 0).trans rfl
theorem tX3_addAll_1 : tX3_addAll 1 = oIs 2 2 := (congrFun teX3_addAll 1).trans rfl
theorem tX3_addAll_2 : tX3_addAll 2 = oIl 2 3 := (congrFun teX3_addAll 2).trans rfl
theorem tX3_addAll_3 : tX3_addAll 3 = oAl 0 4 := (congrFun teX3_addAll 3).trans rfl
theorem tX3_addAll_4 : tX3_addAll 4 = oAlen 5 := (congrFun teX3_addAll 4).trans rfl
theorem tX3_addAll_5 : tX3_addAll 5 = oIf2ge 29 8 := (congrFun teX3_addAll 5).trans rfl
theorem tX3_addAll_8 : tX3_addAll 8 = oIl 2 9 := (congrFun teX3_addAll 8).trans rfl
theorem tX3_addAll_9 : tX3_addAll 9 = oAl 1 10 := (congrFun teX3_addAll 9).trans rfl
theorem tX3_addAll_10 : tX3_addAll 10 = oAlen 11 := (congrFun teX3_addAll 10).trans rfl
theorem tX3_addAll_11 : tX3_addAll 11 = oIf2ge 29 14 := (congrFun teX3_addAll 11).trans rfl
theorem tX3_addAll_14 : tX3_addAll 14 = oAl 1 15 := (congrFun teX3_addAll 14).trans rfl
theorem tX3_addAll_15 : tX3_addAll 15 = oIl 2 16 := (congrFun teX3_addAll 15).trans rfl
theorem tX3_addAll_16 : tX3_addAll 16 = oDup2 17 := (congrFun teX3_addAll 16).trans rfl
theorem tX3_addAll_17 : tX3_addAll 17 = oIald 18 := (congrFun teX3_addAll 17).trans rfl
theorem tX3_addAll_18 : tX3_addAll 18 = oAl 0 19 := (congrFun teX3_addAll 18).trans rfl
theorem tX3_addAll_19 : tX3_addAll 19 = oIl 2 20 := (congrFun teX3_addAll 19).trans rfl
theorem tX3_addAll_20 : tX3_addAll 20 = oIald 21 := (congrFun teX3_addAll 20).trans rfl
theorem tX3_addAll_21 : tX3_addAll 21 = oOr 22 := (congrFun teX3_addAll 21).trans rfl
theorem tX3_addAll_22 : tX3_addAll 22 = oIast 23 := (congrFun teX3_addAll 22).trans rfl
theorem tX3_addAll_23 : tX3_addAll 23 = oInc 2 (nI 1) 26 := (congrFun teX3_addAll 23).trans rfl
theorem tX3_addAll_26 : tX3_addAll 26 = oGo 2 := (congrFun teX3_addAll 26).trans rfl
theorem tX3_addAll_29 : tX3_addAll 29 = oVret := (congrFun teX3_addAll 29).trans rfl
def lX3_repeat : List (Nat × qP) := [(0, oK (.int (nI 0)) 1), (1, oIs 1 2), (2, oIl 1 3), (3, oK (.int (nI 3)) 4), (4, oIf2ge 31 7), (7, oAl 0 8), (8, oGet 3 2 11), (11, oK (.int (nI 0)) 12), (12, oAl 0 13), (13, oGet 3 3 16), (16, oK (.int (nI 0)) 17), (17, oK (.int (nI 5)) 18), (18, oCpy 21), (21, oAl 0 22), (22, oCallV 3 mX3_addJoined 0 25), (25, oInc 1 (nI 1) 28), (28, oGo 2), (31, oVret)]
def uX3_repeat : Nat → qP := q_tb lX3_repeat
set_option maxRecDepth 20000 in
theorem suX3_repeat : q_Snd mX3_repeat uX3_repeat := by
  refine q_tb_ok ?_
  unfold lX3_repeat
  refine q_fa (ok_iconst (by decide +kernel : decode cX3_repeat 0 = .ok (.iconst 0, 1)) rfl (by decide +kernel)) ?_
  refine q_fa (ok_istore_n (by decide +kernel : decode cX3_repeat 1 = .ok (.istore_n 1, 1)) rfl rfl (by decide)) ?_
  refine q_fa (ok_iload_n (by decide +kernel : decode cX3_repeat 2 = .ok (.iload_n 1, 1)) rfl rfl) ?_
  refine q_fa (ok_iconst (by decide +kernel : decode cX3_repeat 3 = .ok (.iconst 3, 1)) rfl (by decide +kernel)) ?_
  refine q_fa (ok_if2ge (by decide +kernel : decode cX3_repeat 4 = .ok (.if_icmp .ge 27, 3)) (by decide) rfl) ?_
  refine q_fa (ok_aload_n (by decide +kernel : decode cX3_repeat 7 = .ok (.aload_n 0, 1)) rfl rfl) ?_
  refine q_fa (ok_get (by decide +kernel : decode cX3_repeat 8 = .ok (.getfield 18, 3)) rfl (rfl : vwCl[3]? = some (RX3, TX3, 6)) inX3 (by decide) g744) ?_
  refine q_fa (ok_iconst (by decide +kernel : decode cX3_repeat 11 = .ok (.iconst 0, 1)) rfl (by decide +kernel)) ?_
  refine q_fa (ok_aload_n (by decide +kernel : decode cX3_repeat 12 = .ok (.aload_n 0, 1)) rfl rfl) ?_
  refine q_fa (ok_get (by decide +kernel : decode cX3_repeat 13 = .ok (.getfield 21, 3)) rfl (rfl : vwCl[3]? = some (RX3, TX3, 6)) inX3 (by decide) g745) ?_
  refine q_fa (ok_iconst (by decide +kernel : decode cX3_repeat 16 = .ok (.iconst 0, 1)) rfl (by decide +kernel)) ?_
  refine q_fa (ok_iconst (by decide +kernel : decode cX3_repeat 17 = .ok (.iconst 5, 1)) rfl (by decide +kernel)) ?_
  refine q_fa (ok_cpy (by decide +kernel : decode cX3_repeat 18 = .ok (.invokestatic 59, 3)) rfl g794 g796 g795 g16) ?_
  refine q_fa (ok_aload_n (by decide +kernel : decode cX3_repeat 21 = .ok (.aload_n 0, 1)) rfl rfl) ?_
  refine q_fa (ok_callV (by decide +kernel : decode cX3_repeat 22 = .ok (.invokevirtual 45, 3)) rfl kX3_addJoined.1 kX3_addJoined.2.1 kX3_addJoined.2.2.1 kX3_addJoined.2.2.2.1 kX3_addJoined.2.2.2.2 (rfl : vwCl[3]? = some (RX3, TX3, 6)) g785 gs34 g783) ?_
  refine q_fa (ok_iinc (by decide +kernel : decode cX3_repeat 25 = .ok (.iinc 1 1, 3)) rfl (by decide +kernel) (by decide)) ?_
  refine q_fa (ok_goto (by decide +kernel : decode cX3_repeat 28 = .ok (.goto (-26), 3)) (by decide)) ?_
  refine q_fa (ok_vret (by decide +kernel : decode cX3_repeat 31 = .ok (.return_, 1)) rfl) ?_
  exact q_fa0
theorem exX3_repeat : ∃ t : Nat → qP, t = uX3_repeat := ⟨_, rfl⟩
noncomputable def tX3_repeat : Nat → qP := Classical.choose exX3_repeat
theorem teX3_repeat : tX3_repeat = uX3_repeat := Classical.choose_spec exX3_repeat
theorem sX3_repeat : q_Snd mX3_repeat tX3_repeat := by rw [teX3_repeat]; exact suX3_repeat
theorem tX3_repeat_0 : tX3_repeat 0 = oK (.int (nI 0)) 1 := (congrFun teX3_repeat 0).trans rfl
theorem tX3_repeat_1 : tX3_repeat 1 = oIs 1 2 := (congrFun teX3_repeat 1).trans rfl
theorem tX3_repeat_2 : tX3_repeat 2 = oIl 1 3 := (congrFun teX3_repeat 2).trans rfl
theorem tX3_repeat_3 : tX3_repeat 3 = oK (.int (nI 3)) 4 := (congrFun teX3_repeat 3).trans rfl
theorem tX3_repeat_4 : tX3_repeat 4 = oIf2ge 31 7 := (congrFun teX3_repeat 4).trans rfl
theorem tX3_repeat_7 : tX3_repeat 7 = oAl 0 8 := (congrFun teX3_repeat 7).trans rfl
theorem tX3_repeat_8 : tX3_repeat 8 = oGet 3 2 11 := (congrFun teX3_repeat 8).trans rfl
theorem tX3_repeat_11 : tX3_repeat 11 = oK (.int (nI 0)) 12 := (congrFun teX3_repeat 11).trans rfl
theorem tX3_repeat_12 : tX3_repeat 12 = oAl 0 13 := (congrFun teX3_repeat 12).trans rfl
theorem tX3_repeat_13 : tX3_repeat 13 = oGet 3 3 16 := (congrFun teX3_repeat 13).trans rfl
theorem tX3_repeat_16 : tX3_repeat 16 = oK (.int (nI 0)) 17 := (congrFun teX3_repeat 16).trans rfl
theorem tX3_repeat_17 : tX3_repeat 17 = oK (.int (nI 5)) 18 := (congrFun teX3_repeat 17).trans rfl
theorem tX3_repeat_18 : tX3_repeat 18 = oCpy 21 := (congrFun teX3_repeat 18).trans rfl
theorem tX3_repeat_21 : tX3_repeat 21 = oAl 0 22 := (congrFun teX3_repeat 21).trans rfl
theorem tX3_repeat_22 : tX3_repeat 22 = oCallV 3 mX3_addJoined 0 25 := (congrFun teX3_repeat 22).trans rfl
theorem tX3_repeat_25 : tX3_repeat 25 = oInc 1 (nI 1) 28 := (congrFun teX3_repeat 25).trans rfl
theorem tX3_repeat_28 : tX3_repeat 28 = oGo 2 := (congrFun teX3_repeat 28).trans rfl
theorem tX3_repeat_31 : tX3_repeat 31 = oVret := (congrFun teX3_repeat 31).trans rfl
def lX3_addJoined : List (Nat × qP) := [(0, oAl 0 1), (1, oGet 3 3 4), (4, oK (.int (nI 0)) 5), (5, oIald 6), (6, oK (.int (nI 1)) 7), (7, oAnd 8), (8, oK (.int (nI 1)) 9), (9, oIf2ne 23 12), (12, oAl 0 13), (13, oGet 3 4 16), (16, oAl 0 17), (17, oGet 3 2 20), (20, oCallS mX3_addAll 2 23), (23, oAl 0 24), (24, oGet 3 4 27), (27, oK (.int (nI 0)) 28), (28, oIald 29), (29, oK (.int (nI 1)) 30), (30, oAnd 31), (31, oK (.int (nI 1)) 32), (32, oIf2ne 46 35), (35, oAl 0 36), (36, oGet 3 3 39), (39, oAl 0 40), (40, oGet 3 2 43), (43, oCallS mX3_addAll 2 46), (46, oAl 0 47), (47, oGet 3 4 50), (50, oK (.int (nI 0)) 51), (51, oIald 52), (52, oK (.int (nI 1)) 53), (53, oShr 54), (54, oK (.int (nI 7)) 56), (56, oAnd 57), (57, oIs 1 58), (58, oAl 0 59), (59, oGet 3 4 62), (62, oK (.int (nI 0)) 63), (63, oIald 64), (64, oK (.int (nI 4)) 65), (65, oShr 66), (66, oK (.int (nI 511)) 69), (69, oAnd 70), (70, oIs 2 71), (71, oK (.int (nI 0)) 72), (72, oIs 3 73), (73, oIl 3 74), (74, oK (.int (nI 3)) 75), (75, oIf2ge 148 78), (78, oAl 0 79), (79, oGet 3 3 82), (82, oK (.int (nI 0)) 83), (83, oIald 84), (84, oK (.int (nI 1)) 85), (85, oIl 3 86), (86, oAdd 87), (87, oShr 88), (88, oK (.int (nI 1)) 89), (89, oAnd 90), (90, oK (.int (nI 1)) 91), (91, oIf2ne 142 94), (94, oAl 0 95), (95, oGet 3 2 98), (98, oK (.int (nI 0)) 99), (99, oDup2 100), (100, oIald 101), (101, oIl 1 102), (102, oK (.int (nI 4)) 103), (103, oK (.int (nI 3)) 104), (104, oIl 3 105), (105, oMul 106), (106, oAdd 107), (107, oShl 108), (108, oOr 109), (109, oIast 110), (110, oAl 0 111), (111, oGet 3 2 114), (114, oK (.int (nI 1)) 115), (115, oDup2 116), (116, oIald 117), (117, oIl 2 118), (118, oK (.int (nI 9)) 120), (120, oIl 3 121), (121, oMul 122), (122, oShl 123), (123, oOr 124), (124, oIast 125), (125, oAl 0 126), (126, oGet 3 2 129), (129, oK (.int (nI 2)) 130), (130, oIl 3 131), (131, oAdd 132), (132, oDup2 133), (133, oIald 134), (134, oAl 0 135), (135, oGet 3 4 138), (138, oK (.int (nI 1)) 139), (139, oIald 140), (140, oOr 141), (141, oIast 142), (142, oInc 3 (nI 1) 145), (145, oGo 73), (148, oK (.int (nI 0)) 149), (149, oIs 3 150), (150, oIl 3 151), (151, oK (.int (nI 9)) 153), (153, oIf2ge 213 156), (156, oAl 0 157), (157, oGet 3 3 160), (160, oK (.int (nI 0)) 161), (161, oIald 162), (162, oK (.int (nI 4)) 163), (163, oIl 3 164), (164, oAdd 165), (165, oShr 166), (166, oK (.int (nI 1)) 167), (167, oAnd 168), (168, oK (.int (nI 1)) 169), (169, oIf2ne 207 172), (172, oAl 0 173), (173, oGet 3 2 176), (176, oK (.int (nI 1)) 177), (177, oDup2 178), (178, oIald 179), (179, oIl 1 180), (180, oK (.int (nI 3)) 181), (181, oIl 3 182), (182, oMul 183), (183, oShl 184), (184, oOr 185), (185, oIast 186), (186, oAl 0 187), (187, oGet 3 2 190), (190, oK (.int (nI 2)) 191), (191, oIl 3 192), (192, oK (.int (nI 3)) 193), (193, oDiv 194), (194, oAdd 195), (195, oDup2 196), (196, oIald 197), (197, oIl 2 198), (198, oK (.int (nI 9)) 200), (200, oIl 3 201), (201, oK (.int (nI 3)) 202), (202, oRem 203), (203, oMul 204), (204, oShl 205), (205, oOr 206), (206, oIast 207), (207, oInc 3 (nI 1) 210), (210, oGo 150), (213, oK (.int (nI 0)) 214), (214, oIs 3 215), (215, oIl 3 216), (216, oK (.int (nI 27)) 218), (218, oIf2ge 263 221), (221, oAl 0 222), (222, oGet 3 3 225), (225, oK (.int (nI 1)) 226), (226, oIald 227), (227, oIl 3 228), (228, oShr 229), (229, oK (.int (nI 1)) 230), (230, oAnd 231), (231, oK (.int (nI 1)) 232), (232, oIf2ne 257 235), (235, oAl 0 236), (236, oGet 3 2 239), (239, oK (.int (nI 2)) 240), (240, oIl 3 241), (241, oK (.int (nI 9)) 243), (243, oDiv 244), (244, oAdd 245), (245, oDup2 246), (246, oIald 247), (247, oIl 1 248), (248, oK (.int (nI 3)) 249), (249, oIl 3 250), (250, oK (.int (nI 9)) 252), (252, oRem 253), (253, oMul 254), (254, oShl 255), (255, oOr 256), (256, oIast 257), (257, oInc 3 (nI 1) 260), (260, oGo 215), (263, oVret)]
def uX3_addJoined : Nat → qP := q_tb lX3_addJoined
set_option maxRecDepth 20000 in
theorem suX3_addJoined : q_Snd mX3_addJoined uX3_addJoined := by
  refine q_tb_ok ?_
  unfold lX3_addJoined
  refine q_fa (ok_aload_n (by decide +kernel : decode cX3_addJoined 0 = .ok (.aload_n 0, 1)) rfl rfl) ?_
  refine q_fa (ok_get (by decide +kernel : decode cX3_addJoined 1 = .ok (.getfield 21, 3)) rfl (rfl : vwCl[3]? = some (RX3, TX3, 6)) inX3 (by decide) g745) ?_
  refine q_fa (ok_iconst (by decide +kernel : decode cX3_addJoined 4 = .ok (.iconst 0, 1)) rfl (by decide +kernel)) ?_
  refine q_fa (ok_iaload (by decide +kernel : decode cX3_addJoined 5 = .ok (.iaload, 1)) rfl) ?_
  refine q_fa (ok_iconst (by decide +kernel : decode cX3_addJoined 6 = .ok (.iconst 1, 1)) rfl (by decide +kernel)) ?_
  refine q_fa (ok_iand (by decide +kernel : decode cX3_addJoined 7 = .ok (.iand, 1)) rfl) ?_
  refine q_fa (ok_iconst (by decide +kernel : decode cX3_addJoined 8 = .ok (.iconst 1, 1)) rfl (by decide +kernel)) ?_
  refine q_fa (ok_if2ne (by decide +kernel : decode cX3_addJoined 9 = .ok (.if_icmp .ne 14, 3)) (by decide) rfl) ?_
  refine q_fa (ok_aload_n (by decide +kernel : decode cX3_addJoined 12 = .ok (.aload_n 0, 1)) rfl rfl) ?_
  refine q_fa (ok_get (by decide +kernel : decode cX3_addJoined 13 = .ok (.getfield 24, 3)) rfl (rfl : vwCl[3]? = some (RX3, TX3, 6)) inX3 (by decide) g746) ?_
  refine q_fa (ok_aload_n (by decide +kernel : decode cX3_addJoined 16 = .ok (.aload_n 0, 1)) rfl rfl) ?_
  refine q_fa (ok_get (by decide +kernel : decode cX3_addJoined 17 = .ok (.getfield 18, 3)) rfl (rfl : vwCl[3]? = some (RX3, TX3, 6)) inX3 (by decide) g744) ?_
  refine q_fa (ok_callS (by decide +kernel : decode cX3_addJoined 20 = .ok (.invokestatic 48, 3)) rfl kX3_addAll.1 kX3_addAll.2.1 kX3_addAll.2.2.1 kX3_addAll.2.2.2.1 kX3_addAll.2.2.2.2 g788 g787) ?_
  refine q_fa (ok_aload_n (by decide +kernel : decode cX3_addJoined 23 = .ok (.aload_n 0, 1)) rfl rfl) ?_
  refine q_fa (ok_get (by decide +kernel : decode cX3_addJoined 24 = .ok (.getfield 24, 3)) rfl (rfl : vwCl[3]? = some (RX3, TX3, 6)) inX3 (by decide) g746) ?_
  refine q_fa (ok_iconst (by decide +kernel : decode cX3_addJoined 27 = .ok (.iconst 0, 1)) rfl (by decide +kernel)) ?_
  refine q_fa (ok_iaload (by decide +kernel : decode cX3_addJoined 28 = .ok (.iaload, 1)) rfl) ?_
  refine q_fa (ok_iconst (by decide +kernel : decode cX3_addJoined 29 = .ok (.iconst 1, 1)) rfl (by decide +kernel)) ?_
  refine q_fa (ok_iand (by decide +kernel : decode cX3_addJoined 30 = .ok (.iand, 1)) rfl) ?_
  refine q_fa (ok_iconst (by decide +kernel : decode cX3_addJoined 31 = .ok (.iconst 1, 1)) rfl (by decide +kernel)) ?_
  refine q_fa (ok_if2ne (by decide +kernel : decode cX3_addJoined 32 = .ok (.if_icmp .ne 14, 3)) (by decide) rfl) ?_
  refine q_fa (ok_aload_n (by decide +kernel : decode cX3_addJoined 35 = .ok (.aload_n 0, 1)) rfl rfl) ?_
  refine q_fa (ok_get (by decide +kernel : decode cX3_addJoined 36 = .ok (.getfield 21, 3)) rfl (rfl : vwCl[3]? = some (RX3, TX3, 6)) inX3 (by decide) g745) ?_
  refine q_fa (ok_aload_n (by decide +kernel : decode cX3_addJoined 39 = .ok (.aload_n 0, 1)) rfl rfl) ?_
  refine q_fa (ok_get (by decide +kernel : decode cX3_addJoined 40 = .ok (.getfield 18, 3)) rfl (rfl : vwCl[3]? = some (RX3, TX3, 6)) inX3 (by decide) g744) ?_
  refine q_fa (ok_callS (by decide +kernel : decode cX3_addJoined 43 = .ok (.invokestatic 48, 3)) rfl kX3_addAll.1 kX3_addAll.2.1 kX3_addAll.2.2.1 kX3_addAll.2.2.2.1 kX3_addAll.2.2.2.2 g788 g787) ?_
  refine q_fa (ok_aload_n (by decide +kernel : decode cX3_addJoined 46 = .ok (.aload_n 0, 1)) rfl rfl) ?_
  refine q_fa (ok_get (by decide +kernel : decode cX3_addJoined 47 = .ok (.getfield 24, 3)) rfl (rfl : vwCl[3]? = some (RX3, TX3, 6)) inX3 (by decide) g746) ?_
  refine q_fa (ok_iconst (by decide +kernel : decode cX3_addJoined 50 = .ok (.iconst 0, 1)) rfl (by decide +kernel)) ?_
  refine q_fa (ok_iaload (by decide +kernel : decode cX3_addJoined 51 = .ok (.iaload, 1)) rfl) ?_
  refine q_fa (ok_iconst (by decide +kernel : decode cX3_addJoined 52 = .ok (.iconst 1, 1)) rfl (by decide +kernel)) ?_
  refine q_fa (ok_ishr (by decide +kernel : decode cX3_addJoined 53 = .ok (.ishr, 1)) rfl) ?_
  refine q_fa (ok_bipush (by decide +kernel : decode cX3_addJoined 54 = .ok (.bipush 7, 2)) rfl (by decide +kernel)) ?_
  refine q_fa (ok_iand (by decide +kernel : decode cX3_addJoined 56 = .ok (.iand, 1)) rfl) ?_
  refine q_fa (ok_istore_n (by decide +kernel : decode cX3_addJoined 57 = .ok (.istore_n 1, 1)) rfl rfl (by decide)) ?_
  refine q_fa (ok_aload_n (by decide +kernel : decode cX3_addJoined 58 = .ok (.aload_n 0, 1)) rfl rfl) ?_
  refine q_fa (ok_get (by decide +kernel : decode cX3_addJoined 59 = .ok (.getfield 24, 3)) rfl (rfl : vwCl[3]? = some (RX3, TX3, 6)) inX3 (by decide) g746) ?_
  refine q_fa (ok_iconst (by decide +kernel : decode cX3_addJoined 62 = .ok (.iconst 0, 1)) rfl (by decide +kernel)) ?_
  refine q_fa (ok_iaload (by decide +kernel : decode cX3_addJoined 63 = .ok (.iaload, 1)) rfl) ?_
  refine q_fa (ok_iconst (by decide +kernel : decode cX3_addJoined 64 = .ok (.iconst 4, 1)) rfl (by decide +kernel)) ?_
  refine q_fa (ok_ishr (by decide +kernel : decode cX3_addJoined 65 = .ok (.ishr, 1)) rfl) ?_
  refine q_fa (ok_sipush (by decide +kernel : decode cX3_addJoined 66 = .ok (.sipush 511, 3)) rfl (by decide +kernel)) ?_
  refine q_fa (ok_iand (by decide +kernel : decode cX3_addJoined 69 = .ok (.iand, 1)) rfl) ?_
  refine q_fa (ok_istore_n (by decide +kernel : decode cX3_addJoined 70 = .ok (.istore_n 2, 1)) rfl rfl (by decide)) ?_
  refine q_fa (ok_iconst (by decide +kernel : decode cX3_addJoined 71 = .ok (.iconst 0, 1)) rfl (by decide +kernel)) ?_
  refine q_fa (ok_istore_n (by decide +kernel : decode cX3_addJoined 72 = .ok (.istore_n 3, 1)) rfl rfl (by decide)) ?_
  refine q_fa (ok_iload_n (by decide +kernel : decode cX3_addJoined 73 = .ok (.iload_n 3, 1)) rfl rfl) ?_
  refine q_fa (ok_iconst (by decide +kernel : decode cX3_addJoined 74 = .ok (.iconst 3, 1)) rfl (by decide +kernel)) ?_
  refine q_fa (ok_if2ge (by decide +kernel : decode cX3_addJoined 75 = .ok (.if_icmp .ge 73, 3)) (by decide) rfl) ?_
  refine q_fa (ok_aload_n (by decide +kernel : decode cX3_addJoined 78 = .ok (.aload_n 0, 1)) rfl rfl) ?_
  refine q_fa (ok_get (by decide +kernel : decode cX3_addJoined 79 = .ok (.getfield 21, 3)) rfl (rfl : vwCl[3]? = some (RX3, TX3, 6)) inX3 (by decide) g745) ?_
  refine q_fa (ok_iconst (by decide +kernel : decode cX3_addJoined 82 = .ok (.iconst 0, 1)) rfl (by decide +kernel)) ?_
  refine q_fa (ok_iaload (by decide +kernel : decode cX3_addJoined 83 = .ok (.iaload, 1)) rfl) ?_
  refine q_fa (ok_iconst (by decide +kernel : decode cX3_addJoined 84 = .ok (.iconst 1, 1)) rfl (by decide +kernel)) ?_
  refine q_fa (ok_iload_n (by decide +kernel : decode cX3_addJoined 85 = .ok (.iload_n 3, 1)) rfl rfl) ?_
  refine q_fa (ok_iadd (by decide +kernel : decode cX3_addJoined 86 = .ok (.iadd, 1)) rfl) ?_
  refine q_fa (ok_ishr (by decide +kernel : decode cX3_addJoined 87 = .ok (.ishr, 1)) rfl) ?_
  refine q_fa (ok_iconst (by decide +kernel : decode cX3_addJoined 88 = .ok (.iconst 1, 1)) rfl (by decide +kernel)) ?_
  refine q_fa (ok_iand (by decide +kernel : decode cX3_addJoined 89 = .ok (.iand, 1)) rfl) ?_
  refine q_fa (ok_iconst (by decide +kernel : decode cX3_addJoined 90 = .ok (.iconst 1, 1)) rfl (by decide +kernel)) ?_
  refine q_fa (ok_if2ne (by decide +kernel : decode cX3_addJoined 91 = .ok (.if_icmp .ne 51, 3)) (by decide) rfl) ?_
  refine q_fa (ok_aload_n (by decide +kernel : decode cX3_addJoined 94 = .ok (.aload_n 0, 1)) rfl rfl) ?_
  refine q_fa (ok_get (by decide +kernel : decode cX3_addJoined 95 = .ok (.getfield 18, 3)) rfl (rfl : vwCl[3]? = some (RX3, TX3, 6)) inX3 (by decide) g744) ?_
  refine q_fa (ok_iconst (by decide +kernel : decode cX3_addJoined 98 = .ok (.iconst 0, 1)) rfl (by decide +kernel)) ?_
  refine q_fa (ok_dup2 (by decide +kernel : decode cX3_addJoined 99 = .ok (.dup2, 1)) rfl) ?_
  refine q_fa (ok_iaload (by decide +kernel : decode cX3_addJoined 100 = .ok (.iaload, 1)) rfl) ?_
  refine q_fa (ok_iload_n (by decide +kernel : decode cX3_addJoined 101 = .ok (.iload_n 1, 1)) rfl rfl) ?_
  refine q_fa (ok_iconst (by decide +kernel : decode cX3_addJoined 102 = .ok (.iconst 4, 1)) rfl (by decide +kernel)) ?_
  refine q_fa (ok_iconst (by decide +kernel : decode cX3_addJoined 103 = .ok (.iconst 3, 1)) rfl (by decide +kernel)) ?_
  refine q_fa (ok_iload_n (by decide +kernel : decode cX3_addJoined 104 = .ok (.iload_n 3, 1)) rfl rfl) ?_
  refine q_fa (ok_imul (by decide +kernel : decode cX3_addJoined 105 = .ok (.imul, 1)) rfl) ?_
  refine q_fa (ok_iadd (by decide +kernel : decode cX3_addJoined 106 = .ok (.iadd, 1)) rfl) ?_
  refine q_fa (ok_ishl (by decide +kernel : decode cX3_addJoined 107 = .ok (.ishl, 1)) rfl) ?_
  refine q_fa (ok_ior (by decide +kernel : decode cX3_addJoined 108 = .ok (.ior, 1)) rfl) ?_
  refine q_fa (ok_iastore (by decide +kernel : decode cX3_addJoined 109 = .ok (.iastore, 1)) rfl) ?_
  refine q_fa (ok_aload_n (by decide +kernel : decode cX3_addJoined 110 = .ok (.aload_n 0, 1)) rfl rfl) ?_
  refine q_fa (ok_get (by decide +kernel : decode cX3_addJoined 111 = .ok (.getfield 18, 3)) rfl (rfl : vwCl[3]? = some (RX3, TX3, 6)) inX3 (by decide) g744) ?_
  refine q_fa (ok_iconst (by decide +kernel : decode cX3_addJoined 114 = .ok (.iconst 1, 1)) rfl (by decide +kernel)) ?_
  refine q_fa (ok_dup2 (by decide +kernel : decode cX3_addJoined 115 = .ok (.dup2, 1)) rfl) ?_
  refine q_fa (ok_iaload (by decide +kernel : decode cX3_addJoined 116 = .ok (.iaload, 1)) rfl) ?_
  refine q_fa (ok_iload_n (by decide +kernel : decode cX3_addJoined 117 = .ok (.iload_n 2, 1)) rfl rfl) ?_
  refine q_fa (ok_bipush (by decide +kernel : decode cX3_addJoined 118 = .ok (.bipush 9, 2)) rfl (by decide +kernel)) ?_
  refine q_fa (ok_iload_n (by decide +kernel : decode cX3_addJoined 120 = .ok (.iload_n 3, 1)) rfl rfl) ?_
  refine q_fa (ok_imul (by decide +kernel : decode cX3_addJoined 121 = .ok (.imul, 1)) rfl) ?_
  refine q_fa (ok_ishl (by decide +kernel : decode cX3_addJoined 122 = .ok (.ishl, 1)) rfl) ?_
  refine q_fa (ok_ior (by decide +kernel : decode cX3_addJoined 123 = .ok (.ior, 1)) rfl) ?_
  refine q_fa (ok_iastore (by decide +kernel : decode cX3_addJoined 124 = .ok (.iastore, 1)) rfl) ?_
  refine q_fa (ok_aload_n (by decide +kernel : decode cX3_addJoined 125 = .ok (.aload_n 0, 1)) rfl rfl) ?_
  refine q_fa (ok_get (by decide +kernel : decode cX3_addJoined 126 = .ok (.getfield 18, 3)) rfl (rfl : vwCl[3]? = some (RX3, TX3, 6)) inX3 (by decide) g744) ?_
  refine q_fa (ok_iconst (by decide +kernel : decode cX3_addJoined 129 = .ok (.iconst 2, 1)) rfl (by decide +kernel)) ?_
  refine q_fa (ok_iload_n (by decide +kernel : decode cX3_addJoined 130 = .ok (.iload_n 3, 1)) rfl rfl) ?_
  refine q_fa (ok_iadd (by decide +kernel : decode cX3_addJoined 131 = .ok (.iadd, 1)) rfl) ?_
  refine q_fa (ok_dup2 (by decide +kernel : decode cX3_addJoined 132 = .ok (.dup2, 1)) rfl) ?_
  refine q_fa (ok_iaload (by decide +kernel : decode cX3_addJoined 133 = .ok (.iaload, 1)) rfl) ?_
  refine q_fa (ok_aload_n (by decide +kernel : decode cX3_addJoined 134 = .ok (.aload_n 0, 1)) rfl rfl) ?_
  refine q_fa (ok_get (by decide +kernel : decode cX3_addJoined 135 = .ok (.getfield 24, 3)) rfl (rfl : vwCl[3]? = some (RX3, TX3, 6)) inX3 (by decide) g746) ?_
  refine q_fa (ok_iconst (by decide +kernel : decode cX3_addJoined 138 = .ok (.iconst 1, 1)) rfl (by decide +kernel)) ?_
  refine q_fa (ok_iaload (by decide +kernel : decode cX3_addJoined 139 = .ok (.iaload, 1)) rfl) ?_
  refine q_fa (ok_ior (by decide +kernel : decode cX3_addJoined 140 = .ok (.ior, 1)) rfl) ?_
  refine q_fa (ok_iastore (by decide +kernel : decode cX3_addJoined 141 = .ok (.iastore, 1)) rfl) ?_
  refine q_fa (ok_iinc (by decide +kernel : decode cX3_addJoined 142 = .ok (.iinc 3 1, 3)) rfl (by decide +kernel) (by decide)) ?_
  refine q_fa (ok_goto (by decide +kernel : decode cX3_addJoined 145 = .ok (.goto (-72), 3)) (by decide)) ?_
  refine q_fa (ok_iconst (by decide +kernel : decode cX3_addJoined 148 = .ok (.iconst 0, 1)) rfl (by decide +kernel)) ?_
  refine q_fa (ok_istore_n (by decide +kernel : decode cX3_addJoined 149 = .ok (.istore_n 3, 1)) rfl rfl (by decide)) ?_
  refine q_fa (ok_iload_n (by decide +kernel : decode cX3_addJoined 150 = .ok (.iload_n 3, 1)) rfl rfl) ?_
  refine q_fa (ok_bipush (by decide +kernel : decode cX3_addJoined 151 = .ok (.bipush 9, 2)) rfl (by decide +kernel)) ?_
  refine q_fa (ok_if2ge (by decide +kernel : decode cX3_addJoined 153 = .ok (.if_icmp .ge 60, 3)) (by decide) rfl) ?_
  refine q_fa (ok_aload_n (by decide +kernel : decode cX3_addJoined 156 = .ok (.aload_n 0, 1)) rfl rfl) ?_
  refine q_fa (ok_get (by decide +kernel : decode cX3_addJoined 157 = .ok (.getfield 21, 3)) rfl (rfl : vwCl[3]? = some (RX3, TX3, 6)) inX3 (by decide) g745) ?_
  refine q_fa (ok_iconst (by decide +kernel : decode cX3_addJoined 160 = .ok (.iconst 0, 1)) rfl (by decide +kernel)) ?_
  refine q_fa (ok_iaload (by decide +kernel : decode cX3_addJoined 161 = .ok (.iaload, 1)) rfl) ?_
  refine q_fa (ok_iconst (by decide +kernel : decode cX3_addJoined 162 = .ok (.iconst 4, 1)) rfl (by decide +kernel)) ?_
  refine q_fa (ok_iload_n (by decide +kernel : decode cX3_addJoined 163 = .ok (.iload_n 3, 1)) rfl rfl) ?_
  refine q_fa (ok_iadd (by decide +kernel : decode cX3_addJoined 164 = .ok (.iadd, 1)) rfl) ?_
  refine q_fa (ok_ishr (by decide +kernel : decode cX3_addJoined 165 = .ok (.ishr, 1)) rfl) ?_
  refine q_fa (ok_iconst (by decide +kernel : decode cX3_addJoined 166 = .ok (.iconst 1, 1)) rfl (by decide +kernel)) ?_
  refine q_fa (ok_iand (by decide +kernel : decode cX3_addJoined 167 = .ok (.iand, 1)) rfl) ?_
  refine q_fa (ok_iconst (by decide +kernel : decode cX3_addJoined 168 = .ok (.iconst 1, 1)) rfl (by decide +kernel)) ?_
  refine q_fa (ok_if2ne (by decide +kernel : decode cX3_addJoined 169 = .ok (.if_icmp .ne 38, 3)) (by decide) rfl) ?_
  refine q_fa (ok_aload_n (by decide +kernel : decode cX3_addJoined 172 = .ok (.aload_n 0, 1)) rfl rfl) ?_
  refine q_fa (ok_get (by decide +kernel : decode cX3_addJoined 173 = .ok (.getfield 18, 3)) rfl (rfl : vwCl[3]? = some (RX3, TX3, 6)) inX3 (by decide) g744) ?_
  refine q_fa (ok_iconst (by decide +kernel : decode cX3_addJoined 176 = .ok (.iconst 1, 1)) rfl (by decide +kernel)) ?_
  refine q_fa (ok_dup2 (by decide +kernel : decode cX3_addJoined 177 = .ok (.dup2, 1)) rfl) ?_
  refine q_fa (ok_iaload (by decide +kernel : decode cX3_addJoined 178 = .ok (.iaload, 1)) rfl) ?_
  refine q_fa (ok_iload_n (by decide +kernel : decode cX3_addJoined 179 = .ok (.iload_n 1, 1)) rfl rfl) ?_
  refine q_fa (ok_iconst (by decide +kernel : decode cX3_addJoined 180 = .ok (.iconst 3, 1)) rfl (by decide +kernel)) ?_
  refine q_fa (ok_iload_n (by decide +kernel : decode cX3_addJoined 181 = .ok (.iload_n 3, 1)) rfl rfl) ?_
  refine q_fa (ok_imul (by decide +kernel : decode cX3_addJoined 182 = .ok (.imul, 1)) rfl) ?_
  refine q_fa (ok_ishl (by decide +kernel : decode cX3_addJoined 183 = .ok (.ishl, 1)) rfl) ?_
  refine q_fa (ok_ior (by decide +kernel : decode cX3_addJoined 184 = .ok (.ior, 1)) rfl) ?_
  refine q_fa (ok_iastore (by decide +kernel : decode cX3_addJoined 185 = .ok (.iastore, 1)) rfl) ?_
  refine q_fa (ok_aload_n (by decide +kernel : decode cX3_addJoined 186 = .ok (.aload_n 0, 1)) rfl rfl) ?_
  refine q_fa (ok_get (by decide +kernel : decode cX3_addJoined 187 = .ok (.getfield 18, 3)) rfl (rfl : vwCl[3]? = some (RX3, TX3, 6)) inX3 (by decide) g744) ?_
  refine q_fa (ok_iconst (by decide +kernel : decode cX3_addJoined 190 = .ok (.iconst 2, 1)) rfl (by decide +kernel)) ?_
  refine q_fa (ok_iload_n (by decide +kernel : decode cX3_addJoined 191 = .ok (.iload_n 3, 1)) rfl rfl) ?_
  refine q_fa (ok_iconst (by decide +kernel : decode cX3_addJoined 192 = .ok (.iconst 3, 1)) rfl (by decide +kernel)) ?_
  refine q_fa (ok_idiv (by decide +kernel : decode cX3_addJoined 193 = .ok (.idiv, 1)) rfl) ?_
  refine q_fa (ok_iadd (by decide +kernel : decode cX3_addJoined 194 = .ok (.iadd, 1)) rfl) ?_
  refine q_fa (ok_dup2 (by decide +kernel : decode cX3_addJoined 195 = .ok (.dup2, 1)) rfl) ?_
  refine q_fa (ok_iaload (by decide +kernel : decode cX3_addJoined 196 = .ok (.iaload, 1)) rfl) ?_
  refine q_fa (ok_iload_n (by decide +kernel : decode cX3_addJoined 197 = .ok (.iload_n 2, 1)) rfl rfl) ?_
  refine q_fa (ok_bipush (by decide +kernel : decode cX3_addJoined 198 = .ok (.bipush 9, 2)) rfl (by decide +kernel)) ?_
  refine q_fa (ok_iload_n (by decide +kernel : decode cX3_addJoined 200 = .ok (.iload_n 3, 1)) rfl rfl) ?_
  refine q_fa (ok_iconst (by decide +kernel : decode cX3_addJoined 201 = .ok (.iconst 3, 1)) rfl (by decide +kernel)) ?_
  refine q_fa (ok_irem (by decide +kernel : decode cX3_addJoined 202 = .ok (.irem, 1)) rfl) ?_
  refine q_fa (ok_imul (by decide +kernel : decode cX3_addJoined 203 = .ok (.imul, 1)) rfl) ?_
  refine q_fa (ok_ishl (by decide +kernel : decode cX3_addJoined 204 = .ok (.ishl, 1)) rfl) ?_
  refine q_fa (ok_ior (by decide +kernel : decode cX3_addJoined 205 = .ok (.ior, 1)) rfl) ?_
  refine q_fa (ok_iastore (by decide +kernel : decode cX3_addJoined 206 = .ok (.iastore, 1)) rfl) ?_
  refine q_fa (ok_iinc (by decide +kernel : decode cX3_addJoined 207 = .ok (.iinc 3 1, 3)) rfl (by decide +kernel) (by decide)) ?_
  refine q_fa (ok_goto (by decide +kernel : decode cX3_addJoined 210 = .ok (.goto (-60), 3)) (by decide)) ?_
  refine q_fa (ok_iconst (by decide +kernel : decode cX3_addJoined 213 = .ok (.iconst 0, 1)) rfl (by decide +kernel)) ?_
  refine q_fa (ok_istore_n (by decide +kernel : decode cX3_addJoined 214 = .ok (.istore_n 3, 1)) rfl rfl (by decide)) ?_
  refine q_fa (ok_iload_n (by decide +kernel : decode cX3_addJoined 215 = .ok (.iload_n 3, 1)) rfl rfl) ?_
  refine q_fa (ok_bipush (by decide +kernel : decode cX3_addJoined 216 = .ok (.bipush 27, 2)) rfl (by decide +kernel)) ?_
  refine q_fa (ok_if2ge (by decide +kernel : decode cX3_addJoined 218 = .ok (.if_icmp .ge 45, 3)) (by decide) rfl) ?_
  refine q_fa (ok_aload_n (by decide +kernel : decode cX3_addJoined 221 = .ok (.aload_n 0, 1)) rfl rfl) ?_
  refine q_fa (ok_get (by decide +kernel : decode cX3_addJoined 222 = .ok (.getfield 21, 3)) rfl (rfl : vwCl[3]? = some (RX3, TX3, 6)) inX3 (by decide) g745) ?_
  refine q_fa (ok_iconst (by decide +kernel : decode cX3_addJoined 225 = .ok (.iconst 1, 1)) rfl (by decide +kernel)) ?_
  refine q_fa (ok_iaload (by decide +kernel : decode cX3_addJoined 226 = .ok (.iaload, 1)) rfl) ?_
  refine q_fa (ok_iload_n (by decide +kernel : decode cX3_addJoined 227 = .ok (.iload_n 3, 1)) rfl rfl) ?_
  refine q_fa (ok_ishr (by decide +kernel : decode cX3_addJoined 228 = .ok (.ishr, 1)) rfl) ?_
  refine q_fa (ok_iconst (by decide +kernel : decode cX3_addJoined 229 = .ok (.iconst 1, 1)) rfl (by decide +kernel)) ?_
  refine q_fa (ok_iand (by decide +kernel : decode cX3_addJoined 230 = .ok (.iand, 1)) rfl) ?_
  refine q_fa (ok_iconst (by decide +kernel : decode cX3_addJoined 231 = .ok (.iconst 1, 1)) rfl (by decide +kernel)) ?_
  refine q_fa (ok_if2ne (by decide +kernel : decode cX3_addJoined 232 = .ok (.if_icmp .ne 25, 3)) (by decide) rfl) ?_
  refine q_fa (ok_aload_n (by decide +kernel : decode cX3_addJoined 235 = .ok (.aload_n 0, 1)) rfl rfl) ?_
  refine q_fa (ok_get (by decide +kernel : decode cX3_addJoined 236 = .ok (.getfield 18, 3)) rfl (rfl : vwCl[3]? = some (RX3, TX3, 6)) inX3 (by decide) g744) ?_
  refine q_fa (ok_iconst (by decide +kernel : decode cX3_addJoined 239 = .ok (.iconst 2, 1)) rfl (by decide +kernel)) ?_
  refine q_fa (ok_iload_n (by decide +kernel : decode cX3_addJoined 240 = .ok (.iload_n 3, 1)) rfl rfl) ?_
  refine q_fa (ok_bipush (by decide +kernel : decode cX3_addJoined 241 = .ok (.bipush 9, 2)) rfl (by decide +kernel)) ?_
  refine q_fa (ok_idiv (by decide +kernel : decode cX3_addJoined 243 = .ok (.idiv, 1)) rfl) ?_
  refine q_fa (ok_iadd (by decide +kernel : decode cX3_addJoined 244 = .ok (.iadd, 1)) rfl) ?_
  refine q_fa (ok_dup2 (by decide +kernel : decode cX3_addJoined 245 = .ok (.dup2, 1)) rfl) ?_
  refine q_fa (ok_iaload (by decide +kernel : decode cX3_addJoined 246 = .ok (.iaload, 1)) rfl) ?_
  refine q_fa (ok_iload_n (by decide +kernel : decode cX3_addJoined 247 = .ok (.iload_n 1, 1)) rfl rfl) ?_
  refine q_fa (ok_iconst (by decide +kernel : decode cX3_addJoined 248 = .ok (.iconst 3, 1)) rfl (by decide +kernel)) ?_
  refine q_fa (ok_iload_n (by decide +kernel : decode cX3_addJoined 249 = .ok (.iload_n 3, 1)) rfl rfl) ?_
  refine q_fa (ok_bipush (by decide +kernel : decode cX3_addJoined 250 = .ok (.bipush 9, 2)) rfl (by decide +kernel)) ?_
  refine q_fa (ok_irem (by decide +kernel : decode cX3_addJoined 252 = .ok (.irem, 1)) rfl) ?_
  refine q_fa (ok_imul (by decide +kernel : decode cX3_addJoined 253 = .ok (.imul, 1)) rfl) ?_
  refine q_fa (ok_ishl (by decide +kernel : decode cX3_addJoined 254 = .ok (.ishl, 1)) rfl) ?_
  refine q_fa (ok_ior (by decide +kernel : decode cX3_addJoined 255 = .ok (.ior, 1)) rfl) ?_
  refine q_fa (ok_iastore (by decide +kernel : decode cX3_addJoined 256 = .ok (.iastore, 1)) rfl) ?_
  refine q_fa (ok_iinc (by decide +kernel : decode cX3_addJoined 257 = .ok (.iinc 3 1, 3)) rfl (by decide +kernel) (by decide)) ?_
  refine q_fa (ok_goto (by decide +kernel : decode cX3_addJoined 260 = .ok (.goto (-45), 3)) (by decide)) ?_
  refine q_fa (ok_vret (by decide +kernel : decode cX3_addJoined 263 = .ok (.return_, 1)) rfl) ?_
  exact q_fa0
theorem exX3_addJoined : ∃ t : Nat → qP, t = uX3_addJoined := ⟨_, rfl⟩
noncomputable def tX3_addJoined : Nat → qP := Classical.choose exX3_addJoined
theorem teX3_addJoined : tX3_addJoined = uX3_addJoined := Classical.choose_spec exX3_addJoined
theorem sX3_addJoined : q_Snd mX3_addJoined tX3_addJoined := by rw [teX3_addJoined]; exact suX3_addJoined
theorem tX3_addJoined_0 : tX3_addJoined 0 = oAl 0 1 := (congrFun teX3_addJoined 0).trans rfl
theorem tX3_addJoined_1 : tX3_addJoined 1 = oGet 3 3 4 := (congrFun teX3_addJoined 1).trans rfl
theorem tX3_addJoined_4 : tX3_addJoined 4 = oK (.int (nI 0)) 5 := (congrFun teX3_addJoined 4).trans rfl
theorem tX3_addJoined_5 : tX3_addJoined 5 = oIald 6 := (congrFun teX3_addJoined 5).trans rfl
theorem tX3_addJoined_6 : tX3_addJoined 6 = oK (.int (nI 1)) 7 := (congrFun teX3_addJoined 6).trans rfl
theorem tX3_addJoined_7 : tX3_addJoined 7 = oAnd 8 := (congrFun teX3_addJoined 7).trans rfl
theorem tX3_addJoined_8 : tX3_addJoined 8 = oK (.int (nI 1)) 9 := (congrFun teX3_addJoined 8).trans rfl
theorem tX3_addJoined_9 : tX3_addJoined 9 = oIf2ne 23 12 := (congrFun teX3_addJoined 9).trans rfl
theorem tX3_addJoined_12 : tX3_addJoined 12 = oAl 0 13 := (congrFun teX3_addJoined 12).trans rfl
theorem tX3_addJoined_13 : tX3_addJoined 13 = oGet 3 4 16 := (congrFun teX3_addJoined 13).trans rfl
theorem tX3_addJoined_16 : tX3_addJoined 16 = oAl 0 17 := (congrFun teX3_addJoined 16).trans rfl
theorem tX3_addJoined_17 : tX3_addJoined 17 = oGet 3 2 20 := (congrFun teX3_addJoined 17).trans rfl
theorem tX3_addJoined_20 : tX3_addJoined 20 = oCallS mX3_addAll 2 23 := (congrFun teX3_addJoined 20).trans rfl
theorem tX3_addJoined_23 : tX3_addJoined 23 = oAl 0 24 := (congrFun teX3_addJoined 23).trans rfl
theorem tX3_addJoined_24 : tX3_addJoined 24 = oGet 3 4 27 := (congrFun teX3_addJoined 24).trans rfl
theorem tX3_addJoined_27 : tX3_addJoined 27 = oK (.int (nI 0)) 28 := (congrFun teX3_addJoined 27).trans rfl
theorem tX3_addJoined_28 : tX3_addJoined 28 = oIald 29 := (congrFun teX3_addJoined 28).trans rfl
theorem tX3_addJoined_29 : tX3_addJoined 29 = oK (.int (nI 1)) 30 := (congrFun teX3_addJoined 29).trans rfl
theorem tX3_addJoined_30 : tX3_addJoined 30 = oAnd 31 := (congrFun teX3_addJoined 30).trans rfl
theorem tX3_addJoined_31 : tX3_addJoined 31 = oK (.int (nI 1)) 32 := (congrFun teX3_addJoined 31).trans rfl
theorem tX3_addJoined_32 : tX3_addJoined 32 = oIf2ne 46 35 := (congrFun teX3_addJoined 32).trans rfl
theorem tX3_addJoined_35 : tX3_addJoined 35 = oAl 0 36 := (congrFun teX3_addJoined 35).trans rfl
theorem tX3_addJoined_36 : tX3_addJoined 36 = oGet 3 3 39 := (congrFun teX3_addJoined 36).trans rfl
theorem tX3_addJoined_39 : tX3_addJoined 39 = oAl 0 40 := (congrFun teX3_addJoined 39).trans rfl
theorem tX3_addJoined_40 : tX3_addJoined 40 = oGet 3 2 43 := (congrFun teX3_addJoined 40).trans rfl
theorem tX3_addJoined_43 : tX3_addJoined 43 = oCallS mX3_addAll 2 46 := (congrFun teX3_addJoined 43).trans rfl
theorem tX3_addJoined_46 : tX3_addJoined 46 = oAl 0 47 := (congrFun teX3_addJoined 46).trans rfl
theorem tX3_addJoined_47 : tX3_addJoined 47 = oGet 3 4 50 := (congrFun teX3_addJoined 47).trans rfl
theorem tX3_addJoined_50 : tX3_addJoined 50 = oK (.int (nI 0)) 51 := (congrFun teX3_addJoined 50).trans rfl
theorem tX3_addJoined_51 : tX3_addJoined 51 = oIald 52 := (congrFun teX3_addJoined 51).trans rfl
theorem tX3_addJoined_52 : tX3_addJoined 52 = oK (.int (nI 1)) 53 := (congrFun teX3_addJoined 52).trans rfl
theorem tX3_addJoined_53 : tX3_addJoined 53 = oShr 54 := (congrFun teX3_addJoined 53).trans rfl
theorem tX3_addJoined_54 : tX3_addJoined 54 = oK (.int (nI 7)) 56 := (congrFun teX3_addJoined 54).trans rfl
theorem tX3_addJoined_56 : tX3_addJoined 56 = oAnd 57 := (congrFun teX3_addJoined 56).trans rfl
theorem tX3_addJoined_57 : tX3_addJoined 57 = oIs 1 58 := (congrFun teX3_addJoined 57).trans rfl
theorem tX3_addJoined_58 : tX3_addJoined 58 = oAl 0 59 := (congrFun teX3_addJoined 58).trans rfl
theorem tX3_addJoined_59 : tX3_addJoined 59 = oGet 3 4 62 := (congrFun teX3_addJoined 59).trans rfl
theorem tX3_addJoined_62 : tX3_addJoined 62 = oK (.int (nI 0)) 63 := (congrFun teX3_addJoined 62).trans rfl
theorem tX3_addJoined_63 : tX3_addJoined 63 = oIald 64 := (congrFun teX3_addJoined 63).trans rfl
theorem tX3_addJoined_64 : tX3_addJoined 64 = oK (.int (nI 4)) 65 := (congrFun teX3_addJoined 64).trans rfl
theorem tX3_addJoined_65 : tX3_addJoined 65 = oShr 66 := (congrFun teX3_addJoined 65).trans rfl
theorem tX3_addJoined_66 : tX3_addJoined 66 = oK (.int (nI 511)) 69 := (congrFun teX3_addJoined 66).trans rfl
theorem tX3_addJoined_69 : tX3_addJoined 69 = oAnd 70 := (congrFun teX3_addJoined 69).trans rfl
theorem tX3_addJoined_70 : tX3_addJoined 70 = oIs 2 71 := (congrFun teX3_addJoined 70).trans rfl
theorem tX3_addJoined_71 : tX3_addJoined 71 = oK (.int (nI 0)) 72 := (congrFun teX3_addJoined 71).trans rfl
theorem tX3_addJoined_72 : tX3_addJoined 72 = oIs 3 73 := (congrFun teX3_addJoined 72).trans rfl
theorem tX3_addJoined_73 : tX3_addJoined 73 = oIl 3 74 := (congrFun teX3_addJoined 73).trans rfl
theorem tX3_addJoined_74 : tX3_addJoined 74 = oK (.int (nI 3)) 75 := (congrFun teX3_addJoined 74).trans rfl
theorem tX3_addJoined_75 : tX3_addJoined 75 = oIf2ge 148 78 := (congrFun teX3_addJoined 75).trans rfl
theorem tX3_addJoined_78 : tX3_addJoined 78 = oAl 0 79 := (congrFun teX3_addJoined 78).trans rfl
theorem tX3_addJoined_79 : tX3_addJoined 79 = oGet 3 3 82 := (congrFun teX3_addJoined 79).trans rfl
theorem tX3_addJoined_82 : tX3_addJoined 82 = oK (.int (nI 0)) 83 := (congrFun teX3_addJoined 82).trans rfl
theorem tX3_addJoined_83 : tX3_addJoined 83 = oIald 84 := (congrFun teX3_addJoined 83).trans rfl
theorem tX3_addJoined_84 : tX3_addJoined 84 = oK (.int (nI 1)) 85 := (congrFun teX3_addJoined 84).trans rfl
theorem tX3_addJoined_85 : tX3_addJoined 85 = oIl 3 86 := (congrFun teX3_addJoined 85).trans rfl
theorem tX3_addJoined_86 : tX3_addJoined 86 = oAdd 87 := (congrFun teX3_addJoined 86).trans rfl
theorem tX3_addJoined_87 : tX3_addJoined 87 = oShr 88 := (congrFun teX3_addJoined 87).trans rfl
theorem tX3_addJoined_88 : tX3_addJoined 88 = oK (.int (nI 1)) 89 := (congrFun teX3_addJoined 88).trans rfl
theorem tX3_addJoined_89 : tX3_addJoined 89 = oAnd 90 := (congrFun teX3_addJoined 89).trans rfl
theorem tX3_addJoined_90 : tX3_addJoined 90 = oK (.int (nI 1)) 91 := (congrFun teX3_addJoined 90).trans rfl
theorem tX3_addJoined_91 : tX3_addJoined 91 = oIf2ne 142 94 := (congrFun teX3_addJoined 91).trans rfl
theorem tX3_addJoined_94 : tX3_addJoined 94 = oAl 0 95 := (congrFun teX3_addJoined 94).trans rfl
theorem tX3_addJoined_95 : tX3_addJoined 95 = oGet 3 2 98 := (congrFun teX3_addJoined 95).trans rfl
theorem tX3_addJoined_98 : tX3_addJoined 98 = oK (.int (nI 0)) 99 := (congrFun teX3_addJoined 98).trans rfl
theorem tX3_addJoined_99 : tX3_addJoined 99 = oDup2 100 := (congrFun teX3_addJoined 99).trans rfl
theorem tX3_addJoined_100 : tX3_addJoined 100 = oIald 101 := (congrFun teX3_addJoined 100).trans rfl
theorem tX3_addJoined_101 : tX3_addJoined 101 = oIl 1 102 := (congrFun teX3_addJoined 101).trans rfl
theorem tX3_addJoined_102 : tX3_addJoined 102 = oK (.int (nI 4)) 103 := (congrFun teX3_addJoined 102).trans rfl
theorem tX3_addJoined_103 : tX3_addJoined 103 = oK (.int (nI 3)) 104 := (congrFun teX3_addJoined 103).trans rfl
theorem tX3_addJoined_104 : tX3_addJoined 104 = oIl 3 105 := (congrFun teX3_addJoined 104).trans rfl
theorem tX3_addJoined_105 : tX3_addJoined 105 = oMul 106 := (congrFun teX3_addJoined 105).trans rfl
theorem tX3_addJoined_106 : tX3_addJoined 106 = oAdd 107 := (congrFun teX3_addJoined 106).trans rfl
theorem tX3_addJoined_107 : tX3_addJoined 107 = oShl 108 := (congrFun teX3_addJoined 107).trans rfl
theorem tX3_addJoined_108 : tX3_addJoined 108 = oOr 109 := (congrFun teX3_addJoined 108).trans rfl
theorem tX3_addJoined_109 : tX3_addJoined 109 = oIast 110 := (congrFun teX3_addJoined 109).trans rfl
theorem tX3_addJoined_110 : tX3_addJoined 110 = oAl 0 111 := (congrFun teX3_addJoined 110).trans rfl
theorem tX3_addJoined_111 : tX3_addJoined 111 = oGet 3 2 114 := (congrFun teX3_addJoined 111).trans rfl
theorem tX3_addJoined_114 : tX3_addJoined 114 = oK (.int (nI 1)) 115 := (congrFun teX3_addJoined 114).trans rfl
theorem tX3_addJoined_115 : tX3_addJoined 115 = oDup2 116 := (congrFun teX3_addJoined 115).trans rfl
theorem tX3_addJoined_116 : tX3_addJoined 116 = oIald 117 := (congrFun teX3_addJoined 116).trans rfl
theorem tX3_addJoined_117 : tX3_addJoined 117 = oIl 2 118 := (congrFun teX3_addJoined 117).trans rfl
theorem tX3_addJoined_118 : tX3_addJoined 118 = oK (.int (nI 9)) 120 := (congrFun teX3_addJoined 118).trans rfl
theorem tX3_addJoined_120 : tX3_addJoined 120 = oIl 3 121 := (congrFun teX3_addJoined 120).trans rfl
theorem tX3_addJoined_121 : tX3_addJoined 121 = oMul 122 := (congrFun teX3_addJoined 121).trans rfl
theorem tX3_addJoined_122 : tX3_addJoined 122 = oShl 123 := (congrFun teX3_addJoined 122).trans rfl
theorem tX3_addJoined_123 : tX3_addJoined 123 = oOr 124 := (congrFun teX3_addJoined 123).trans rfl
theorem tX3_addJoined_124 : tX3_addJoined 124 = oIast 125 := (congrFun teX3_addJoined 124).trans rfl
theorem tX3_addJoined_125 : tX3_addJoined 125 = oAl 0 126 := (congrFun teX3_addJoined 125).trans rfl
theorem tX3_addJoined_126 : tX3_addJoined 126 = oGet 3 2 129 := (congrFun teX3_addJoined 126).trans rfl
theorem tX3_addJoined_129 : tX3_addJoined 129 = oK (.int (nI 2)) 130 := (congrFun teX3_addJoined 129).trans rfl
theorem tX3_addJoined_130 : tX3_addJoined 130 = oIl 3 131 := (congrFun teX3_addJoined 130).trans rfl
theorem tX3_addJoined_131 : tX3_addJoined 131 = oAdd 132 := (congrFun teX3_addJoined 131).trans rfl
theorem tX3_addJoined_132 : tX3_addJoined 132 = oDup2 133 := (congrFun teX3_addJoined 132).trans rfl
theorem tX3_addJoined_133 : tX3_addJoined 133 = oIald 134 := (congrFun teX3_addJoined 133).trans rfl
theorem tX3_addJoined_134 : tX3_addJoined 134 = oAl 0 135 := (congrFun teX3_addJoined 134).trans rfl
theorem tX3_addJoined_135 : tX3_addJoined 135 = oGet 3 4 138 := (congrFun teX3_addJoined 135).trans rfl
theorem tX3_addJoined_138 : tX3_addJoined 138 = oK (.int (nI 1)) 139 := (congrFun teX3_addJoined 138).trans rfl
theorem tX3_addJoined_139 : tX3_addJoined 139 = oIald 140 := (congrFun teX3_addJoined 139).trans rfl
theorem tX3_addJoined_140 : tX3_addJoined 140 = oOr 141 := (congrFun teX3_addJoined 140).trans rfl
theorem tX3_addJoined_141 : tX3_addJoined 141 = oIast 142 := (congrFun teX3_addJoined 141).trans rfl
theorem tX3_addJoined_142 : tX3_addJoined 142 = oInc 3 (nI 1) 145 := (congrFun teX3_addJoined 142).trans rfl
theorem tX3_addJoined_145 : tX3_addJoined 145 = oGo 73 := (congrFun teX3_addJoined 145).trans rfl
theorem tX3_addJoined_148 : tX3_addJoined 148 = oK (.int (nI 0)) 149 := (congrFun teX3_addJoined 148).trans rfl
theorem tX3_addJoined_149 : tX3_addJoined 149 = oIs 3 150 := (congrFun teX3_addJoined 149).trans rfl
theorem tX3_addJoined_150 : tX3_addJoined 150 = oIl 3 151 := (congrFun teX3_addJoined 150).trans rfl
theorem tX3_addJoined_151 : tX3_addJoined 151 = oK (.int (nI 9)) 153 := (congrFun teX3_addJoined 151).trans rfl
theorem tX3_addJoined_153 : tX3_addJoined 153 = oIf2ge 213 156 := (congrFun teX3_addJoined 153).trans rfl
theorem tX3_addJoined_156 : tX3_addJoined 156 = oAl 0 157 := (congrFun teX3_addJoined 156).trans rfl
theorem tX3_addJoined_157 : tX3_addJoined 157 = oGet 3 3 160 := (congrFun teX3_addJoined 157).trans rfl
theorem tX3_addJoined_160 : tX3_addJoined 160 = oK (.int (nI 0)) 161 := (congrFun teX3_addJoined 160).trans rfl
theorem tX3_addJoined_161 : tX3_addJoined 161 = oIald 162 := (congrFun teX3_addJoined 161).trans rfl
theorem tX3_addJoined_162 : tX3_addJoined 162 = oK (.int (nI 4)) 163 := (congrFun teX3_addJoined 162).trans rfl
theorem tX3_addJoined_163 : tX3_addJoined 163 = oIl 3 164 := (congrFun teX3_addJoined 163).trans rfl
theorem tX3_addJoined_164 : tX3_addJoined 164 = oAdd 165 := (congrFun teX3_addJoined 164).trans rfl
theorem tX3_addJoined_165 : tX3_addJoined 165 = oShr 166 := (congrFun teX3_addJoined 165).trans rfl
theorem tX3_addJoined_166 : tX3_addJoined 166 = oK (.int (nI 1)) 167 := (congrFun teX3_addJoined 166).trans rfl
theorem tX3_addJoined_167 : tX3_addJoined 167 = oAnd 168 := (congrFun teX3_addJoined 167).trans rfl
theorem tX3_addJoined_168 : tX3_addJoined 168 = oK (.int (nI 1)) 169 := (congrFun teX3_addJoined 168).trans rfl
theorem tX3_addJoined_169 : tX3_addJoined 169 = oIf2ne 207 172 := (congrFun teX3_addJoined 169).trans rfl
theorem tX3_addJoined_172 : tX3_addJoined 172 = oAl 0 173 := (congrFun teX3_addJoined 172).trans rfl
theorem tX3_addJoined_173 : tX3_addJoined 173 = oGet 3 2 176 := (congrFun teX3_addJoined 173).trans rfl
theorem tX3_addJoined_176 : tX3_addJoined 176 = oK (.int (nI 1)) 177 := (congrFun teX3_addJoined 176).trans rfl
theorem tX3_addJoined_177 : tX3_addJoined 177 = oDup2 178 := (congrFun teX3_addJoined 177).trans rfl
theorem tX3_addJoined_178 : tX3_addJoined 178 = oIald 179 := (congrFun teX3_addJoined 178).trans rfl
theorem tX3_addJoined_179 : tX3_addJoined 179 = oIl 1 180 := (congrFun teX3_addJoined 179).trans rfl
theorem tX3_addJoined_180 : tX3_addJoined 180 = oK (.int (nI 3)) 181 := (congrFun teX3_addJoined 180).trans rfl
theorem tX3_addJoined_181 : tX3_addJoined 181 = oIl 3 182 := (congrFun teX3_addJoined 181).trans rfl
theorem tX3_addJoined_182 : tX3_addJoined 182 = oMul 183 := (congrFun teX3_addJoined 182).trans rfl
theorem tX3_addJoined_183 : tX3_addJoined 183 = oShl 184 := (congrFun teX3_addJoined 183).trans rfl
theorem tX3_addJoined_184 : tX3_addJoined 184 = oOr 185 := (congrFun teX3_addJoined 184).trans rfl
theorem tX3_addJoined_185 : tX3_addJoined 185 = oIast 186 := (congrFun teX3_addJoined 185).trans rfl
theorem tX3_addJoined_186 : tX3_addJoined 186 = oAl 0 187 := (congrFun teX3_addJoined 186).trans rfl
theorem tX3_addJoined_187 : tX3_addJoined 187 = oGet 3 2 190 := (congrFun teX3_addJoined 187).trans rfl
theorem tX3_addJoined_190 : tX3_addJoined 190 = oK (.int (nI 2)) 191 := (congrFun teX3_addJoined 190).trans rfl
theorem tX3_addJoined_191 : tX3_addJoined 191 = oIl 3 192 := (congrFun teX3_addJoined 191).trans rfl
theorem tX3_addJoined_192 : tX3_addJoined 192 = oK (.int (nI 3)) 193 := (congrFun teX3_addJoined 192).trans rfl
theorem tX3_addJoined_193 : tX3_addJoined 193 = oDiv 194 := (congrFun teX3_addJoined 193).trans rfl
theorem tX3_addJoined_194 : tX3_addJoined 194 = oAdd 195 := (congrFun teX3_addJoined 194).trans rfl
theorem tX3_addJoined_195 : tX3_addJoined 195 = oDup2 196 := (congrFun teX3_addJoined 195).trans rfl
theorem tX3_addJoined_196 : tX3_addJoined 196 = oIald 197 := (congrFun teX3_addJoined 196).trans rfl
theorem tX3_addJoined_197 : tX3_addJoined 197 = oIl 2 198 := (congrFun teX3_addJoined 197).trans rfl
theorem tX3_addJoined_198 : tX3_addJoined 198 = oK (.int (nI 9)) 200 := (congrFun teX3_addJoined 198).trans rfl
theorem tX3_addJoined_200 : tX3_addJoined 200 = oIl 3 201 := (congrFun teX3_addJoined 200).trans rfl
theorem tX3_addJoined_201 : tX3_addJoined 201 = oK (.int (nI 3)) 202 := (congrFun teX3_addJoined 201).trans rfl
theorem tX3_addJoined_202 : tX3_addJoined 202 = oRem 203 := (congrFun teX3_addJoined 202).trans rfl
theorem tX3_addJoined_203 : tX3_addJoined 203 = oMul 204 := (congrFun teX3_addJoined 203).trans rfl
theorem tX3_addJoined_204 : tX3_addJoined 204 = oShl 205 := (congrFun teX3_addJoined 204).trans rfl
theorem tX3_addJoined_205 : tX3_addJoined 205 = oOr 206 := (congrFun teX3_addJoined 205).trans rfl
theorem tX3_addJoined_206 : tX3_addJoined 206 = oIast 207 := (congrFun teX3_addJoined 206).trans rfl
theorem tX3_addJoined_207 : tX3_addJoined 207 = oInc 3 (nI 1) 210 := (congrFun teX3_addJoined 207).trans rfl
theorem tX3_addJoined_210 : tX3_addJoined 210 = oGo 150 := (congrFun teX3_addJoined 210).trans rfl
theorem tX3_addJoined_213 : tX3_addJoined 213 = oK (.int (nI 0)) 214 := (congrFun teX3_addJoined 213).trans rfl
theorem tX3_addJoined_214 : tX3_addJoined 214 = oIs 3 215 := (congrFun teX3_addJoined 214).trans rfl
theorem tX3_addJoined_215 : tX3_addJoined 215 = oIl 3 216 := (congrFun teX3_addJoined 215).trans rfl
theorem tX3_addJoined_216 : tX3_addJoined 216 = oK (.int (nI 27)) 218 := (congrFun teX3_addJoined 216).trans rfl
theorem tX3_addJoined_218 : tX3_addJoined 218 = oIf2ge 263 221 := (congrFun teX3_addJoined 218).trans rfl
theorem tX3_addJoined_221 : tX3_addJoined 221 = oAl 0 222 := (congrFun teX3_addJoined 221).trans rfl
theorem tX3_addJoined_222 : tX3_addJoined 222 = oGet 3 3 225 := (congrFun teX3_addJoined 222).trans rfl
theorem tX3_addJoined_225 : tX3_addJoined 225 = oK (.int (nI 1)) 226 := (congrFun teX3_addJoined 225).trans rfl
theorem tX3_addJoined_226 : tX3_addJoined 226 = oIald 227 := (congrFun teX3_addJoined 226).trans rfl
theorem tX3_addJoined_227 : tX3_addJoined 227 = oIl 3 228 := (congrFun teX3_addJoined 227).trans rfl
theorem tX3_addJoined_228 : tX3_addJoined 228 = oShr 229 := (congrFun teX3_addJoined 228).trans rfl
theorem tX3_addJoined_229 : tX3_addJoined 229 = oK (.int (nI 1)) 230 := (congrFun teX3_addJoined 229).trans rfl
theorem tX3_addJoined_230 : tX3_addJoined 230 = oAnd 231 := (congrFun teX3_addJoined 230).trans rfl
theorem tX3_addJoined_231 : tX3_addJoined 231 = oK (.int (nI 1)) 232 := (congrFun teX3_addJoined 231).trans rfl
theorem tX3_addJoined_232 : tX3_addJoined 232 = oIf2ne 257 235 := (congrFun teX3_addJoined 232).trans rfl
theorem tX3_addJoined_235 : tX3_addJoined 235 = oAl 0 236 := (congrFun teX3_addJoined 235).trans rfl
theorem tX3_addJoined_236 : tX3_addJoined 236 = oGet 3 2 239 := (congrFun teX3_addJoined 236).trans rfl
theorem tX3_addJoined_239 : tX3_addJoined 239 = oK (.int (nI 2)) 240 := (congrFun teX3_addJoined 239).trans rfl
theorem tX3_addJoined_240 : tX3_addJoined 240 = oIl 3 241 := (congrFun teX3_addJoined 240).trans rfl
theorem tX3_addJoined_241 : tX3_addJoined 241 = oK (.int (nI 9)) 243 := (congrFun teX3_addJoined 241).trans rfl
theorem tX3_addJoined_243 : tX3_addJoined 243 = oDiv 244 := (congrFun teX3_addJoined 243).trans rfl
theorem tX3_addJoined_244 : tX3_addJoined 244 = oAdd 245 := (congrFun teX3_addJoined 244).trans rfl
theorem tX3_addJoined_245 : tX3_addJoined 245 = oDup2 246 := (congrFun teX3_addJoined 245).trans rfl
theorem tX3_addJoined_246 : tX3_addJoined 246 = oIald 247 := (congrFun teX3_addJoined 246).trans rfl
theorem tX3_addJoined_247 : tX3_addJoined 247 = oIl 1 248 := (congrFun teX3_addJoined 247).trans rfl
theorem tX3_addJoined_248 : tX3_addJoined 248 = oK (.int (nI 3)) 249 := (congrFun teX3_addJoined 248).trans rfl
theorem tX3_addJoined_249 : tX3_addJoined 249 = oIl 3 250 := (congrFun teX3_addJoined 249).trans rfl
theorem tX3_addJoined_250 : tX3_addJoined 250 = oK (.int (nI 9)) 252 := (congrFun teX3_addJoined 250).trans rfl
theorem tX3_addJoined_252 : tX3_addJoined 252 = oRem 253 := (congrFun teX3_addJoined 252).trans rfl
theorem tX3_addJoined_253 : tX3_addJoined 253 = oMul 254 := (congrFun teX3_addJoined 253).trans rfl
theorem tX3_addJoined_254 : tX3_addJoined 254 = oShl 255 := (congrFun teX3_addJoined 254).trans rfl
theorem tX3_addJoined_255 : tX3_addJoined 255 = oOr 256 := (congrFun teX3_addJoined 255).trans rfl
theorem tX3_addJoined_256 : tX3_addJoined 256 = oIast 257 := (congrFun teX3_addJoined 256).trans rfl
theorem tX3_addJoined_257 : tX3_addJoined 257 = oInc 3 (nI 1) 260 := (congrFun teX3_addJoined 257).trans rfl
theorem tX3_addJoined_260 : tX3_addJoined 260 = oGo 215 := (congrFun teX3_addJoined 260).trans rfl
theorem tX3_addJoined_263 : tX3_addJoined 263 = oVret := (congrFun teX3_addJoined 263).trans rfl
def lX3_keep : List (Nat × qP) := [(0, oK (.int (nI 0)) 1), (1, oIs 1 2), (2, oK (.int (nI 0)) 3), (3, oIs 2 4), (4, oIl 2 5), (5, oK (.int (nI 5)) 6), (6, oIf2ge 34 9), (9, oIl 1 10), (10, oK (.int (nI 625341585)) 12), (12, oMul 13), (13, oAl 0 14), (14, oGet 3 2 17), (17, oIl 2 18), (18, oIald 19), (19, oAdd 20), (20, oIs 1 21), (21, oIl 1 22), (22, oIl 1 23), (23, oK (.int (nI 15)) 25), (25, oUshr 26), (26, oXor 27), (27, oIs 1 28), (28, oInc 2 (nI 1) 31), (31, oGo 4), (34, oK (.int (nI 0)) 35), (35, oIs 2 36), (36, oIl 2 37), (37, oK (.int (nI 4096)) 40), (40, oIf2ge 107 43), (43, oIl 1 44), (44, oIl 2 45), (45, oAdd 46), (46, oK (.int (nI 4095)) 49), (49, oAnd 50), (50, oIs 3 51), (51, oAl 0 52), (52, oGet 3 1 55), (55, oIl 3 56), (56, oIald 57), (57, oIf1ne 77 60), (60, oAl 0 61), (61, oGet 3 1 64), (64, oIl 3 65), (65, oAl 0 66), (66, oGet 3 5 69), (69, oK (.int (nI 1)) 70), (70, oAdd 71), (71, oIast 72), (72, oAl 0 73), (73, oCallV 3 mX3_keepNew 0 76), (76, oIret), (77, oAl 0 78), (78, oAl 0 79), (79, oGet 3 1 82), (82, oIl 3 83), (83, oIald 84), (84, oK (.int (nI 1)) 85), (85, oSub 86), (86, oCallV 3 mX3_isMade 1 89), (89, oIf1eq 101 92), (92, oAl 0 93), (93, oGet 3 1 96), (96, oIl 3 97), (97, oIald 98), (98, oK (.int (nI 1)) 99), (99, oSub 100), (100, oIret), (101, oInc 2 (nI 1) 104), (104, oGo 36), (107, oK (.int (-1)) 108), (108, oIret)]
def uX3_keep : Nat → qP := q_tb lX3_keep
set_option maxRecDepth 20000 in
theorem suX3_keep : q_Snd mX3_keep uX3_keep := by
  refine q_tb_ok ?_
  unfold lX3_keep
  refine q_fa (ok_iconst (by decide +kernel : decode cX3_keep 0 = .ok (.iconst 0, 1)) rfl (by decide +kernel)) ?_
  refine q_fa (ok_istore_n (by decide +kernel : decode cX3_keep 1 = .ok (.istore_n 1, 1)) rfl rfl (by decide)) ?_
  refine q_fa (ok_iconst (by decide +kernel : decode cX3_keep 2 = .ok (.iconst 0, 1)) rfl (by decide +kernel)) ?_
  refine q_fa (ok_istore_n (by decide +kernel : decode cX3_keep 3 = .ok (.istore_n 2, 1)) rfl rfl (by decide)) ?_
  refine q_fa (ok_iload_n (by decide +kernel : decode cX3_keep 4 = .ok (.iload_n 2, 1)) rfl rfl) ?_
  refine q_fa (ok_iconst (by decide +kernel : decode cX3_keep 5 = .ok (.iconst 5, 1)) rfl (by decide +kernel)) ?_
  refine q_fa (ok_if2ge (by decide +kernel : decode cX3_keep 6 = .ok (.if_icmp .ge 28, 3)) (by decide) rfl) ?_
  refine q_fa (ok_iload_n (by decide +kernel : decode cX3_keep 9 = .ok (.iload_n 1, 1)) rfl rfl) ?_
  refine q_fa (ok_ldc (by decide +kernel : decode cX3_keep 10 = .ok (.ldc 65, 2)) rfl g801) ?_
  refine q_fa (ok_imul (by decide +kernel : decode cX3_keep 12 = .ok (.imul, 1)) rfl) ?_
  refine q_fa (ok_aload_n (by decide +kernel : decode cX3_keep 13 = .ok (.aload_n 0, 1)) rfl rfl) ?_
  refine q_fa (ok_get (by decide +kernel : decode cX3_keep 14 = .ok (.getfield 18, 3)) rfl (rfl : vwCl[3]? = some (RX3, TX3, 6)) inX3 (by decide) g744) ?_
  refine q_fa (ok_iload_n (by decide +kernel : decode cX3_keep 17 = .ok (.iload_n 2, 1)) rfl rfl) ?_
  refine q_fa (ok_iaload (by decide +kernel : decode cX3_keep 18 = .ok (.iaload, 1)) rfl) ?_
  refine q_fa (ok_iadd (by decide +kernel : decode cX3_keep 19 = .ok (.iadd, 1)) rfl) ?_
  refine q_fa (ok_istore_n (by decide +kernel : decode cX3_keep 20 = .ok (.istore_n 1, 1)) rfl rfl (by decide)) ?_
  refine q_fa (ok_iload_n (by decide +kernel : decode cX3_keep 21 = .ok (.iload_n 1, 1)) rfl rfl) ?_
  refine q_fa (ok_iload_n (by decide +kernel : decode cX3_keep 22 = .ok (.iload_n 1, 1)) rfl rfl) ?_
  refine q_fa (ok_bipush (by decide +kernel : decode cX3_keep 23 = .ok (.bipush 15, 2)) rfl (by decide +kernel)) ?_
  refine q_fa (ok_iushr (by decide +kernel : decode cX3_keep 25 = .ok (.iushr, 1)) rfl) ?_
  refine q_fa (ok_ixor (by decide +kernel : decode cX3_keep 26 = .ok (.ixor, 1)) rfl) ?_
  refine q_fa (ok_istore_n (by decide +kernel : decode cX3_keep 27 = .ok (.istore_n 1, 1)) rfl rfl (by decide)) ?_
  refine q_fa (ok_iinc (by decide +kernel : decode cX3_keep 28 = .ok (.iinc 2 1, 3)) rfl (by decide +kernel) (by decide)) ?_
  refine q_fa (ok_goto (by decide +kernel : decode cX3_keep 31 = .ok (.goto (-27), 3)) (by decide)) ?_
  refine q_fa (ok_iconst (by decide +kernel : decode cX3_keep 34 = .ok (.iconst 0, 1)) rfl (by decide +kernel)) ?_
  refine q_fa (ok_istore_n (by decide +kernel : decode cX3_keep 35 = .ok (.istore_n 2, 1)) rfl rfl (by decide)) ?_
  refine q_fa (ok_iload_n (by decide +kernel : decode cX3_keep 36 = .ok (.iload_n 2, 1)) rfl rfl) ?_
  refine q_fa (ok_sipush (by decide +kernel : decode cX3_keep 37 = .ok (.sipush 4096, 3)) rfl (by decide +kernel)) ?_
  refine q_fa (ok_if2ge (by decide +kernel : decode cX3_keep 40 = .ok (.if_icmp .ge 67, 3)) (by decide) rfl) ?_
  refine q_fa (ok_iload_n (by decide +kernel : decode cX3_keep 43 = .ok (.iload_n 1, 1)) rfl rfl) ?_
  refine q_fa (ok_iload_n (by decide +kernel : decode cX3_keep 44 = .ok (.iload_n 2, 1)) rfl rfl) ?_
  refine q_fa (ok_iadd (by decide +kernel : decode cX3_keep 45 = .ok (.iadd, 1)) rfl) ?_
  refine q_fa (ok_sipush (by decide +kernel : decode cX3_keep 46 = .ok (.sipush 4095, 3)) rfl (by decide +kernel)) ?_
  refine q_fa (ok_iand (by decide +kernel : decode cX3_keep 49 = .ok (.iand, 1)) rfl) ?_
  refine q_fa (ok_istore_n (by decide +kernel : decode cX3_keep 50 = .ok (.istore_n 3, 1)) rfl rfl (by decide)) ?_
  refine q_fa (ok_aload_n (by decide +kernel : decode cX3_keep 51 = .ok (.aload_n 0, 1)) rfl rfl) ?_
  refine q_fa (ok_get (by decide +kernel : decode cX3_keep 52 = .ok (.getfield 15, 3)) rfl (rfl : vwCl[3]? = some (RX3, TX3, 6)) inX3 (by decide) g743) ?_
  refine q_fa (ok_iload_n (by decide +kernel : decode cX3_keep 55 = .ok (.iload_n 3, 1)) rfl rfl) ?_
  refine q_fa (ok_iaload (by decide +kernel : decode cX3_keep 56 = .ok (.iaload, 1)) rfl) ?_
  refine q_fa (ok_if1ne (by decide +kernel : decode cX3_keep 57 = .ok (.ifCond .ne 20, 3)) (by decide) rfl) ?_
  refine q_fa (ok_aload_n (by decide +kernel : decode cX3_keep 60 = .ok (.aload_n 0, 1)) rfl rfl) ?_
  refine q_fa (ok_get (by decide +kernel : decode cX3_keep 61 = .ok (.getfield 15, 3)) rfl (rfl : vwCl[3]? = some (RX3, TX3, 6)) inX3 (by decide) g743) ?_
  refine q_fa (ok_iload_n (by decide +kernel : decode cX3_keep 64 = .ok (.iload_n 3, 1)) rfl rfl) ?_
  refine q_fa (ok_aload_n (by decide +kernel : decode cX3_keep 65 = .ok (.aload_n 0, 1)) rfl rfl) ?_
  refine q_fa (ok_get (by decide +kernel : decode cX3_keep 66 = .ok (.getfield 27, 3)) rfl (rfl : vwCl[3]? = some (RX3, TX3, 6)) inX3 (by decide) g747) ?_
  refine q_fa (ok_iconst (by decide +kernel : decode cX3_keep 69 = .ok (.iconst 1, 1)) rfl (by decide +kernel)) ?_
  refine q_fa (ok_iadd (by decide +kernel : decode cX3_keep 70 = .ok (.iadd, 1)) rfl) ?_
  refine q_fa (ok_iastore (by decide +kernel : decode cX3_keep 71 = .ok (.iastore, 1)) rfl) ?_
  refine q_fa (ok_aload_n (by decide +kernel : decode cX3_keep 72 = .ok (.aload_n 0, 1)) rfl rfl) ?_
  refine q_fa (ok_callV (by decide +kernel : decode cX3_keep 73 = .ok (.invokevirtual 66, 3)) rfl kX3_keepNew.1 kX3_keepNew.2.1 kX3_keepNew.2.2.1 kX3_keepNew.2.2.2.1 kX3_keepNew.2.2.2.2 (rfl : vwCl[3]? = some (RX3, TX3, 6)) g804 gs37 g802) ?_
  refine q_fa (ok_iret (by decide +kernel : decode cX3_keep 76 = .ok (.ireturn, 1)) rfl) ?_
  refine q_fa (ok_aload_n (by decide +kernel : decode cX3_keep 77 = .ok (.aload_n 0, 1)) rfl rfl) ?_
  refine q_fa (ok_aload_n (by decide +kernel : decode cX3_keep 78 = .ok (.aload_n 0, 1)) rfl rfl) ?_
  refine q_fa (ok_get (by decide +kernel : decode cX3_keep 79 = .ok (.getfield 15, 3)) rfl (rfl : vwCl[3]? = some (RX3, TX3, 6)) inX3 (by decide) g743) ?_
  refine q_fa (ok_iload_n (by decide +kernel : decode cX3_keep 82 = .ok (.iload_n 3, 1)) rfl rfl) ?_
  refine q_fa (ok_iaload (by decide +kernel : decode cX3_keep 83 = .ok (.iaload, 1)) rfl) ?_
  refine q_fa (ok_iconst (by decide +kernel : decode cX3_keep 84 = .ok (.iconst 1, 1)) rfl (by decide +kernel)) ?_
  refine q_fa (ok_isub (by decide +kernel : decode cX3_keep 85 = .ok (.isub, 1)) rfl) ?_
  refine q_fa (ok_callV (by decide +kernel : decode cX3_keep 86 = .ok (.invokevirtual 69, 3)) rfl kX3_isMade.1 kX3_isMade.2.1 kX3_isMade.2.2.1 kX3_isMade.2.2.2.1 kX3_isMade.2.2.2.2 (rfl : vwCl[3]? = some (RX3, TX3, 6)) g808 gs38 g806) ?_
  refine q_fa (ok_if1eq (by decide +kernel : decode cX3_keep 89 = .ok (.ifCond .eq 12, 3)) (by decide) rfl) ?_
  refine q_fa (ok_aload_n (by decide +kernel : decode cX3_keep 92 = .ok (.aload_n 0, 1)) rfl rfl) ?_
  refine q_fa (ok_get (by decide +kernel : decode cX3_keep 93 = .ok (.getfield 15, 3)) rfl (rfl : vwCl[3]? = some (RX3, TX3, 6)) inX3 (by decide) g743) ?_
  refine q_fa (ok_iload_n (by decide +kernel : decode cX3_keep 96 = .ok (.iload_n 3, 1)) rfl rfl) ?_
  refine q_fa (ok_iaload (by decide +kernel : decode cX3_keep 97 = .ok (.iaload, 1)) rfl) ?_
  refine q_fa (ok_iconst (by decide +kernel : decode cX3_keep 98 = .ok (.iconst 1, 1)) rfl (by decide +kernel)) ?_
  refine q_fa (ok_isub (by decide +kernel : decode cX3_keep 99 = .ok (.isub, 1)) rfl) ?_
  refine q_fa (ok_iret (by decide +kernel : decode cX3_keep 100 = .ok (.ireturn, 1)) rfl) ?_
  refine q_fa (ok_iinc (by decide +kernel : decode cX3_keep 101 = .ok (.iinc 2 1, 3)) rfl (by decide +kernel) (by decide)) ?_
  refine q_fa (ok_goto (by decide +kernel : decode cX3_keep 104 = .ok (.goto (-68), 3)) (by decide)) ?_
  refine q_fa (ok_iconst (by decide +kernel : decode cX3_keep 107 = .ok (.iconst (-1), 1)) rfl (by decide +kernel)) ?_
  refine q_fa (ok_iret (by decide +kernel : decode cX3_keep 108 = .ok (.ireturn, 1)) rfl) ?_
  exact q_fa0
theorem exX3_keep : ∃ t : Nat → qP, t = uX3_keep := ⟨_, rfl⟩
noncomputable def tX3_keep : Nat → qP := Classical.choose exX3_keep
theorem teX3_keep : tX3_keep = uX3_keep := Classical.choose_spec exX3_keep
theorem sX3_keep : q_Snd mX3_keep tX3_keep := by rw [teX3_keep]; exact suX3_keep
theorem tX3_keep_0 : tX3_keep 0 = oK (.int (nI 0)) 1 := (congrFun teX3_keep 0).trans rfl
theorem tX3_keep_1 : tX3_keep 1 = oIs 1 2 := (congrFun teX3_keep 1).trans rfl
theorem tX3_keep_2 : tX3_keep 2 = oK (.int (nI 0)) 3 := (congrFun teX3_keep 2).trans rfl
theorem tX3_keep_3 : tX3_keep 3 = oIs 2 4 := (congrFun teX3_keep 3).trans rfl
theorem tX3_keep_4 : tX3_keep 4 = oIl 2 5 := (congrFun teX3_keep 4).trans rfl
theorem tX3_keep_5 : tX3_keep 5 = oK (.int (nI 5)) 6 := (congrFun teX3_keep 5).trans rfl
theorem tX3_keep_6 : tX3_keep 6 = oIf2ge 34 9 := (congrFun teX3_keep 6).trans rfl
theorem tX3_keep_9 : tX3_keep 9 = oIl 1 10 := (congrFun teX3_keep 9).trans rfl
theorem tX3_keep_10 : tX3_keep 10 = oK (.int (nI 625341585)) 12 := (congrFun teX3_keep 10).trans rfl
theorem tX3_keep_12 : tX3_keep 12 = oMul 13 := (congrFun teX3_keep 12).trans rfl
theorem tX3_keep_13 : tX3_keep 13 = oAl 0 14 := (congrFun teX3_keep 13).trans rfl
theorem tX3_keep_14 : tX3_keep 14 = oGet 3 2 17 := (congrFun teX3_keep 14).trans rfl
theorem tX3_keep_17 : tX3_keep 17 = oIl 2 18 := (congrFun teX3_keep 17).trans rfl
theorem tX3_keep_18 : tX3_keep 18 = oIald 19 := (congrFun teX3_keep 18).trans rfl
theorem tX3_keep_19 : tX3_keep 19 = oAdd 20 := (congrFun teX3_keep 19).trans rfl
theorem tX3_keep_20 : tX3_keep 20 = oIs 1 21 := (congrFun teX3_keep 20).trans rfl
theorem tX3_keep_21 : tX3_keep 21 = oIl 1 22 := (congrFun teX3_keep 21).trans rfl
theorem tX3_keep_22 : tX3_keep 22 = oIl 1 23 := (congrFun teX3_keep 22).trans rfl
theorem tX3_keep_23 : tX3_keep 23 = oK (.int (nI 15)) 25 := (congrFun teX3_keep 23).trans rfl
theorem tX3_keep_25 : tX3_keep 25 = oUshr 26 := (congrFun teX3_keep 25).trans rfl
theorem tX3_keep_26 : tX3_keep 26 = oXor 27 := (congrFun teX3_keep 26).trans rfl
theorem tX3_keep_27 : tX3_keep 27 = oIs 1 28 := (congrFun teX3_keep 27).trans rfl
theorem tX3_keep_28 : tX3_keep 28 = oInc 2 (nI 1) 31 := (congrFun teX3_keep 28).trans rfl
theorem tX3_keep_31 : tX3_keep 31 = oGo 4 := (congrFun teX3_keep 31).trans rfl
theorem tX3_keep_34 : tX3_keep 34 = oK (.int (nI 0)) 35 := (congrFun teX3_keep 34).trans rfl
theorem tX3_keep_35 : tX3_keep 35 = oIs 2 36 := (congrFun teX3_keep 35).trans rfl
theorem tX3_keep_36 : tX3_keep 36 = oIl 2 37 := (congrFun teX3_keep 36).trans rfl
theorem tX3_keep_37 : tX3_keep 37 = oK (.int (nI 4096)) 40 := (congrFun teX3_keep 37).trans rfl
theorem tX3_keep_40 : tX3_keep 40 = oIf2ge 107 43 := (congrFun teX3_keep 40).trans rfl
theorem tX3_keep_43 : tX3_keep 43 = oIl 1 44 := (congrFun teX3_keep 43).trans rfl
theorem tX3_keep_44 : tX3_keep 44 = oIl 2 45 := (congrFun teX3_keep 44).trans rfl
theorem tX3_keep_45 : tX3_keep 45 = oAdd 46 := (congrFun teX3_keep 45).trans rfl
theorem tX3_keep_46 : tX3_keep 46 = oK (.int (nI 4095)) 49 := (congrFun teX3_keep 46).trans rfl
theorem tX3_keep_49 : tX3_keep 49 = oAnd 50 := (congrFun teX3_keep 49).trans rfl
theorem tX3_keep_50 : tX3_keep 50 = oIs 3 51 := (congrFun teX3_keep 50).trans rfl
theorem tX3_keep_51 : tX3_keep 51 = oAl 0 52 := (congrFun teX3_keep 51).trans rfl
theorem tX3_keep_52 : tX3_keep 52 = oGet 3 1 55 := (congrFun teX3_keep 52).trans rfl
theorem tX3_keep_55 : tX3_keep 55 = oIl 3 56 := (congrFun teX3_keep 55).trans rfl
theorem tX3_keep_56 : tX3_keep 56 = oIald 57 := (congrFun teX3_keep 56).trans rfl
theorem tX3_keep_57 : tX3_keep 57 = oIf1ne 77 60 := (congrFun teX3_keep 57).trans rfl
theorem tX3_keep_60 : tX3_keep 60 = oAl 0 61 := (congrFun teX3_keep 60).trans rfl
theorem tX3_keep_61 : tX3_keep 61 = oGet 3 1 64 := (congrFun teX3_keep 61).trans rfl
theorem tX3_keep_64 : tX3_keep 64 = oIl 3 65 := (congrFun teX3_keep 64).trans rfl
theorem tX3_keep_65 : tX3_keep 65 = oAl 0 66 := (congrFun teX3_keep 65).trans rfl
theorem tX3_keep_66 : tX3_keep 66 = oGet 3 5 69 := (congrFun teX3_keep 66).trans rfl
theorem tX3_keep_69 : tX3_keep 69 = oK (.int (nI 1)) 70 := (congrFun teX3_keep 69).trans rfl
theorem tX3_keep_70 : tX3_keep 70 = oAdd 71 := (congrFun teX3_keep 70).trans rfl
theorem tX3_keep_71 : tX3_keep 71 = oIast 72 := (congrFun teX3_keep 71).trans rfl
theorem tX3_keep_72 : tX3_keep 72 = oAl 0 73 := (congrFun teX3_keep 72).trans rfl
theorem tX3_keep_73 : tX3_keep 73 = oCallV 3 mX3_keepNew 0 76 := (congrFun teX3_keep 73).trans rfl
theorem tX3_keep_76 : tX3_keep 76 = oIret := (congrFun teX3_keep 76).trans rfl
theorem tX3_keep_77 : tX3_keep 77 = oAl 0 78 := (congrFun teX3_keep 77).trans rfl
theorem tX3_keep_78 : tX3_keep 78 = oAl 0 79 := (congrFun teX3_keep 78).trans rfl
theorem tX3_keep_79 : tX3_keep 79 = oGet 3 1 82 := (congrFun teX3_keep 79).trans rfl
theorem tX3_keep_82 : tX3_keep 82 = oIl 3 83 := (congrFun teX3_keep 82).trans rfl
theorem tX3_keep_83 : tX3_keep 83 = oIald 84 := (congrFun teX3_keep 83).trans rfl
theorem tX3_keep_84 : tX3_keep 84 = oK (.int (nI 1)) 85 := (congrFun teX3_keep 84).trans rfl
theorem tX3_keep_85 : tX3_keep 85 = oSub 86 := (congrFun teX3_keep 85).trans rfl
theorem tX3_keep_86 : tX3_keep 86 = oCallV 3 mX3_isMade 1 89 := (congrFun teX3_keep 86).trans rfl
theorem tX3_keep_89 : tX3_keep 89 = oIf1eq 101 92 := (congrFun teX3_keep 89).trans rfl
theorem tX3_keep_92 : tX3_keep 92 = oAl 0 93 := (congrFun teX3_keep 92).trans rfl
theorem tX3_keep_93 : tX3_keep 93 = oGet 3 1 96 := (congrFun teX3_keep 93).trans rfl
theorem tX3_keep_96 : tX3_keep 96 = oIl 3 97 := (congrFun teX3_keep 96).trans rfl
theorem tX3_keep_97 : tX3_keep 97 = oIald 98 := (congrFun teX3_keep 97).trans rfl
theorem tX3_keep_98 : tX3_keep 98 = oK (.int (nI 1)) 99 := (congrFun teX3_keep 98).trans rfl
theorem tX3_keep_99 : tX3_keep 99 = oSub 100 := (congrFun teX3_keep 99).trans rfl
theorem tX3_keep_100 : tX3_keep 100 = oIret := (congrFun teX3_keep 100).trans rfl
theorem tX3_keep_101 : tX3_keep 101 = oInc 2 (nI 1) 104 := (congrFun teX3_keep 101).trans rfl
theorem tX3_keep_104 : tX3_keep 104 = oGo 36 := (congrFun teX3_keep 104).trans rfl
theorem tX3_keep_107 : tX3_keep 107 = oK (.int (-1)) 108 := (congrFun teX3_keep 107).trans rfl
theorem tX3_keep_108 : tX3_keep 108 = oIret := (congrFun teX3_keep 108).trans rfl
def lX3_isMade : List (Nat × qP) := [(0, oK (.int (nI 0)) 1), (1, oIs 2 2), (2, oIl 2 3), (3, oK (.int (nI 5)) 4), (4, oIf2ge 30 7), (7, oAl 0 8), (8, oIl 1 9), (9, oIl 2 10), (10, oCallV 3 mX3_wordOf 2 13), (13, oAl 0 14), (14, oGet 3 2 17), (17, oIl 2 18), (18, oIald 19), (19, oIf2eq 24 22), (22, oK (.int (nI 0)) 23), (23, oZret), (24, oInc 2 (nI 1) 27), (27, oGo 2), (30, oK (.int (nI 1)) 31), (31, oZret)]
def uX3_isMade : Nat → qP := q_tb lX3_isMade
set_option maxRecDepth 20000 in
theorem suX3_isMade : q_Snd mX3_isMade uX3_isMade := by
  refine q_tb_ok ?_
  unfold lX3_isMade
  refine q_fa (ok_iconst (by decide +kernel : decode cX3_isMade 0 = .ok (.iconst 0, 1)) rfl (by decide +kernel)) ?_
  refine q_fa (ok_istore_n (by decide +kernel : decode cX3_isMade 1 = .ok (.istore_n 2, 1)) rfl rfl (by decide)) ?_
  refine q_fa (ok_iload_n (by decide +kernel : decode cX3_isMade 2 = .ok (.iload_n 2, 1)) rfl rfl) ?_
  refine q_fa (ok_iconst (by decide +kernel : decode cX3_isMade 3 = .ok (.iconst 5, 1)) rfl (by decide +kernel)) ?_
  refine q_fa (ok_if2ge (by decide +kernel : decode cX3_isMade 4 = .ok (.if_icmp .ge 26, 3)) (by decide) rfl) ?_
  refine q_fa (ok_aload_n (by decide +kernel : decode cX3_isMade 7 = .ok (.aload_n 0, 1)) rfl rfl) ?_
  refine q_fa (ok_iload_n (by decide +kernel : decode cX3_isMade 8 = .ok (.iload_n 1, 1)) rfl rfl) ?_
  refine q_fa (ok_iload_n (by decide +kernel : decode cX3_isMade 9 = .ok (.iload_n 2, 1)) rfl rfl) ?_
  refine q_fa (ok_callV (by decide +kernel : decode cX3_isMade 10 = .ok (.invokevirtual 31, 3)) rfl kX3_wordOf.1 kX3_wordOf.2.1 kX3_wordOf.2.2.1 kX3_wordOf.2.2.2.1 kX3_wordOf.2.2.2.2 (rfl : vwCl[3]? = some (RX3, TX3, 6)) g781 gs33 g779) ?_
  refine q_fa (ok_aload_n (by decide +kernel : decode cX3_isMade 13 = .ok (.aload_n 0, 1)) rfl rfl) ?_
  refine q_fa (ok_get (by decide +kernel : decode cX3_isMade 14 = .ok (.getfield 18, 3)) rfl (rfl : vwCl[3]? = some (RX3, TX3, 6)) inX3 (by decide) g744) ?_
  refine q_fa (ok_iload_n (by decide +kernel : decode cX3_isMade 17 = .ok (.iload_n 2, 1)) rfl rfl) ?_
  refine q_fa (ok_iaload (by decide +kernel : decode cX3_isMade 18 = .ok (.iaload, 1)) rfl) ?_
  refine q_fa (ok_if2eq (by decide +kernel : decode cX3_isMade 19 = .ok (.if_icmp .eq 5, 3)) (by decide) rfl) ?_
  refine q_fa (ok_iconst (by decide +kernel : decode cX3_isMade 22 = .ok (.iconst 0, 1)) rfl (by decide +kernel)) ?_
  refine q_fa (ok_zret (by decide +kernel : decode cX3_isMade 23 = .ok (.ireturn, 1)) rfl) ?_
  refine q_fa (ok_iinc (by decide +kernel : decode cX3_isMade 24 = .ok (.iinc 2 1, 3)) rfl (by decide +kernel) (by decide)) ?_
  refine q_fa (ok_goto (by decide +kernel : decode cX3_isMade 27 = .ok (.goto (-25), 3)) (by decide)) ?_
  refine q_fa (ok_iconst (by decide +kernel : decode cX3_isMade 30 = .ok (.iconst 1, 1)) rfl (by decide +kernel)) ?_
  refine q_fa (ok_zret (by decide +kernel : decode cX3_isMade 31 = .ok (.ireturn, 1)) rfl) ?_
  exact q_fa0
theorem exX3_isMade : ∃ t : Nat → qP, t = uX3_isMade := ⟨_, rfl⟩
noncomputable def tX3_isMade : Nat → qP := Classical.choose exX3_isMade
theorem teX3_isMade : tX3_isMade = uX3_isMade := Classical.choose_spec exX3_isMade
theorem sX3_isMade : q_Snd mX3_isMade tX3_isMade := by rw [teX3_isMade]; exact suX3_isMade
theorem tX3_isMade_0 : tX3_isMade 0 = oK (.int (nI 0)) 1 := (congrFun teX3_isMade 0).trans rfl
theorem tX3_isMade_1 : tX3_isMade 1 = oIs 2 2 := (congrFun teX3_isMade 1).trans rfl
theorem tX3_isMade_2 : tX3_isMade 2 = oIl 2 3 := (congrFun teX3_isMade 2).trans rfl
theorem tX3_isMade_3 : tX3_isMade 3 = oK (.int (nI 5)) 4 := (congrFun teX3_isMade 3).trans rfl
theorem tX3_isMade_4 : tX3_isMade 4 = oIf2ge 30 7 := (congrFun teX3_isMade 4).trans rfl
theorem tX3_isMade_7 : tX3_isMade 7 = oAl 0 8 := (congrFun teX3_isMade 7).trans rfl
theorem tX3_isMade_8 : tX3_isMade 8 = oIl 1 9 := (congrFun teX3_isMade 8).trans rfl
theorem tX3_isMade_9 : tX3_isMade 9 = oIl 2 10 := (congrFun teX3_isMade 9).trans rfl
theorem tX3_isMade_10 : tX3_isMade 10 = oCallV 3 mX3_wordOf 2 13 := (congrFun teX3_isMade 10).trans rfl
theorem tX3_isMade_13 : tX3_isMade 13 = oAl 0 14 := (congrFun teX3_isMade 13).trans rfl
theorem tX3_isMade_14 : tX3_isMade 14 = oGet 3 2 17 := (congrFun teX3_isMade 14).trans rfl
theorem tX3_isMade_17 : tX3_isMade 17 = oIl 2 18 := (congrFun teX3_isMade 17).trans rfl
theorem tX3_isMade_18 : tX3_isMade 18 = oIald 19 := (congrFun teX3_isMade 18).trans rfl
theorem tX3_isMade_19 : tX3_isMade 19 = oIf2eq 24 22 := (congrFun teX3_isMade 19).trans rfl
theorem tX3_isMade_22 : tX3_isMade 22 = oK (.int (nI 0)) 23 := (congrFun teX3_isMade 22).trans rfl
theorem tX3_isMade_23 : tX3_isMade 23 = oZret := (congrFun teX3_isMade 23).trans rfl
theorem tX3_isMade_24 : tX3_isMade 24 = oInc 2 (nI 1) 27 := (congrFun teX3_isMade 24).trans rfl
theorem tX3_isMade_27 : tX3_isMade 27 = oGo 2 := (congrFun teX3_isMade 27).trans rfl
theorem tX3_isMade_30 : tX3_isMade 30 = oK (.int (nI 1)) 31 := (congrFun teX3_isMade 30).trans rfl
theorem tX3_isMade_31 : tX3_isMade 31 = oZret := (congrFun teX3_isMade 31).trans rfl
def lX3_keepNew : List (Nat × qP) := [(0, oAl 0 1), (1, oGet 3 5 4), (4, oK (.int (nI 1284)) 7), (7, oIf2lt 12 10), (10, oK (.int (-1)) 11), (11, oIret), (12, oAl 0 13), (13, oGet 3 2 16), (16, oK (.int (nI 0)) 17), (17, oAl 0 18), (18, oGet 3 0 21), (21, oAl 0 22), (22, oGet 3 5 25), (25, oK (.int (nI 5)) 26), (26, oMul 27), (27, oK (.int (nI 5)) 28), (28, oCpy 31), (31, oAl 0 32), (32, oDup 33), (33, oGet 3 5 36), (36, oK (.int (nI 1)) 37), (37, oAdd 38), (38, oPutI 3 5 41), (41, oAl 0 42), (42, oGet 3 5 45), (45, oK (.int (nI 1)) 46), (46, oSub 47), (47, oIret)]
def uX3_keepNew : Nat → qP := q_tb lX3_keepNew
set_option maxRecDepth 20000 in
theorem suX3_keepNew : q_Snd mX3_keepNew uX3_keepNew := by
  refine q_tb_ok ?_
  unfold lX3_keepNew
  refine q_fa (ok_aload_n (by decide +kernel : decode cX3_keepNew 0 = .ok (.aload_n 0, 1)) rfl rfl) ?_
  refine q_fa (ok_get (by decide +kernel : decode cX3_keepNew 1 = .ok (.getfield 27, 3)) rfl (rfl : vwCl[3]? = some (RX3, TX3, 6)) inX3 (by decide) g747) ?_
  refine q_fa (ok_sipush (by decide +kernel : decode cX3_keepNew 4 = .ok (.sipush 1284, 3)) rfl (by decide +kernel)) ?_
  refine q_fa (ok_if2lt (by decide +kernel : decode cX3_keepNew 7 = .ok (.if_icmp .lt 5, 3)) (by decide) rfl) ?_
  refine q_fa (ok_iconst (by decide +kernel : decode cX3_keepNew 10 = .ok (.iconst (-1), 1)) rfl (by decide +kernel)) ?_
  refine q_fa (ok_iret (by decide +kernel : decode cX3_keepNew 11 = .ok (.ireturn, 1)) rfl) ?_
  refine q_fa (ok_aload_n (by decide +kernel : decode cX3_keepNew 12 = .ok (.aload_n 0, 1)) rfl rfl) ?_
  refine q_fa (ok_get (by decide +kernel : decode cX3_keepNew 13 = .ok (.getfield 18, 3)) rfl (rfl : vwCl[3]? = some (RX3, TX3, 6)) inX3 (by decide) g744) ?_
  refine q_fa (ok_iconst (by decide +kernel : decode cX3_keepNew 16 = .ok (.iconst 0, 1)) rfl (by decide +kernel)) ?_
  refine q_fa (ok_aload_n (by decide +kernel : decode cX3_keepNew 17 = .ok (.aload_n 0, 1)) rfl rfl) ?_
  refine q_fa (ok_get (by decide +kernel : decode cX3_keepNew 18 = .ok (.getfield 11, 3)) rfl (rfl : vwCl[3]? = some (RX3, TX3, 6)) inX3 (by decide) g742) ?_
  refine q_fa (ok_aload_n (by decide +kernel : decode cX3_keepNew 21 = .ok (.aload_n 0, 1)) rfl rfl) ?_
  refine q_fa (ok_get (by decide +kernel : decode cX3_keepNew 22 = .ok (.getfield 27, 3)) rfl (rfl : vwCl[3]? = some (RX3, TX3, 6)) inX3 (by decide) g747) ?_
  refine q_fa (ok_iconst (by decide +kernel : decode cX3_keepNew 25 = .ok (.iconst 5, 1)) rfl (by decide +kernel)) ?_
  refine q_fa (ok_imul (by decide +kernel : decode cX3_keepNew 26 = .ok (.imul, 1)) rfl) ?_
  refine q_fa (ok_iconst (by decide +kernel : decode cX3_keepNew 27 = .ok (.iconst 5, 1)) rfl (by decide +kernel)) ?_
  refine q_fa (ok_cpy (by decide +kernel : decode cX3_keepNew 28 = .ok (.invokestatic 59, 3)) rfl g794 g796 g795 g16) ?_
  refine q_fa (ok_aload_n (by decide +kernel : decode cX3_keepNew 31 = .ok (.aload_n 0, 1)) rfl rfl) ?_
  refine q_fa (ok_dup (by decide +kernel : decode cX3_keepNew 32 = .ok (.dup, 1)) rfl) ?_
  refine q_fa (ok_get (by decide +kernel : decode cX3_keepNew 33 = .ok (.getfield 27, 3)) rfl (rfl : vwCl[3]? = some (RX3, TX3, 6)) inX3 (by decide) g747) ?_
  refine q_fa (ok_iconst (by decide +kernel : decode cX3_keepNew 36 = .ok (.iconst 1, 1)) rfl (by decide +kernel)) ?_
  refine q_fa (ok_iadd (by decide +kernel : decode cX3_keepNew 37 = .ok (.iadd, 1)) rfl) ?_
  refine q_fa (ok_putI tyX3 (by decide +kernel : decode cX3_keepNew 38 = .ok (.putfield 27, 3)) rfl (rfl : vwCl[3]? = some (RX3, TX3, 6)) inX3 tyX3_ok nmX3 (by decide) g747 (Or.inl rfl) (by decide +kernel)) ?_
  refine q_fa (ok_aload_n (by decide +kernel : decode cX3_keepNew 41 = .ok (.aload_n 0, 1)) rfl rfl) ?_
  refine q_fa (ok_get (by decide +kernel : decode cX3_keepNew 42 = .ok (.getfield 27, 3)) rfl (rfl : vwCl[3]? = some (RX3, TX3, 6)) inX3 (by decide) g747) ?_
  refine q_fa (ok_iconst (by decide +kernel : decode cX3_keepNew 45 = .ok (.iconst 1, 1)) rfl (by decide +kernel)) ?_
  refine q_fa (ok_isub (by decide +kernel : decode cX3_keepNew 46 = .ok (.isub, 1)) rfl) ?_
  refine q_fa (ok_iret (by decide +kernel : decode cX3_keepNew 47 = .ok (.ireturn, 1)) rfl) ?_
  exact q_fa0
theorem exX3_keepNew : ∃ t : Nat → qP, t = uX3_keepNew := ⟨_, rfl⟩
noncomputable def tX3_keepNew : Nat → qP := Classical.choose exX3_keepNew
theorem teX3_keepNew : tX3_keepNew = uX3_keepNew := Classical.choose_spec exX3_keepNew
theorem sX3_keepNew : q_Snd mX3_keepNew tX3_keepNew := by rw [teX3_keepNew]; exact suX3_keepNew
theorem tX3_keepNew_0 : tX3_keepNew 0 = oAl 0 1 := (congrFun teX3_keepNew 0).trans rfl
theorem tX3_keepNew_1 : tX3_keepNew 1 = oGet 3 5 4 := (congrFun teX3_keepNew 1).trans rfl
theorem tX3_keepNew_4 : tX3_keepNew 4 = oK (.int (nI 1284)) 7 := (congrFun teX3_keepNew 4).trans rfl
theorem tX3_keepNew_7 : tX3_keepNew 7 = oIf2lt 12 10 := (congrFun teX3_keepNew 7).trans rfl
theorem tX3_keepNew_10 : tX3_keepNew 10 = oK (.int (-1)) 11 := (congrFun teX3_keepNew 10).trans rfl
theorem tX3_keepNew_11 : tX3_keepNew 11 = oIret := (congrFun teX3_keepNew 11).trans rfl
theorem tX3_keepNew_12 : tX3_keepNew 12 = oAl 0 13 := (congrFun teX3_keepNew 12).trans rfl
theorem tX3_keepNew_13 : tX3_keepNew 13 = oGet 3 2 16 := (congrFun teX3_keepNew 13).trans rfl
theorem tX3_keepNew_16 : tX3_keepNew 16 = oK (.int (nI 0)) 17 := (congrFun teX3_keepNew 16).trans rfl
theorem tX3_keepNew_17 : tX3_keepNew 17 = oAl 0 18 := (congrFun teX3_keepNew 17).trans rfl
theorem tX3_keepNew_18 : tX3_keepNew 18 = oGet 3 0 21 := (congrFun teX3_keepNew 18).trans rfl
theorem tX3_keepNew_21 : tX3_keepNew 21 = oAl 0 22 := (congrFun teX3_keepNew 21).trans rfl
theorem tX3_keepNew_22 : tX3_keepNew 22 = oGet 3 5 25 := (congrFun teX3_keepNew 22).trans rfl
theorem tX3_keepNew_25 : tX3_keepNew 25 = oK (.int (nI 5)) 26 := (congrFun teX3_keepNew 25).trans rfl
theorem tX3_keepNew_26 : tX3_keepNew 26 = oMul 27 := (congrFun teX3_keepNew 26).trans rfl
theorem tX3_keepNew_27 : tX3_keepNew 27 = oK (.int (nI 5)) 28 := (congrFun teX3_keepNew 27).trans rfl
theorem tX3_keepNew_28 : tX3_keepNew 28 = oCpy 31 := (congrFun teX3_keepNew 28).trans rfl
theorem tX3_keepNew_31 : tX3_keepNew 31 = oAl 0 32 := (congrFun teX3_keepNew 31).trans rfl
theorem tX3_keepNew_32 : tX3_keepNew 32 = oDup 33 := (congrFun teX3_keepNew 32).trans rfl
theorem tX3_keepNew_33 : tX3_keepNew 33 = oGet 3 5 36 := (congrFun teX3_keepNew 33).trans rfl
theorem tX3_keepNew_36 : tX3_keepNew 36 = oK (.int (nI 1)) 37 := (congrFun teX3_keepNew 36).trans rfl
theorem tX3_keepNew_37 : tX3_keepNew 37 = oAdd 38 := (congrFun teX3_keepNew 37).trans rfl
theorem tX3_keepNew_38 : tX3_keepNew 38 = oPutI 3 5 41 := (congrFun teX3_keepNew 38).trans rfl
theorem tX3_keepNew_41 : tX3_keepNew 41 = oAl 0 42 := (congrFun teX3_keepNew 41).trans rfl
theorem tX3_keepNew_42 : tX3_keepNew 42 = oGet 3 5 45 := (congrFun teX3_keepNew 42).trans rfl
theorem tX3_keepNew_45 : tX3_keepNew 45 = oK (.int (nI 1)) 46 := (congrFun teX3_keepNew 45).trans rfl
theorem tX3_keepNew_46 : tX3_keepNew 46 = oSub 47 := (congrFun teX3_keepNew 46).trans rfl
theorem tX3_keepNew_47 : tX3_keepNew 47 = oIret := (congrFun teX3_keepNew 47).trans rfl
