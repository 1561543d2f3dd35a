def lJ6_bitCount_0f7a4 : List (Nat × qP) := [(0, oIl 0 1), (1, oIl 0 2), (2, oK (.int (nI 1)) 3), (3, oUshr 4), (4, oK (.int (nI 1431655765)) 7), (7, oAnd 8), (8, oSub 9), (9, oIs 0 10), (10, oIl 0 11), (11, oK (.int (nI 858993459)) 14), (14, oAnd 15), (15, oIl 0 16), (16, oK (.int (nI 2)) 17), (17, oUshr 18), (18, oK (.int (nI 858993459)) 21), (21, oAnd 22), (22, oAdd 23), (23, oIs 0 24), (24, oIl 0 25), (25, oIl 0 26), (26, oK (.int (nI 4)) 27), (27, oUshr 28), (28, oAdd 29), (29, oK (.int (nI 252645135)) 32), (32, oAnd 33), (33, oIs 0 34), (34, oIl 0 35), (35, oIl 0 36), (36, oK (.int (nI 8)) 38), (38, oUshr 39), (39, oAdd 40), (40, oIs 0 41), (41, oIl 0 42), (42, oIl 0 43), (43, oK (.int (nI 16)) 45), (45, oUshr 46), (46, oAdd 47), (47, oIs 0 48), (48, oIl 0 49), (49, oK (.int (nI 63)) 51), (51, oAnd 52), (52, oIret)]
def uJ6_bitCount_0f7a4 : Nat → qP := q_tb lJ6_bitCount_0f7a4
set_option maxRecDepth 20000 in
theorem suJ6_bitCount_0f7a4 : q_Snd mJ6_bitCount_0f7a4 uJ6_bitCount_0f7a4 := by
  refine q_tb_ok ?_
  unfold lJ6_bitCount_0f7a4
  refine q_fa (ok_iload_n (by decide +kernel : decode cJ6_bitCount_0f7a4 0 = .ok (.iload_n 0, 1)) rfl rfl) ?_
  refine q_fa (ok_iload_n (by decide +kernel : decode cJ6_bitCount_0f7a4 1 = .ok (.iload_n 0, 1)) rfl rfl) ?_
  refine q_fa (ok_iconst (by decide +kernel : decode cJ6_bitCount_0f7a4 2 = .ok (.iconst 1, 1)) rfl (by decide +kernel)) ?_
  refine q_fa (ok_iushr (by decide +kernel : decode cJ6_bitCount_0f7a4 3 = .ok (.iushr, 1)) rfl) ?_
  refine q_fa (ok_ldcw (by decide +kernel : decode cJ6_bitCount_0f7a4 4 = .ok (.ldc_w 265, 3)) rfl g991) ?_
  refine q_fa (ok_iand (by decide +kernel : decode cJ6_bitCount_0f7a4 7 = .ok (.iand, 1)) rfl) ?_
  refine q_fa (ok_isub (by decide +kernel : decode cJ6_bitCount_0f7a4 8 = .ok (.isub, 1)) rfl) ?_
  refine q_fa (ok_istore_n (by decide +kernel : decode cJ6_bitCount_0f7a4 9 = .ok (.istore_n 0, 1)) rfl rfl (by decide)) ?_
  refine q_fa (ok_iload_n (by decide +kernel : decode cJ6_bitCount_0f7a4 10 = .ok (.iload_n 0, 1)) rfl rfl) ?_
  refine q_fa (ok_ldcw (by decide +kernel : decode cJ6_bitCount_0f7a4 11 = .ok (.ldc_w 266, 3)) rfl g992) ?_
  refine q_fa (ok_iand (by decide +kernel : decode cJ6_bitCount_0f7a4 14 = .ok (.iand, 1)) rfl) ?_
  refine q_fa (ok_iload_n (by decide +kernel : decode cJ6_bitCount_0f7a4 15 = .ok (.iload_n 0, 1)) rfl rfl) ?_
  refine q_fa (ok_iconst (by decide +kernel : decode cJ6_bitCount_0f7a4 16 = .ok (.iconst 2, 1)) rfl (by decide +kernel)) ?_
  refine q_fa (ok_iushr (by decide +kernel : decode cJ6_bitCount_0f7a4 17 = .ok (.iushr, 1)) rfl) ?_
  refine q_fa (ok_ldcw (by decide +kernel : decode cJ6_bitCount_0f7a4 18 = .ok (.ldc_w 266, 3)) rfl g992) ?_
  refine q_fa (ok_iand (by decide +kernel : decode cJ6_bitCount_0f7a4 21 = .ok (.iand, 1)) rfl) ?_
  refine q_fa (ok_iadd (by decide +kernel : decode cJ6_bitCount_0f7a4 22 = .ok (.iadd, 1)) rfl) ?_
  refine q_fa (ok_istore_n (by decide +kernel : decode cJ6_bitCount_0f7a4 23 = .ok (.istore_n 0, 1)) rfl rfl (by decide)) ?_
  refine q_fa (ok_iload_n (by decide +kernel : decode cJ6_bitCount_0f7a4 24 = .ok (.iload_n 0, 1)) rfl rfl) ?_
  refine q_fa (ok_iload_n (by decide +kernel : decode cJ6_bitCount_0f7a4 25 = .ok (.iload_n 0, 1)) rfl rfl) ?_
  refine q_fa (ok_iconst (by decide +kernel : decode cJ6_bitCount_0f7a4 26 = .ok (.iconst 4, 1)) rfl (by decide +kernel)) ?_
  refine q_fa (ok_iushr (by decide +kernel : decode cJ6_bitCount_0f7a4 27 = .ok (.iushr, 1)) rfl) ?_
  refine q_fa (ok_iadd (by decide +kernel : decode cJ6_bitCount_0f7a4 28 = .ok (.iadd, 1)) rfl) ?_
  refine q_fa (ok_ldcw (by decide +kernel : decode cJ6_bitCount_0f7a4 29 = .ok (.ldc_w 267, 3)) rfl g993) ?_
  refine q_fa (ok_iand (by decide +kernel : decode cJ6_bitCount_0f7a4 32 = .ok (.iand, 1)) rfl) ?_
  refine q_fa (ok_istore_n (by decide +kernel : decode cJ6_bitCount_0f7a4 33 = .ok (.istore_n 0, 1)) rfl rfl (by decide)) ?_
  refine q_fa (ok_iload_n (by decide +kernel : decode cJ6_bitCount_0f7a4 34 = .ok (.iload_n 0, 1)) rfl rfl) ?_
  refine q_fa (ok_iload_n (by decide +kernel : decode cJ6_bitCount_0f7a4 35 = .ok (.iload_n 0, 1)) rfl rfl) ?_
  refine q_fa (ok_bipush (by decide +kernel : decode cJ6_bitCount_0f7a4 36 = .ok (.bipush 8, 2)) rfl (by decide +kernel)) ?_
  refine q_fa (ok_iushr (by decide +kernel : decode cJ6_bitCount_0f7a4 38 = .ok (.iushr, 1)) rfl) ?_
  refine q_fa (ok_iadd (by decide +kernel : decode cJ6_bitCount_0f7a4 39 = .ok (.iadd, 1)) rfl) ?_
  refine q_fa (ok_istore_n (by decide +kernel : decode cJ6_bitCount_0f7a4 40 = .ok (.istore_n 0, 1)) rfl rfl (by decide)) ?_
  refine q_fa (ok_iload_n (by decide +kernel : decode cJ6_bitCount_0f7a4 41 = .ok (.iload_n 0, 1)) rfl rfl) ?_
  refine q_fa (ok_iload_n (by decide +kernel : decode cJ6_bitCount_0f7a4 42 = .ok (.iload_n 0, 1)) rfl rfl) ?_
  refine q_fa (ok_bipush (by decide +kernel : decode cJ6_bitCount_0f7a4 43 = .ok (.bipush 16, 2)) rfl (by decide +kernel)) ?_
  refine q_fa (ok_iushr (by decide +kernel : decode cJ6_bitCount_0f7a4 45 = .ok (.iushr, 1)) rfl) ?_
  refine q_fa (ok_iadd (by decide +kernel : decode cJ6_bitCount_0f7a4 46 = .ok (.iadd, 1)) rfl) ?_
  refine q_fa (ok_istore_n (by decide +kernel : decode cJ6_bitCount_0f7a4 47 = .ok (.istore_n 0, 1)) rfl rfl (by decide)) ?_
  refine q_fa (ok_iload_n (by decide +kernel : decode cJ6_bitCount_0f7a4 48 = .ok (.iload_n 0, 1)) rfl rfl) ?_
  refine q_fa (ok_bipush (by decide +kernel : decode cJ6_bitCount_0f7a4 49 = .ok (.bipush 63, 2)) rfl (by decide +kernel)) ?_
  refine q_fa (ok_iand (by decide +kernel : decode cJ6_bitCount_0f7a4 51 = .ok (.iand, 1)) rfl) ?_
  refine q_fa (ok_iret (by decide +kernel : decode cJ6_bitCount_0f7a4 52 = .ok (.ireturn, 1)) rfl) ?_
  exact q_fa0
theorem exJ6_bitCount_0f7a4 : ∃ t : Nat → qP, t = uJ6_bitCount_0f7a4 := ⟨_, rfl⟩
noncomputable def tJ6_bitCount_0f7a4 : Nat → qP := Classical.choose exJ6_bitCount_0f7a4
theorem teJ6_bitCount_0f7a4 : tJ6_bitCount_0f7a4 = uJ6_bitCount_0f7a4 := Classical.choose_spec exJ6_bitCount_0f7a4
theorem sJ6_bitCount_0f7a4 : q_Snd mJ6_bitCount_0f7a4 tJ6_bitCount_0f7a4 := by rw [teJ6_bitCount_0f7a4]; exact suJ6_bitCount_0f7a4
theorem tJ6_bitCount_0f7a4_0 : tJ6_bitCount_0f7a4 0 = oIl 0 1 := (congrFun teJ6_bitCount_0f7a4 0).trans rfl
theorem tJ6_bitCount_0f7a4_1 : tJ6_bitCount_0f7a4 1 = oIl 0 2 := (congrFun teJ6_bitCount_0f7a4 1).trans rfl
theorem tJ6_bitCount_0f7a4_2 : tJ6_bitCount_0f7a4 2 = oK (.int (nI 1)) 3 := (congrFun teJ6_bitCount_0f7a4 2).trans rfl
theorem tJ6_bitCount_0f7a4_3 : tJ6_bitCount_0f7a4 3 = oUshr 4 := (congrFun teJ6_bitCount_0f7a4 3).trans rfl
theorem tJ6_bitCount_0f7a4_4 : tJ6_bitCount_0f7a4 4 = oK (.int (nI 1431655765)) 7 := (congrFun teJ6_bitCount_0f7a4 4).trans rfl
theorem tJ6_bitCount_0f7a4_7 : tJ6_bitCount_0f7a4 7 = oAnd 8 := (congrFun teJ6_bitCount_0f7a4 7).trans rfl
theorem tJ6_bitCount_0f7a4_8 : tJ6_bitCount_0f7a4 8 = oSub 9 := (congrFun teJ6_bitCount_0f7a4 8).trans rfl
theorem tJ6_bitCount_0f7a4_9 : tJ6_bitCount_0f7a4 9 = oIs 0 10 := (congrFun teJ6_bitCount_0f7a4 9).trans rfl
theorem tJ6_bitCount_0f7a4_10 : tJ6_bitCount_0f7a4 10 = oIl 0 11 := (congrFun teJ6_bitCount_0f7a4 10).trans rfl
theorem tJ6_bitCount_0f7a4_11 : tJ6_bitCount_0f7a4 11 = oK (.int (nI 858993459)) 14 := (congrFun teJ6_bitCount_0f7a4 11).trans rfl
theorem tJ6_bitCount_0f7a4_14 : tJ6_bitCount_0f7a4 14 = oAnd 15 := (congrFun teJ6_bitCount_0f7a4 14).trans rfl
theorem tJ6_bitCount_0f7a4_15 : tJ6_bitCount_0f7a4 15 = oIl 0 16 := (congrFun teJ6_bitCount_0f7a4 15).trans rfl
theorem tJ6_bitCount_0f7a4_16 : tJ6_bitCount_0f7a4 16 = oK (.int (nI 2)) 17 := (congrFun teJ6_bitCount_0f7a4 16).trans rfl
theorem tJ6_bitCount_0f7a4_17 : tJ6_bitCount_0f7a4 17 = oUshr 18 := (congrFun teJ6_bitCount_0f7a4 17).trans rfl
theorem tJ6_bitCount_0f7a4_18 : tJ6_bitCount_0f7a4 18 = oK (.int (nI 858993459)) 21 := (congrFun teJ6_bitCount_0f7a4 18).trans rfl
theorem tJ6_bitCount_0f7a4_21 : tJ6_bitCount_0f7a4 21 = oAnd 22 := (congrFun teJ6_bitCount_0f7a4 21).trans rfl
theorem tJ6_bitCount_0f7a4_22 : tJ6_bitCount_0f7a4 22 = oAdd 23 := (congrFun teJ6_bitCount_0f7a4 22).trans rfl
theorem tJ6_bitCount_0f7a4_23 : tJ6_bitCount_0f7a4 23 = oIs 0 24 := (congrFun teJ6_bitCount_0f7a4 23).trans rfl
theorem tJ6_bitCount_0f7a4_24 : tJ6_bitCount_0f7a4 24 = oIl 0 25 := (congrFun teJ6_bitCount_0f7a4 24).trans rfl
theorem tJ6_bitCount_0f7a4_25 : tJ6_bitCount_0f7a4 25 = oIl 0 26 := (congrFun teJ6_bitCount_0f7a4 25).trans rfl
theorem tJ6_bitCount_0f7a4_26 : tJ6_bitCount_0f7a4 26 = oK (.int (nI 4)) 27 := (congrFun teJ6_bitCount_0f7a4 26).trans rfl
theorem tJ6_bitCount_0f7a4_27 : tJ6_bitCount_0f7a4 27 = oUshr 28 := (congrFun teJ6_bitCount_0f7a4 27).trans rfl
theorem tJ6_bitCount_0f7a4_28 : tJ6_bitCount_0f7a4 28 = oAdd 29 := (congrFun teJ6_bitCount_0f7a4 28).trans rfl
theorem tJ6_bitCount_0f7a4_29 : tJ6_bitCount_0f7a4 29 = oK (.int (nI 252645135)) 32 := (congrFun teJ6_bitCount_0f7a4 29).trans rfl
theorem tJ6_bitCount_0f7a4_32 : tJ6_bitCount_0f7a4 32 = oAnd 33 := (congrFun teJ6_bitCount_0f7a4 32).trans rfl
theorem tJ6_bitCount_0f7a4_33 : tJ6_bitCount_0f7a4 33 = oIs 0 34 := (congrFun teJ6_bitCount_0f7a4 33).trans rfl
theorem tJ6_bitCount_0f7a4_34 : tJ6_bitCount_0f7a4 34 = oIl 0 35 := (congrFun teJ6_bitCount_0f7a4 34).trans rfl
theorem tJ6_bitCount_0f7a4_35 : tJ6_bitCount_0f7a4 35 = oIl 0 36 := (congrFun teJ6_bitCount_0f7a4 35).trans rfl
theorem tJ6_bitCount_0f7a4_36 : tJ6_bitCount_0f7a4 36 = oK (.int (nI 8)) 38 := (congrFun teJ6_bitCount_0f7a4 36).trans rfl
theorem tJ6_bitCount_0f7a4_38 : tJ6_bitCount_0f7a4 38 = oUshr 39 := (congrFun teJ6_bitCount_0f7a4 38).trans rfl
theorem tJ6_bitCount_0f7a4_39 : tJ6_bitCount_0f7a4 39 = oAdd 40 := (congrFun teJ6_bitCount_0f7a4 39).trans rfl
theorem tJ6_bitCount_0f7a4_40 : tJ6_bitCount_0f7a4 40 = oIs 0 41 := (congrFun teJ6_bitCount_0f7a4 40).trans rfl
theorem tJ6_bitCount_0f7a4_41 : tJ6_bitCount_0f7a4 41 = oIl 0 42 := (congrFun teJ6_bitCount_0f7a4 41).trans rfl
theorem tJ6_bitCount_0f7a4_42 : tJ6_bitCount_0f7a4 42 = oIl 0 43 := (congrFun teJ6_bitCount_0f7a4 42).trans rfl
theorem tJ6_bitCount_0f7a4_43 : tJ6_bitCount_0f7a4 43 = oK (.int (nI 16)) 45 := (congrFun teJ6_bitCount_0f7a4 43).trans rfl
theorem tJ6_bitCount_0f7a4_45 : tJ6_bitCount_0f7a4 45 = oUshr 46 := (congrFun teJ6_bitCount_0f7a4 45).trans rfl
theorem tJ6_bitCount_0f7a4_46 : tJ6_bitCount_0f7a4 46 = oAdd 47 := (congrFun teJ6_bitCount_0f7a4 46).trans rfl
theorem tJ6_bitCount_0f7a4_47 : tJ6_bitCount_0f7a4 47 = oIs 0 48 := (congrFun teJ6_bitCount_0f7a4 47).trans rfl
theorem tJ6_bitCount_0f7a4_48 : tJ6_bitCount_0f7a4 48 = oIl 0 49 := (congrFun teJ6_bitCount_0f7a4 48).trans rfl
theorem tJ6_bitCount_0f7a4_49 : tJ6_bitCount_0f7a4 49 = oK (.int (nI 63)) 51 := (congrFun teJ6_bitCount_0f7a4 49).trans rfl
theorem tJ6_bitCount_0f7a4_51 : tJ6_bitCount_0f7a4 51 = oAnd 52 := (congrFun teJ6_bitCount_0f7a4 51).trans rfl
theorem tJ6_bitCount_0f7a4_52 : tJ6_bitCount_0f7a4 52 = oIret := (congrFun teJ6_bitCount_0f7a4 52).trans rfl
def lJ7_fill_d0a16 : List (Nat × qP) := [(0, oK (.int (nI 0)) 1), (1, oIs 3 2), (2, oAl 0 3), (3, oAlen 4), (4, oIs 4 6), (6, oIl 3 7), (7, oIl 4 9), (9, oIf2ge 22 12), (12, oAl 0 13), (13, oIl 3 14), (14, oLl 1 15), (15, oLast 16), (16, oInc 3 (nI 1) 19), (19, oGo 6), (22, oVret)]
def uJ7_fill_d0a16 : Nat → qP := q_tb lJ7_fill_d0a16
set_option maxRecDepth 20000 in
theorem suJ7_fill_d0a16 : q_Snd mJ7_fill_d0a16 uJ7_fill_d0a16 := by
  refine q_tb_ok ?_
  unfold lJ7_fill_d0a16
  refine q_fa (ok_iconst (by decide +kernel : decode cJ7_fill_d0a16 0 = .ok (.iconst 0, 1)) rfl (by decide +kernel)) ?_
  refine q_fa (ok_istore_n (by decide +kernel : decode cJ7_fill_d0a16 1 = .ok (.istore_n 3, 1)) rfl rfl (by decide)) ?_
  refine q_fa (ok_aload_n (by decide +kernel : decode cJ7_fill_d0a16 2 = .ok (.aload_n 0, 1)) rfl rfl) ?_
  refine q_fa (ok_alen (by decide +kernel : decode cJ7_fill_d0a16 3 = .ok (.arraylength, 1)) rfl) ?_
  refine q_fa (ok_istore (by decide +kernel : decode cJ7_fill_d0a16 4 = .ok (.istore 4, 2)) rfl (by decide)) ?_
  refine q_fa (ok_iload_n (by decide +kernel : decode cJ7_fill_d0a16 6 = .ok (.iload_n 3, 1)) rfl rfl) ?_
  refine q_fa (ok_iload (by decide +kernel : decode cJ7_fill_d0a16 7 = .ok (.iload 4, 2)) rfl) ?_
  refine q_fa (ok_if2ge (by decide +kernel : decode cJ7_fill_d0a16 9 = .ok (.if_icmp .ge 13, 3)) (by decide) rfl) ?_
  refine q_fa (ok_aload_n (by decide +kernel : decode cJ7_fill_d0a16 12 = .ok (.aload_n 0, 1)) rfl rfl) ?_
  refine q_fa (ok_iload_n (by decide +kernel : decode cJ7_fill_d0a16 13 = .ok (.iload_n 3, 1)) rfl rfl) ?_
  refine q_fa (ok_lload_n (by decide +kernel : decode cJ7_fill_d0a16 14 = .ok (.lload_n 1, 1)) rfl rfl) ?_
  refine q_fa (ok_lastore (by decide +kernel : decode cJ7_fill_d0a16 15 = .ok (.lastore, 1)) rfl) ?_
  refine q_fa (ok_iinc (by decide +kernel : decode cJ7_fill_d0a16 16 = .ok (.iinc 3 1, 3)) rfl (by decide +kernel) (by decide)) ?_
  refine q_fa (ok_goto (by decide +kernel : decode cJ7_fill_d0a16 19 = .ok (.goto (-13), 3)) (by decide)) ?_
  refine q_fa (ok_vret (by decide +kernel : decode cJ7_fill_d0a16 22 = .ok (.return_, 1)) rfl) ?_
  exact q_fa0
theorem exJ7_fill_d0a16 : ∃ t : Nat → qP, t = uJ7_fill_d0a16 := ⟨_, rfl⟩
noncomputable def tJ7_fill_d0a16 : Nat → qP := Classical.choose exJ7_fill_d0a16
theorem teJ7_fill_d0a16 : tJ7_fill_d0a16 = uJ7_fill_d0a16 := Classical.choose_spec exJ7_fill_d0a16
theorem sJ7_fill_d0a16 : q_Snd mJ7_fill_d0a16 tJ7_fill_d0a16 := by rw [teJ7_fill_d0a16]; exact suJ7_fill_d0a16
theorem tJ7_fill_d0a16_0 : tJ7_fill_d0a16 0 = oK (.int (nI 0)) 1 := (congrFun teJ7_fill_d0a16 0).trans rfl
theorem tJ7_fill_d0a16_1 : tJ7_fill_d0a16 1 = oIs 3 2 := (congrFun teJ7_fill_d0a16 1).trans rfl
theorem tJ7_fill_d0a16_2 : tJ7_fill_d0a16 2 = oAl 0 3 := (congrFun teJ7_fill_d0a16 2).trans rfl
theorem tJ7_fill_d0a16_3 : tJ7_fill_d0a16 3 = oAlen 4 := (congrFun teJ7_fill_d0a16 3).trans rfl
theorem tJ7_fill_d0a16_4 : tJ7_fill_d0a16 4 = oIs 4 6 := (congrFun teJ7_fill_d0a16 4).trans rfl
theorem tJ7_fill_d0a16_6 : tJ7_fill_d0a16 6 = oIl 3 7 := (congrFun teJ7_fill_d0a16 6).trans rfl
theorem tJ7_fill_d0a16_7 : tJ7_fill_d0a16 7 = oIl 4 9 := (congrFun teJ7_fill_d0a16 7).trans rfl
theorem tJ7_fill_d0a16_9 : tJ7_fill_d0a16 9 = oIf2ge 22 12 := (congrFun teJ7_fill_d0a16 9).trans rfl
theorem tJ7_fill_d0a16_12 : tJ7_fill_d0a16 12 = oAl 0 13 := (congrFun teJ7_fill_d0a16 12).trans rfl
theorem tJ7_fill_d0a16_13 : tJ7_fill_d0a16 13 = oIl 3 14 := (congrFun teJ7_fill_d0a16 13).trans rfl
theorem tJ7_fill_d0a16_14 : tJ7_fill_d0a16 14 = oLl 1 15 := (congrFun teJ7_fill_d0a16 14).trans rfl
theorem tJ7_fill_d0a16_15 : tJ7_fill_d0a16 15 = oLast 16 := (congrFun teJ7_fill_d0a16 15).trans rfl
theorem tJ7_fill_d0a16_16 : tJ7_fill_d0a16 16 = oInc 3 (nI 1) 19 := (congrFun teJ7_fill_d0a16 16).trans rfl
theorem tJ7_fill_d0a16_19 : tJ7_fill_d0a16 19 = oGo 6 := (congrFun teJ7_fill_d0a16 19).trans rfl
theorem tJ7_fill_d0a16_22 : tJ7_fill_d0a16 22 = oVret := (congrFun teJ7_fill_d0a16 22).trans rfl
def lJ7_fill_53178 : List (Nat × qP) := [(0, oK (.int (nI 0)) 1), (1, oIs 2 2), (2, oAl 0 3), (3, oAlen 4), (4, oIs 3 5), (5, oIl 2 6), (6, oIl 3 7), (7, oIf2ge 20 10), (10, oAl 0 11), (11, oIl 2 12), (12, oIl 1 13), (13, oIast 14), (14, oInc 2 (nI 1) 17), (17, oGo 5), (20, oVret)]
def uJ7_fill_53178 : Nat → qP := q_tb lJ7_fill_53178
set_option maxRecDepth 20000 in
theorem suJ7_fill_53178 : q_Snd mJ7_fill_53178 uJ7_fill_53178 := by
  refine q_tb_ok ?_
  unfold lJ7_fill_53178
  refine q_fa (ok_iconst (by decide +kernel : decode cJ7_fill_53178 0 = .ok (.iconst 0, 1)) rfl (by decide +kernel)) ?_
  refine q_fa (ok_istore_n (by decide +kernel : decode cJ7_fill_53178 1 = .ok (.istore_n 2, 1)) rfl rfl (by decide)) ?_
  refine q_fa (ok_aload_n (by decide +kernel : decode cJ7_fill_53178 2 = .ok (.aload_n 0, 1)) rfl rfl) ?_
  refine q_fa (ok_alen (by decide +kernel : decode cJ7_fill_53178 3 = .ok (.arraylength, 1)) rfl) ?_
  refine q_fa (ok_istore_n (by decide +kernel : decode cJ7_fill_53178 4 = .ok (.istore_n 3, 1)) rfl rfl (by decide)) ?_
  refine q_fa (ok_iload_n (by decide +kernel : decode cJ7_fill_53178 5 = .ok (.iload_n 2, 1)) rfl rfl) ?_
  refine q_fa (ok_iload_n (by decide +kernel : decode cJ7_fill_53178 6 = .ok (.iload_n 3, 1)) rfl rfl) ?_
  refine q_fa (ok_if2ge (by decide +kernel : decode cJ7_fill_53178 7 = .ok (.if_icmp .ge 13, 3)) (by decide) rfl) ?_
  refine q_fa (ok_aload_n (by decide +kernel : decode cJ7_fill_53178 10 = .ok (.aload_n 0, 1)) rfl rfl) ?_
  refine q_fa (ok_iload_n (by decide +kernel : decode cJ7_fill_53178 11 = .ok (.iload_n 2, 1)) rfl rfl) ?_
  refine q_fa (ok_iload_n (by decide +kernel : decode cJ7_fill_53178 12 = .ok (.iload_n 1, 1)) rfl rfl) ?_
  refine q_fa (ok_iastore (by decide +kernel : decode cJ7_fill_53178 13 = .ok (.iastore, 1)) rfl) ?_
  refine q_fa (ok_iinc (by decide +kernel : decode cJ7_fill_53178 14 = .ok (.iinc 2 1, 3)) rfl (by decide +kernel) (by decide)) ?_
  refine q_fa (ok_goto (by decide +kernel : decode cJ7_fill_53178 17 = .ok (.goto (-12), 3)) (by decide)) ?_
  refine q_fa (ok_vret (by decide +kernel : decode cJ7_fill_53178 20 = .ok (.return_, 1)) rfl) ?_
  exact q_fa0
theorem exJ7_fill_53178 : ∃ t : Nat → qP, t = uJ7_fill_53178 := ⟨_, rfl⟩
noncomputable def tJ7_fill_53178 : Nat → qP := Classical.choose exJ7_fill_53178
theorem teJ7_fill_53178 : tJ7_fill_53178 = uJ7_fill_53178 := Classical.choose_spec exJ7_fill_53178
theorem sJ7_fill_53178 : q_Snd mJ7_fill_53178 tJ7_fill_53178 := by rw [teJ7_fill_53178]; exact suJ7_fill_53178
theorem tJ7_fill_53178_0 : tJ7_fill_53178 0 = oK (.int (nI 0)) 1 := (congrFun teJ7_fill_53178 0).trans rfl
theorem tJ7_fill_53178_1 : tJ7_fill_53178 1 = oIs 2 2 := (congrFun teJ7_fill_53178 1).trans rfl
theorem tJ7_fill_53178_2 : tJ7_fill_53178 2 = oAl 0 3 := (congrFun teJ7_fill_53178 2).trans rfl
theorem tJ7_fill_53178_3 : tJ7_fill_53178 3 = oAlen 4 := (congrFun teJ7_fill_53178 3).trans rfl
theorem tJ7_fill_53178_4 : tJ7_fill_53178 4 = oIs 3 5 := (congrFun teJ7_fill_53178 4).trans rfl
theorem tJ7_fill_53178_5 : tJ7_fill_53178 5 = oIl 2 6 := (congrFun teJ7_fill_53178 5).trans rfl
theorem tJ7_fill_53178_6 : tJ7_fill_53178 6 = oIl 3 7 := (congrFun teJ7_fill_53178 6).trans rfl
theorem tJ7_fill_53178_7 : tJ7_fill_53178 7 = oIf2ge 20 10 := (congrFun teJ7_fill_53178 7).trans rfl
theorem tJ7_fill_53178_10 : tJ7_fill_53178 10 = oAl 0 11 := (congrFun teJ7_fill_53178 10).trans rfl
theorem tJ7_fill_53178_11 : tJ7_fill_53178 11 = oIl 2 12 := (congrFun teJ7_fill_53178 11).trans rfl
theorem tJ7_fill_53178_12 : tJ7_fill_53178 12 = oIl 1 13 := (congrFun teJ7_fill_53178 12).trans rfl
theorem tJ7_fill_53178_13 : tJ7_fill_53178 13 = oIast 14 := (congrFun teJ7_fill_53178 13).trans rfl
theorem tJ7_fill_53178_14 : tJ7_fill_53178 14 = oInc 2 (nI 1) 17 := (congrFun teJ7_fill_53178 14).trans rfl
theorem tJ7_fill_53178_17 : tJ7_fill_53178 17 = oGo 5 := (congrFun teJ7_fill_53178 17).trans rfl
theorem tJ7_fill_53178_20 : tJ7_fill_53178 20 = oVret := (congrFun teJ7_fill_53178 20).trans rfl
def lX4_init : List (Nat × qP) := [(0, oAl 0 1), (1, oObj 4), (4, oIl 1 5), (5, oK (.int (nI 0)) 6), (6, oMax 9), (9, oIs 2 10), (10, oAl 0 11), (11, oIl 2 12), (12, oNewa 1 14), (14, oPutR 4 0 17), (17, oAl 0 18), (18, oIl 2 19), (19, oNewa 1 21), (21, oPutR 4 1 24), (24, oAl 0 25), (25, oIl 2 26), (26, oNewa 1 28), (28, oPutR 4 2 31), (31, oVret)]
def uX4_init : Nat → qP := q_tb lX4_init
set_option maxRecDepth 20000 in
theorem suX4_init : q_Snd mX4_init uX4_init := by
  refine q_tb_ok ?_
  unfold lX4_init
  refine q_fa (ok_aload_n (by decide +kernel : decode cX4_init 0 = .ok (.aload_n 0, 1)) rfl rfl) ?_
  refine q_fa (ok_obj (by decide +kernel : decode cX4_init 1 = .ok (.invokespecial 3, 3)) rfl g39 g24 g25) ?_
  refine q_fa (ok_iload_n (by decide +kernel : decode cX4_init 4 = .ok (.iload_n 1, 1)) rfl rfl) ?_
  refine q_fa (ok_iconst (by decide +kernel : decode cX4_init 5 = .ok (.iconst 0, 1)) rfl (by decide +kernel)) ?_
  refine q_fa (ok_max (by decide +kernel : decode cX4_init 6 = .ok (.invokestatic 9, 3)) rfl g40 g41 g4 g42) ?_
  refine q_fa (ok_istore_n (by decide +kernel : decode cX4_init 9 = .ok (.istore_n 2, 1)) rfl rfl (by decide)) ?_
  refine q_fa (ok_aload_n (by decide +kernel : decode cX4_init 10 = .ok (.aload_n 0, 1)) rfl rfl) ?_
  refine q_fa (ok_iload_n (by decide +kernel : decode cX4_init 11 = .ok (.iload_n 2, 1)) rfl rfl) ?_
  refine q_fa (ok_newa_int (by decide +kernel : decode cX4_init 12 = .ok (.newarray .int, 2)) rfl g56) ?_
  refine q_fa (ok_putR tyX4 (by decide +kernel : decode cX4_init 14 = .ok (.putfield 15, 3)) rfl (rfl : vwCl[4]? = some (RX4, TX4, 4)) inX4 tyX4_ok nmX4 (by decide) g43 (Or.inr ⟨rfl, rfl, rfl⟩) (by decide +kernel : parseFieldDescriptor (TX4 0).2.2.1 = some (tyX4 0)) (q_rfA _)) ?_
  refine q_fa (ok_aload_n (by decide +kernel : decode cX4_init 17 = .ok (.aload_n 0, 1)) rfl rfl) ?_
  refine q_fa (ok_iload_n (by decide +kernel : decode cX4_init 18 = .ok (.iload_n 2, 1)) rfl rfl) ?_
  refine q_fa (ok_newa_int (by decide +kernel : decode cX4_init 19 = .ok (.newarray .int, 2)) rfl g56) ?_
  refine q_fa (ok_putR tyX4 (by decide +kernel : decode cX4_init 21 = .ok (.putfield 21, 3)) rfl (rfl : vwCl[4]? = some (RX4, TX4, 4)) inX4 tyX4_ok nmX4 (by decide) g44 (Or.inr ⟨rfl, rfl, rfl⟩) (by decide +kernel : parseFieldDescriptor (TX4 1).2.2.1 = some (tyX4 1)) (q_rfA _)) ?_
  refine q_fa (ok_aload_n (by decide +kernel : decode cX4_init 24 = .ok (.aload_n 0, 1)) rfl rfl) ?_
  refine q_fa (ok_iload_n (by decide +kernel : decode cX4_init 25 = .ok (.iload_n 2, 1)) rfl rfl) ?_
  refine q_fa (ok_newa_int (by decide +kernel : decode cX4_init 26 = .ok (.newarray .int, 2)) rfl g56) ?_
  refine q_fa (ok_putR tyX4 (by decide +kernel : decode cX4_init 28 = .ok (.putfield 24, 3)) rfl (rfl : vwCl[4]? = some (RX4, TX4, 4)) inX4 tyX4_ok nmX4 (by decide) g45 (Or.inr ⟨rfl, rfl, rfl⟩) (by decide +kernel : parseFieldDescriptor (TX4 2).2.2.1 = some (tyX4 2)) (q_rfA _)) ?_
  refine q_fa (ok_vret (by decide +kernel : decode cX4_init 31 = .ok (.return_, 1)) rfl) ?_
  exact q_fa0
theorem exX4_init : ∃ t : Nat → qP, t = uX4_init := ⟨_, rfl⟩
noncomputable def tX4_init : Nat → qP := Classical.choose exX4_init
theorem teX4_init : tX4_init = uX4_init := Classical.choose_spec exX4_init
theorem sX4_init : q_Snd mX4_init tX4_init := by rw [teX4_init]; exact suX4_init
theorem tX4_init_0 : tX4_init 0 = oAl 0 1 := (congrFun teX4_init 0).trans rfl
theorem tX4_init_1 : tX4_init 1 = oObj 4 := (congrFun teX4_init 1).trans rfl
theorem tX4_init_4 : tX4_init 4 = oIl 1 5 := (congrFun teX4_init 4).trans rfl
theorem tX4_init_5 : tX4_init 5 = oK (.int (nI 0)) 6 := (congrFun teX4_init 5).trans rfl
theorem tX4_init_6 : tX4_init 6 = oMax 9 := (congrFun teX4_init 6).trans rfl
theorem tX4_init_9 : tX4_init 9 = oIs 2 10 := (congrFun teX4_init 9).trans rfl
theorem tX4_init_10 : tX4_init 10 = oAl 0 11 := (congrFun teX4_init 10).trans rfl
theorem tX4_init_11 : tX4_init 11 = oIl 2 12 := (congrFun teX4_init 11).trans rfl
theorem tX4_init_12 : tX4_init 12 = oNewa 1 14 := (congrFun teX4_init 12).trans rfl
theorem tX4_init_14 : tX4_init 14 = oPutR 4 0 17 := (congrFun teX4_init 14).trans rfl
theorem tX4_init_17 : tX4_init 17 = oAl 0 18 := (congrFun teX4_init 17).trans rfl
theorem tX4_init_18 : tX4_init 18 = oIl 2 19 := (congrFun teX4_init 18).trans rfl
theorem tX4_init_19 : tX4_init 19 = oNewa 1 21 := (congrFun teX4_init 19).trans rfl
theorem tX4_init_21 : tX4_init 21 = oPutR 4 1 24 := (congrFun teX4_init 21).trans rfl
theorem tX4_init_24 : tX4_init 24 = oAl 0 25 := (congrFun teX4_init 24).trans rfl
theorem tX4_init_25 : tX4_init 25 = oIl 2 26 := (congrFun teX4_init 25).trans rfl
theorem tX4_init_26 : tX4_init 26 = oNewa 1 28 := (congrFun teX4_init 26).trans rfl
theorem tX4_init_28 : tX4_init 28 = oPutR 4 2 31 := (congrFun teX4_init 28).trans rfl
theorem tX4_init_31 : tX4_init 31 = oVret := (congrFun teX4_init 31).trans rfl
def lX4_size : List (Nat × qP) := [(0, oAl 0 1), (1, oGet 4 3 4), (4, oIret)]
def uX4_size : Nat → qP := q_tb lX4_size
set_option maxRecDepth 20000 in
theorem suX4_size : q_Snd mX4_size uX4_size := by
  refine q_tb_ok ?_
  unfold lX4_size
  refine q_fa (ok_aload_n (by decide +kernel : decode cX4_size 0 = .ok (.aload_n 0, 1)) rfl rfl) ?_
  refine q_fa (ok_get (by decide +kernel : decode cX4_size 1 = .ok (.getfield 27, 3)) rfl (rfl : vwCl[4]? = some (RX4, TX4, 4)) inX4 (by decide) g46) ?_
  refine q_fa (ok_iret (by decide +kernel : decode cX4_size 4 = .ok (.ireturn, 1)) rfl) ?_
  exact q_fa0
theorem exX4_size : ∃ t : Nat → qP, t = uX4_size := ⟨_, rfl⟩
noncomputable def tX4_size : Nat → qP := Classical.choose exX4_size
theorem teX4_size : tX4_size = uX4_size := Classical.choose_spec exX4_size
theorem sX4_size : q_Snd mX4_size tX4_size := by rw [teX4_size]; exact suX4_size
theorem tX4_size_0 : tX4_size 0 = oAl 0 1 := (congrFun teX4_size 0).trans rfl
theorem tX4_size_1 : tX4_size 1 = oGet 4 3 4 := (congrFun teX4_size 1).trans rfl
theorem tX4_size_4 : tX4_size 4 = oIret := (congrFun teX4_size 4).trans rfl
def lX4_clear : List (Nat × qP) := [(0, oAl 0 1), (1, oK (.int (nI 0)) 2), (2, oPutI 4 3 5), (5, oVret)]
def uX4_clear : Nat → qP := q_tb lX4_clear
set_option maxRecDepth 20000 in
theorem suX4_clear : q_Snd mX4_clear uX4_clear := by
  refine q_tb_ok ?_
  unfold lX4_clear
  refine q_fa (ok_aload_n (by decide +kernel : decode cX4_clear 0 = .ok (.aload_n 0, 1)) rfl rfl) ?_
  refine q_fa (ok_iconst (by decide +kernel : decode cX4_clear 1 = .ok (.iconst 0, 1)) rfl (by decide +kernel)) ?_
  refine q_fa (ok_putI tyX4 (by decide +kernel : decode cX4_clear 2 = .ok (.putfield 27, 3)) rfl (rfl : vwCl[4]? = some (RX4, TX4, 4)) inX4 tyX4_ok nmX4 (by decide) g46 (Or.inl rfl) (by decide +kernel)) ?_
  refine q_fa (ok_vret (by decide +kernel : decode cX4_clear 5 = .ok (.return_, 1)) rfl) ?_
  exact q_fa0
theorem exX4_clear : ∃ t : Nat → qP, t = uX4_clear := ⟨_, rfl⟩
noncomputable def tX4_clear : Nat → qP := Classical.choose exX4_clear
theorem teX4_clear : tX4_clear = uX4_clear := Classical.choose_spec exX4_clear
theorem sX4_clear : q_Snd mX4_clear tX4_clear := by rw [teX4_clear]; exact suX4_clear
theorem tX4_clear_0 : tX4_clear 0 = oAl 0 1 := (congrFun teX4_clear 0).trans rfl
theorem tX4_clear_1 : tX4_clear 1 = oK (.int (nI 0)) 2 := (congrFun teX4_clear 1).trans rfl
theorem tX4_clear_2 : tX4_clear 2 = oPutI 4 3 5 := (congrFun teX4_clear 2).trans rfl
theorem tX4_clear_5 : tX4_clear 5 = oVret := (congrFun teX4_clear 5).trans rfl
def lX4_add : List (Nat × qP) := [(0, oAl 0 1), (1, oGet 4 3 4), (4, oAl 0 5), (5, oGet 4 0 8), (8, oAlen 9), (9, oIf2lt 14 12), (12, oK (.int (-1)) 13), (13, oIret), (14, oAl 0 15), (15, oGet 4 0 18), (18, oAl 0 19), (19, oGet 4 3 22), (22, oIl 1 23), (23, oIast 24), (24, oAl 0 25), (25, oGet 4 1 28), (28, oAl 0 29), (29, oGet 4 3 32), (32, oIl 2 33), (33, oIast 34), (34, oAl 0 35), (35, oGet 4 2 38), (38, oAl 0 39), (39, oGet 4 3 42), (42, oIl 3 43), (43, oIast 44), (44, oAl 0 45), (45, oDup 46), (46, oGet 4 3 49), (49, oK (.int (nI 1)) 50), (50, oAdd 51), (51, oPutI 4 3 54), (54, oAl 0 55), (55, oGet 4 3 58), (58, oK (.int (nI 1)) 59), (59, oSub 60), (60, oIret)]
def uX4_add : Nat → qP := q_tb lX4_add
set_option maxRecDepth 20000 in
theorem suX4_add : q_Snd mX4_add uX4_add := by
  refine q_tb_ok ?_
  unfold lX4_add
  refine q_fa (ok_aload_n (by decide +kernel : decode cX4_add 0 = .ok (.aload_n 0, 1)) rfl rfl) ?_
  refine q_fa (ok_get (by decide +kernel : decode cX4_add 1 = .ok (.getfield 27, 3)) rfl (rfl : vwCl[4]? = some (RX4, TX4, 4)) inX4 (by decide) g46) ?_
  refine q_fa (ok_aload_n (by decide +kernel : decode cX4_add 4 = .ok (.aload_n 0, 1)) rfl rfl) ?_
  refine q_fa (ok_get (by decide +kernel : decode cX4_add 5 = .ok (.getfield 15, 3)) rfl (rfl : vwCl[4]? = some (RX4, TX4, 4)) inX4 (by decide) g43) ?_
  refine q_fa (ok_alen (by decide +kernel : decode cX4_add 8 = .ok (.arraylength, 1)) rfl) ?_
  refine q_fa (ok_if2lt (by decide +kernel : decode cX4_add 9 = .ok (.if_icmp .lt 5, 3)) (by decide) rfl) ?_
  refine q_fa (ok_iconst (by decide +kernel : decode cX4_add 12 = .ok (.iconst (-1), 1)) rfl (by decide +kernel)) ?_
  refine q_fa (ok_iret (by decide +kernel : decode cX4_add 13 = .ok (.ireturn, 1)) rfl) ?_
  refine q_fa (ok_aload_n (by decide +kernel : decode cX4_add 14 = .ok (.aload_n 0, 1)) rfl rfl) ?_
  refine q_fa (ok_get (by decide +kernel : decode cX4_add 15 = .ok (.getfield 15, 3)) rfl (rfl : vwCl[4]? = some (RX4, TX4, 4)) inX4 (by decide) g43) ?_
  refine q_fa (ok_aload_n (by decide +kernel : decode cX4_add 18 = .ok (.aload_n 0, 1)) rfl rfl) ?_
  refine q_fa (ok_get (by decide +kernel : decode cX4_add 19 = .ok (.getfield 27, 3)) rfl (rfl : vwCl[4]? = some (RX4, TX4, 4)) inX4 (by decide) g46) ?_
  refine q_fa (ok_iload_n (by decide +kernel : decode cX4_add 22 = .ok (.iload_n 1, 1)) rfl rfl) ?_
  refine q_fa (ok_iastore (by decide +kernel : decode cX4_add 23 = .ok (.iastore, 1)) rfl) ?_
  refine q_fa (ok_aload_n (by decide +kernel : decode cX4_add 24 = .ok (.aload_n 0, 1)) rfl rfl) ?_
  refine q_fa (ok_get (by decide +kernel : decode cX4_add 25 = .ok (.getfield 21, 3)) rfl (rfl : vwCl[4]? = some (RX4, TX4, 4)) inX4 (by decide) g44) ?_
  refine q_fa (ok_aload_n (by decide +kernel : decode cX4_add 28 = .ok (.aload_n 0, 1)) rfl rfl) ?_
  refine q_fa (ok_get (by decide +kernel : decode cX4_add 29 = .ok (.getfield 27, 3)) rfl (rfl : vwCl[4]? = some (RX4, TX4, 4)) inX4 (by decide) g46) ?_
  refine q_fa (ok_iload_n (by decide +kernel : decode cX4_add 32 = .ok (.iload_n 2, 1)) rfl rfl) ?_
  refine q_fa (ok_iastore (by decide +kernel : decode cX4_add 33 = .ok (.iastore, 1)) rfl) ?_
  refine q_fa (ok_aload_n (by decide +kernel : decode cX4_add 34 = .ok (.aload_n 0, 1)) rfl rfl) ?_
  refine q_fa (ok_get (by decide +kernel : decode cX4_add 35 = .ok (.getfield 24, 3)) rfl (rfl : vwCl[4]? = some (RX4, TX4, 4)) inX4 (by decide) g45) ?_
  refine q_fa (ok_aload_n (by decide +kernel : decode cX4_add 38 = .ok (.aload_n 0, 1)) rfl rfl) ?_
  refine q_fa (ok_get (by decide +kernel : decode cX4_add 39 = .ok (.getfield 27, 3)) rfl (rfl : vwCl[4]? = some (RX4, TX4, 4)) inX4 (by decide) g46) ?_
  refine q_fa (ok_iload_n (by decide +kernel : decode cX4_add 42 = .ok (.iload_n 3, 1)) rfl rfl) ?_
  refine q_fa (ok_iastore (by decide +kernel : decode cX4_add 43 = .ok (.iastore, 1)) rfl) ?_
  refine q_fa (ok_aload_n (by decide +kernel : decode cX4_add 44 = .ok (.aload_n 0, 1)) rfl rfl) ?_
  refine q_fa (ok_dup (by decide +kernel : decode cX4_add 45 = .ok (.dup, 1)) rfl) ?_
  refine q_fa (ok_get (by decide +kernel : decode cX4_add 46 = .ok (.getfield 27, 3)) rfl (rfl : vwCl[4]? = some (RX4, TX4, 4)) inX4 (by decide) g46) ?_
  refine q_fa (ok_iconst (by decide +kernel : decode cX4_add 49 = .ok (.iconst 1, 1)) rfl (by decide +kernel)) ?_
  refine q_fa (ok_iadd (by decide +kernel : decode cX4_add 50 = .ok (.iadd, 1)) rfl) ?_
  refine q_fa (ok_putI tyX4 (by decide +kernel : decode cX4_add 51 = .ok (.putfield 27, 3)) rfl (rfl : vwCl[4]? = some (RX4, TX4, 4)) inX4 tyX4_ok nmX4 (by decide) g46 (Or.inl rfl) (by decide +kernel)) ?_
  refine q_fa (ok_aload_n (by decide +kernel : decode cX4_add 54 = .ok (.aload_n 0, 1)) rfl rfl) ?_
  refine q_fa (ok_get (by decide +kernel : decode cX4_add 55 = .ok (.getfield 27, 3)) rfl (rfl : vwCl[4]? = some (RX4, TX4, 4)) inX4 (by decide) g46) ?_
  refine q_fa (ok_iconst (by decide +kernel : decode cX4_add 58 = .ok (.iconst 1, 1)) rfl (by decide +kernel)) ?_
  refine q_fa (ok_isub (by decide +kernel : decode cX4_add 59 = .ok (.isub, 1)) rfl) ?_
  refine q_fa (ok_iret (by decide +kernel : decode cX4_add 60 = .ok (.ireturn, 1)) rfl) ?_
  exact q_fa0
theorem exX4_add : ∃ t : Nat → qP, t = uX4_add := ⟨_, rfl⟩
noncomputable def tX4_add : Nat → qP := Classical.choose exX4_add
theorem teX4_add : tX4_add = uX4_add := Classical.choose_spec exX4_add
theorem sX4_add : q_Snd mX4_add tX4_add := by rw [teX4_add]; exact suX4_add
theorem tX4_add_0 : tX4_add 0 = oAl 0 1 := (congrFun teX4_add 0).trans rfl
theorem tX4_add_1 : tX4_add 1 = oGet 4 3 4 := (congrFun teX4_add 1).trans rfl
theorem tX4_add_4 : tX4_add 4 = oAl 0 5 := (congrFun teX4_add 4).trans rfl
theorem tX4_add_5 : tX4_add 5 = oGet 4 0 8 := (congrFun teX4_add 5).trans rfl
theorem tX4_add_8 : tX4_add 8 = oAlen 9 := (congrFun teX4_add 8).trans rfl
theorem tX4_add_9 : tX4_add 9 = oIf2lt 14 12 := (congrFun teX4_add 9).trans rfl
theorem tX4_add_12 : tX4_add 12 = oK (.int (-1)) 13 := (congrFun teX4_add 12).trans rfl
theorem tX4_add_13 : tX4_add 13 = oIret := (congrFun teX4_add 13).trans rfl
theorem tX4_add_14 : tX4_add 14 = oAl 0 15 := (congrFun teX4_add 14).trans rfl
theorem tX4_add_15 : tX4_add 15 = oGet 4 0 18 := (congrFun teX4_add 15).trans rfl
theorem tX4_add_18 : tX4_add 18 = oAl 0 19 := (congrFun teX4_add 18).trans rfl
theorem tX4_add_19 : tX4_add 19 = oGet 4 3 22 := (congrFun teX4_add 19).trans rfl
theorem tX4_add_22 : tX4_add 22 = oIl 1 23 := (congrFun teX4_add 22).trans rfl
theorem tX4_add_23 : tX4_add 23 = oIast 24 := (congrFun teX4_add 23).trans rfl
theorem tX4_add_24 : tX4_add 24 = oAl 0 25 := (congrFun teX4_add 24).trans rfl
theorem tX4_add_25 : tX4_add 25 = oGet 4 1 28 := (congrFun teX4_add 25).trans rfl
theorem tX4_add_28 : tX4_add 28 = oAl 0 29 := (congrFun teX4_add 28).trans rfl
theorem tX4_add_29 : tX4_add 29 = oGet 4 3 32 := (congrFun teX4_add 29).trans rfl
theorem tX4_add_32 : tX4_add 32 = oIl 2 33 := (congrFun teX4_add 32).trans rfl
theorem tX4_add_33 : tX4_add 33 = oIast 34 := (congrFun teX4_add 33).trans rfl
theorem tX4_add_34 : tX4_add 34 = oAl 0 35 := (congrFun teX4_add 34).trans rfl
theorem tX4_add_35 : tX4_add 35 = oGet 4 2 38 := (congrFun teX4_add 35).trans rfl
theorem tX4_add_38 : tX4_add 38 = oAl 0 39 := (congrFun teX4_add 38).trans rfl
theorem tX4_add_39 : tX4_add 39 = oGet 4 3 42 := (congrFun teX4_add 39).trans rfl
theorem tX4_add_42 : tX4_add 42 = oIl 3 43 := (congrFun teX4_add 42).trans rfl
theorem tX4_add_43 : tX4_add 43 = oIast 44 := (congrFun teX4_add 43).trans rfl
theorem tX4_add_44 : tX4_add 44 = oAl 0 45 := (congrFun teX4_add 44).trans rfl
theorem tX4_add_45 : tX4_add 45 = oDup 46 := (congrFun teX4_add 45).trans rfl
theorem tX4_add_46 : tX4_add 46 = oGet 4 3 49 := (congrFun teX4_add 46).trans rfl
theorem tX4_add_49 : tX4_add 49 = oK (.int (nI 1)) 50 := (congrFun teX4_add 49).trans rfl
theorem tX4_add_50 : tX4_add 50 = oAdd 51 := (congrFun teX4_add 50).trans rfl
theorem tX4_add_51 : tX4_add 51 = oPutI 4 3 54 := (congrFun teX4_add 51).trans rfl
theorem tX4_add_54 : tX4_add 54 = oAl 0 55 := (congrFun teX4_add 54).trans rfl
theorem tX4_add_55 : tX4_add 55 = oGet 4 3 58 := (congrFun teX4_add 55).trans rfl
theorem tX4_add_58 : tX4_add 58 = oK (.int (nI 1)) 59 := (congrFun teX4_add 58).trans rfl
theorem tX4_add_59 : tX4_add 59 = oSub 60 := (congrFun teX4_add 59).trans rfl
theorem tX4_add_60 : tX4_add 60 = oIret := (congrFun teX4_add 60).trans rfl
def lX4_kindOf : List (Nat × qP) := [(0, oIl 1 1), (1, oIf1lt 21 4), (4, oIl 1 5), (5, oAl 0 6), (6, oGet 4 3 9), (9, oIf2ge 21 12), (12, oAl 0 13), (13, oGet 4 0 16), (16, oIl 1 17), (17, oIald 18), (18, oGo 22), (21, oK (.int (-1)) 22), (22, oIret)]
def uX4_kindOf : Nat → qP := q_tb lX4_kindOf
set_option maxRecDepth 20000 in
theorem suX4_kindOf : q_Snd mX4_kindOf uX4_kindOf := by
  refine q_tb_ok ?_
  unfold lX4_kindOf
  refine q_fa (ok_iload_n (by decide +kernel : decode cX4_kindOf 0 = .ok (.iload_n 1, 1)) rfl rfl) ?_
  refine q_fa (ok_if1lt (by decide +kernel : decode cX4_kindOf 1 = .ok (.ifCond .lt 20, 3)) (by decide) rfl) ?_
  refine q_fa (ok_iload_n (by decide +kernel : decode cX4_kindOf 4 = .ok (.iload_n 1, 1)) rfl rfl) ?_
  refine q_fa (ok_aload_n (by decide +kernel : decode cX4_kindOf 5 = .ok (.aload_n 0, 1)) rfl rfl) ?_
  refine q_fa (ok_get (by decide +kernel : decode cX4_kindOf 6 = .ok (.getfield 27, 3)) rfl (rfl : vwCl[4]? = some (RX4, TX4, 4)) inX4 (by decide) g46) ?_
  refine q_fa (ok_if2ge (by decide +kernel : decode cX4_kindOf 9 = .ok (.if_icmp .ge 12, 3)) (by decide) rfl) ?_
  refine q_fa (ok_aload_n (by decide +kernel : decode cX4_kindOf 12 = .ok (.aload_n 0, 1)) rfl rfl) ?_
  refine q_fa (ok_get (by decide +kernel : decode cX4_kindOf 13 = .ok (.getfield 15, 3)) rfl (rfl : vwCl[4]? = some (RX4, TX4, 4)) inX4 (by decide) g43) ?_
  refine q_fa (ok_iload_n (by decide +kernel : decode cX4_kindOf 16 = .ok (.iload_n 1, 1)) rfl rfl) ?_
  refine q_fa (ok_iaload (by decide +kernel : decode cX4_kindOf 17 = .ok (.iaload, 1)) rfl) ?_
  refine q_fa (ok_goto (by decide +kernel : decode cX4_kindOf 18 = .ok (.goto 4, 3)) (by decide)) ?_
  refine q_fa (ok_iconst (by decide +kernel : decode cX4_kindOf 21 = .ok (.iconst (-1), 1)) rfl (by decide +kernel)) ?_
  refine q_fa (ok_iret (by decide +kernel : decode cX4_kindOf 22 = .ok (.ireturn, 1)) rfl) ?_
  exact q_fa0
theorem exX4_kindOf : ∃ t : Nat → qP, t = uX4_kindOf := ⟨_, rfl⟩
noncomputable def tX4_kindOf : Nat → qP := Classical.choose exX4_kindOf
theorem teX4_kindOf : tX4_kindOf = uX4_kindOf := Classical.choose_spec exX4_kindOf
theorem sX4_kindOf : q_Snd mX4_kindOf tX4_kindOf := by rw [teX4_kindOf]; exact suX4_kindOf
theorem tX4_kindOf_0 : tX4_kindOf 0 = oIl 1 1 := (congrFun teX4_kindOf 0).trans rfl
theorem tX4_kindOf_1 : tX4_kindOf 1 = oIf1lt 21 4 := (congrFun teX4_kindOf 1).trans rfl
theorem tX4_kindOf_4 : tX4_kindOf 4 = oIl 1 5 := (congrFun teX4_kindOf 4).trans rfl
theorem tX4_kindOf_5 : tX4_kindOf 5 = oAl 0 6 := (congrFun teX4_kindOf 5).trans rfl
theorem tX4_kindOf_6 : tX4_kindOf 6 = oGet 4 3 9 := (congrFun teX4_kindOf 6).trans rfl
theorem tX4_kindOf_9 : tX4_kindOf 9 = oIf2ge 21 12 := (congrFun teX4_kindOf 9).trans rfl
theorem tX4_kindOf_12 : tX4_kindOf 12 = oAl 0 13 := (congrFun teX4_kindOf 12).trans rfl
theorem tX4_kindOf_13 : tX4_kindOf 13 = oGet 4 0 16 := (congrFun teX4_kindOf 13).trans rfl
theorem tX4_kindOf_16 : tX4_kindOf 16 = oIl 1 17 := (congrFun teX4_kindOf 16).trans rfl
theorem tX4_kindOf_17 : tX4_kindOf 17 = oIald 18 := (congrFun teX4_kindOf 17).trans rfl
theorem tX4_kindOf_18 : tX4_kindOf 18 = oGo 22 := (congrFun teX4_kindOf 18).trans rfl
theorem tX4_kindOf_21 : tX4_kindOf 21 = oK (.int (-1)) 22 := (congrFun teX4_kindOf 21).trans rfl
theorem tX4_kindOf_22 : tX4_kindOf 22 = oIret := (congrFun teX4_kindOf 22).trans rfl
def lX4_leftOf : List (Nat × qP) := [(0, oIl 1 1), (1, oIf1lt 21 4), (4, oIl 1 5), (5, oAl 0 6), (6, oGet 4 3 9), (9, oIf2ge 21 12), (12, oAl 0 13), (13, oGet 4 1 16), (16, oIl 1 17), (17, oIald 18), (18, oGo 22), (21, oK (.int (-1)) 22), (22, oIret)]
def uX4_leftOf : Nat → qP := q_tb lX4_leftOf
set_option maxRecDepth 20000 in
theorem suX4_leftOf : q_Snd mX4_leftOf uX4_leftOf := by
  refine q_tb_ok ?_
  unfold lX4_leftOf
  refine q_fa (ok_iload_n (by decide +kernel : decode cX4_leftOf 0 = .ok (.iload_n 1, 1)) rfl rfl) ?_
  refine q_fa (ok_if1lt (by decide +kernel : decode cX4_leftOf 1 = .ok (.ifCond .lt 20, 3)) (by decide) rfl) ?_
  refine q_fa (ok_iload_n (by decide +kernel : decode cX4_leftOf 4 = .ok (.iload_n 1, 1)) rfl rfl) ?_
  refine q_fa (ok_aload_n (by decide +kernel : decode cX4_leftOf 5 = .ok (.aload_n 0, 1)) rfl rfl) ?_
  refine q_fa (ok_get (by decide +kernel : decode cX4_leftOf 6 = .ok (.getfield 27, 3)) rfl (rfl : vwCl[4]? = some (RX4, TX4, 4)) inX4 (by decide) g46) ?_
  refine q_fa (ok_if2ge (by decide +kernel : decode cX4_leftOf 9 = .ok (.if_icmp .ge 12, 3)) (by decide) rfl) ?_
  refine q_fa (ok_aload_n (by decide +kernel : decode cX4_leftOf 12 = .ok (.aload_n 0, 1)) rfl rfl) ?_
  refine q_fa (ok_get (by decide +kernel : decode cX4_leftOf 13 = .ok (.getfield 21, 3)) rfl (rfl : vwCl[4]? = some (RX4, TX4, 4)) inX4 (by decide) g44) ?_
  refine q_fa (ok_iload_n (by decide +kernel : decode cX4_leftOf 16 = .ok (.iload_n 1, 1)) rfl rfl) ?_
  refine q_fa (ok_iaload (by decide +kernel : decode cX4_leftOf 17 = .ok (.iaload, 1)) rfl) ?_
  refine q_fa (ok_goto (by decide +kernel : decode cX4_leftOf 18 = .ok (.goto 4, 3)) (by decide)) ?_
  refine q_fa (ok_iconst (by decide +kernel : decode cX4_leftOf 21 = .ok (.iconst (-1), 1)) rfl (by decide +kernel)) ?_
  refine q_fa (ok_iret (by decide +kernel : decode cX4_leftOf 22 = .ok (.ireturn, 1)) rfl) ?_
  exact q_fa0
theorem exX4_leftOf : ∃ t : Nat → qP, t = uX4_leftOf := ⟨_, rfl⟩
noncomputable def tX4_leftOf : Nat → qP := Classical.choose exX4_leftOf
theorem teX4_leftOf : tX4_leftOf = uX4_leftOf := Classical.choose_spec exX4_leftOf
theorem sX4_leftOf : q_Snd mX4_leftOf tX4_leftOf := by rw [teX4_leftOf]; exact suX4_leftOf
theorem tX4_leftOf_0 : tX4_leftOf 0 = oIl 1 1 := (congrFun teX4_leftOf 0).trans rfl
theorem tX4_leftOf_1 : tX4_leftOf 1 = oIf1lt 21 4 := (congrFun teX4_leftOf 1).trans rfl
theorem tX4_leftOf_4 : tX4_leftOf 4 = oIl 1 5 := (congrFun teX4_leftOf 4).trans rfl
theorem tX4_leftOf_5 : tX4_leftOf 5 = oAl 0 6 := (congrFun teX4_leftOf 5).trans rfl
theorem tX4_leftOf_6 : tX4_leftOf 6 = oGet 4 3 9 := (congrFun teX4_leftOf 6).trans rfl
theorem tX4_leftOf_9 : tX4_leftOf 9 = oIf2ge 21 12 := (congrFun teX4_leftOf 9).trans rfl
theorem tX4_leftOf_12 : tX4_leftOf 12 = oAl 0 13 := (congrFun teX4_leftOf 12).trans rfl
theorem tX4_leftOf_13 : tX4_leftOf 13 = oGet 4 1 16 := (congrFun teX4_leftOf 13).trans rfl
theorem tX4_leftOf_16 : tX4_leftOf 16 = oIl 1 17 := (congrFun teX4_leftOf 16).trans rfl
theorem tX4_leftOf_17 : tX4_leftOf 17 = oIald 18 := (congrFun teX4_leftOf 17).trans rfl
theorem tX4_leftOf_18 : tX4_leftOf 18 = oGo 22 := (congrFun teX4_leftOf 18).trans rfl
theorem tX4_leftOf_21 : tX4_leftOf 21 = oK (.int (-1)) 22 := (congrFun teX4_leftOf 21).trans rfl
theorem tX4_leftOf_22 : tX4_leftOf 22 = oIret := (congrFun teX4_leftOf 22).trans rfl
def lX4_rightOf : List (Nat × qP) := [(0, oIl 1 1), (1, oIf1lt 21 4), (4, oIl 1 5), (5, oAl 0 6), (6, oGet 4 3 9), (9, oIf2ge 21 12), (12, oAl 0 13), (13, oGet 4 2 16), (16, oIl 1 17), (17, oIald 18), (18, oGo 22), (21, oK (.int (-1)) 22), (22, oIret)]
def uX4_rightOf : Nat → qP := q_tb lX4_rightOf
set_option maxRecDepth 20000 in
theorem suX4_rightOf : q_Snd mX4_rightOf uX4_rightOf := by
  refine q_tb_ok ?_
  unfold lX4_rightOf
  refine q_fa (ok_iload_n (by decide +kernel : decode cX4_rightOf 0 = .ok (.iload_n 1, 1)) rfl rfl) ?_
  refine q_fa (ok_if1lt (by decide +kernel : decode cX4_rightOf 1 = .ok (.ifCond .lt 20, 3)) (by decide) rfl) ?_
  refine q_fa (ok_iload_n (by decide +kernel : decode cX4_rightOf 4 = .ok (.iload_n 1, 1)) rfl rfl) ?_
  refine q_fa (ok_aload_n (by decide +kernel : decode cX4_rightOf 5 = .ok (.aload_n 0, 1)) rfl rfl) ?_
  refine q_fa (ok_get (by decide +kernel : decode cX4_rightOf 6 = .ok (.getfield 27, 3)) rfl (rfl : vwCl[4]? = some (RX4, TX4, 4)) inX4 (by decide) g46) ?_
  refine q_fa (ok_if2ge (by decide +kernel : decode cX4_rightOf 9 = .ok (.if_icmp .ge 12, 3)) (by decide) rfl) ?_
  refine q_fa (ok_aload_n (by decide +kernel : decode cX4_rightOf 12 = .ok (.aload_n 0, 1)) rfl rfl) ?_
  refine q_fa (ok_get (by decide +kernel : decode cX4_rightOf 13 = .ok (.getfield 24, 3)) rfl (rfl : vwCl[4]? = some (RX4, TX4, 4)) inX4 (by decide) g45) ?_
  refine q_fa (ok_iload_n (by decide +kernel : decode cX4_rightOf 16 = .ok (.iload_n 1, 1)) rfl rfl) ?_
  refine q_fa (ok_iaload (by decide +kernel : decode cX4_rightOf 17 = .ok (.iaload, 1)) rfl) ?_
  refine q_fa (ok_goto (by decide +kernel : decode cX4_rightOf 18 = .ok (.goto 4, 3)) (by decide)) ?_
  refine q_fa (ok_iconst (by decide +kernel : decode cX4_rightOf 21 = .ok (.iconst (-1), 1)) rfl (by decide +kernel)) ?_
  refine q_fa (ok_iret (by decide +kernel : decode cX4_rightOf 22 = .ok (.ireturn, 1)) rfl) ?_
  exact q_fa0
theorem exX4_rightOf : ∃ t : Nat → qP, t = uX4_rightOf := ⟨_, rfl⟩
noncomputable def tX4_rightOf : Nat → qP := Classical.choose exX4_rightOf
theorem teX4_rightOf : tX4_rightOf = uX4_rightOf := Classical.choose_spec exX4_rightOf
theorem sX4_rightOf : q_Snd mX4_rightOf tX4_rightOf := by rw [teX4_rightOf]; exact suX4_rightOf
theorem tX4_rightOf_0 : tX4_rightOf 0 = oIl 1 1 := (congrFun teX4_rightOf 0).trans rfl
theorem tX4_rightOf_1 : tX4_rightOf 1 = oIf1lt 21 4 := (congrFun teX4_rightOf 1).trans rfl
theorem tX4_rightOf_4 : tX4_rightOf 4 = oIl 1 5 := (congrFun teX4_rightOf 4).trans rfl
theorem tX4_rightOf_5 : tX4_rightOf 5 = oAl 0 6 := (congrFun teX4_rightOf 5).trans rfl
theorem tX4_rightOf_6 : tX4_rightOf 6 = oGet 4 3 9 := (congrFun teX4_rightOf 6).trans rfl
theorem tX4_rightOf_9 : tX4_rightOf 9 = oIf2ge 21 12 := (congrFun teX4_rightOf 9).trans rfl
theorem tX4_rightOf_12 : tX4_rightOf 12 = oAl 0 13 := (congrFun teX4_rightOf 12).trans rfl
theorem tX4_rightOf_13 : tX4_rightOf 13 = oGet 4 2 16 := (congrFun teX4_rightOf 13).trans rfl
theorem tX4_rightOf_16 : tX4_rightOf 16 = oIl 1 17 := (congrFun teX4_rightOf 16).trans rfl
theorem tX4_rightOf_17 : tX4_rightOf 17 = oIald 18 := (congrFun teX4_rightOf 17).trans rfl
theorem tX4_rightOf_18 : tX4_rightOf 18 = oGo 22 := (congrFun teX4_rightOf 18).trans rfl
theorem tX4_rightOf_21 : tX4_rightOf 21 = oK (.int (-1)) 22 := (congrFun teX4_rightOf 21).trans rfl
theorem tX4_rightOf_22 : tX4_rightOf 22 = oIret := (congrFun teX4_rightOf 22).trans rfl
def lX4_setRight : List (Nat × qP) := [(0, oIl 1 1), (1, oIf1lt 19 4), (4, oIl 1 5), (5, oAl 0 6), (6, oGet 4 3 9), (9, oIf2ge 19 12), (12, oAl 0 13), (13, oGet 4 2 16), (16, oIl 1 17), (17, oIl 2 18), (18, oIast 19), (19, oVret)]
def uX4_setRight : Nat → qP := q_tb lX4_setRight
set_option maxRecDepth 20000 in
theorem suX4_setRight : q_Snd mX4_setRight uX4_setRight := by
  refine q_tb_ok ?_
  unfold lX4_setRight
  refine q_fa (ok_iload_n (by decide +kernel : decode cX4_setRight 0 = .ok (.iload_n 1, 1)) rfl rfl) ?_
  refine q_fa (ok_if1lt (by decide +kernel : decode cX4_setRight 1 = .ok (.ifCond .lt 18, 3)) (by decide) rfl) ?_
  refine q_fa (ok_iload_n (by decide +kernel : decode cX4_setRight 4 = .ok (.iload_n 1, 1)) rfl rfl) ?_
  refine q_fa (ok_aload_n (by decide +kernel : decode cX4_setRight 5 = .ok (.aload_n 0, 1)) rfl rfl) ?_
  refine q_fa (ok_get (by decide +kernel : decode cX4_setRight 6 = .ok (.getfield 27, 3)) rfl (rfl : vwCl[4]? = some (RX4, TX4, 4)) inX4 (by decide) g46) ?_
  refine q_fa (ok_if2ge (by decide +kernel : decode cX4_setRight 9 = .ok (.if_icmp .ge 10, 3)) (by decide) rfl) ?_
  refine q_fa (ok_aload_n (by decide +kernel : decode cX4_setRight 12 = .ok (.aload_n 0, 1)) rfl rfl) ?_
  refine q_fa (ok_get (by decide +kernel : decode cX4_setRight 13 = .ok (.getfield 24, 3)) rfl (rfl : vwCl[4]? = some (RX4, TX4, 4)) inX4 (by decide) g45) ?_
  refine q_fa (ok_iload_n (by decide +kernel : decode cX4_setRight 16 = .ok (.iload_n 1, 1)) rfl rfl) ?_
  refine q_fa (ok_iload_n (by decide +kernel : decode cX4_setRight 17 = .ok (.iload_n 2, 1)) rfl rfl) ?_
  refine q_fa (ok_iastore (by decide +kernel : decode cX4_setRight 18 = .ok (.iastore, 1)) rfl) ?_
  refine q_fa (ok_vret (by decide +kernel : decode cX4_setRight 19 = .ok (.return_, 1)) rfl) ?_
  exact q_fa0
theorem exX4_setRight : ∃ t : Nat → qP, t = uX4_setRight := ⟨_, rfl⟩
noncomputable def tX4_setRight : Nat → qP := Classical.choose exX4_setRight
theorem teX4_setRight : tX4_setRight = uX4_setRight := Classical.choose_spec exX4_setRight
theorem sX4_setRight : q_Snd mX4_setRight tX4_setRight := by rw [teX4_setRight]; exact suX4_setRight
theorem tX4_setRight_0 : tX4_setRight 0 = oIl 1 1 := (congrFun teX4_setRight 0).trans rfl
theorem tX4_setRight_1 : tX4_setRight 1 = oIf1lt 19 4 := (congrFun teX4_setRight 1).trans rfl
theorem tX4_setRight_4 : tX4_setRight 4 = oIl 1 5 := (congrFun teX4_setRight 4).trans rfl
theorem tX4_setRight_5 : tX4_setRight 5 = oAl 0 6 := (congrFun teX4_setRight 5).trans rfl
theorem tX4_setRight_6 : tX4_setRight 6 = oGet 4 3 9 := (congrFun teX4_setRight 6).trans rfl
theorem tX4_setRight_9 : tX4_setRight 9 = oIf2ge 19 12 := (congrFun teX4_setRight 9).trans rfl
theorem tX4_setRight_12 : tX4_setRight 12 = oAl 0 13 := (congrFun teX4_setRight 12).trans rfl
theorem tX4_setRight_13 : tX4_setRight 13 = oGet 4 2 16 := (congrFun teX4_setRight 13).trans rfl
theorem tX4_setRight_16 : tX4_setRight 16 = oIl 1 17 := (congrFun teX4_setRight 16).trans rfl
theorem tX4_setRight_17 : tX4_setRight 17 = oIl 2 18 := (congrFun teX4_setRight 17).trans rfl
theorem tX4_setRight_18 : tX4_setRight 18 = oIast 19 := (congrFun teX4_setRight 18).trans rfl
theorem tX4_setRight_19 : tX4_setRight 19 = oVret := (congrFun teX4_setRight 19).trans rfl
def lX4_cost : List (Nat × qP) := [(0, oK (.int (nI 0)) 1), (1, oIs 1 2), (2, oK (.int (nI 0)) 3), (3, oIs 2 4), (4, oIl 2 5), (5, oAl 0 6), (6, oGet 4 3 9), (9, oIf2ge 30 12), (12, oIl 1 13), (13, oAl 0 14), (14, oGet 4 0 17), (17, oIl 2 18), (18, oIald 19), (19, oCallS mX11_ownCost 1 22), (22, oAdd 23), (23, oIs 1 24), (24, oInc 2 (nI 1) 27), (27, oGo 4), (30, oIl 1 31), (31, oIret)]
def uX4_cost : Nat → qP := q_tb lX4_cost
set_option maxRecDepth 20000 in
theorem suX4_cost : q_Snd mX4_cost uX4_cost := by
  refine q_tb_ok ?_
  unfold lX4_cost
  refine q_fa (ok_iconst (by decide +kernel : decode cX4_cost 0 = .ok (.iconst 0, 1)) rfl (by decide +kernel)) ?_
  refine q_fa (ok_istore_n (by decide +kernel : decode cX4_cost 1 = .ok (.istore_n 1, 1)) rfl rfl (by decide)) ?_
  refine q_fa (ok_iconst (by decide +kernel : decode cX4_cost 2 = .ok (.iconst 0, 1)) rfl (by decide +kernel)) ?_
  refine q_fa (ok_istore_n (by decide +kernel : decode cX4_cost 3 = .ok (.istore_n 2, 1)) rfl rfl (by decide)) ?_
  refine q_fa (ok_iload_n (by decide +kernel : decode cX4_cost 4 = .ok (.iload_n 2, 1)) rfl rfl) ?_
  refine q_fa (ok_aload_n (by decide +kernel : decode cX4_cost 5 = .ok (.aload_n 0, 1)) rfl rfl) ?_
  refine q_fa (ok_get (by decide +kernel : decode cX4_cost 6 = .ok (.getfield 27, 3)) rfl (rfl : vwCl[4]? = some (RX4, TX4, 4)) inX4 (by decide) g46) ?_
  refine q_fa (ok_if2ge (by decide +kernel : decode cX4_cost 9 = .ok (.if_icmp .ge 21, 3)) (by decide) rfl) ?_
  refine q_fa (ok_iload_n (by decide +kernel : decode cX4_cost 12 = .ok (.iload_n 1, 1)) rfl rfl) ?_
  refine q_fa (ok_aload_n (by decide +kernel : decode cX4_cost 13 = .ok (.aload_n 0, 1)) rfl rfl) ?_
  refine q_fa (ok_get (by decide +kernel : decode cX4_cost 14 = .ok (.getfield 15, 3)) rfl (rfl : vwCl[4]? = some (RX4, TX4, 4)) inX4 (by decide) g43) ?_
  refine q_fa (ok_iload_n (by decide +kernel : decode cX4_cost 17 = .ok (.iload_n 2, 1)) rfl rfl) ?_
  refine q_fa (ok_iaload (by decide +kernel : decode cX4_cost 18 = .ok (.iaload, 1)) rfl) ?_
  refine q_fa (ok_callSN (by decide +kernel : decode cX4_cost 19 = .ok (.invokestatic 31, 3)) rfl kX11_ownCost.1 kX11_ownCost.2.1 kX11_ownCost.2.2.1 kX11_ownCost.2.2.2.1 kX11_ownCost.2.2.2.2 g335 gn334) ?_
  refine q_fa (ok_iadd (by decide +kernel : decode cX4_cost 22 = .ok (.iadd, 1)) rfl) ?_
  refine q_fa (ok_istore_n (by decide +kernel : decode cX4_cost 23 = .ok (.istore_n 1, 1)) rfl rfl (by decide)) ?_
  refine q_fa (ok_iinc (by decide +kernel : decode cX4_cost 24 = .ok (.iinc 2 1, 3)) rfl (by decide +kernel) (by decide)) ?_
  refine q_fa (ok_goto (by decide +kernel : decode cX4_cost 27 = .ok (.goto (-23), 3)) (by decide)) ?_
  refine q_fa (ok_iload_n (by decide +kernel : decode cX4_cost 30 = .ok (.iload_n 1, 1)) rfl rfl) ?_
  refine q_fa (ok_iret (by decide +kernel : decode cX4_cost 31 = .ok (.ireturn, 1)) rfl) ?_
  exact q_fa0
theorem exX4_cost : ∃ t : Nat → qP, t = uX4_cost := ⟨_, rfl⟩
noncomputable def tX4_cost : Nat → qP := Classical.choose exX4_cost
theorem teX4_cost : tX4_cost = uX4_cost := Classical.choose_spec exX4_cost
theorem sX4_cost : q_Snd mX4_cost tX4_cost := by rw [teX4_cost]; exact suX4_cost
theorem tX4_cost_0 : tX4_cost 0 = oK (.int (nI 0)) 1 := (congrFun teX4_cost 0).trans rfl
theorem tX4_cost_1 : tX4_cost 1 = oIs 1 2 := (congrFun teX4_cost 1).trans rfl
theorem tX4_cost_2 : tX4_cost 2 = oK (.int (nI 0)) 3 := (congrFun teX4_cost 2).trans rfl
theorem tX4_cost_3 : tX4_cost 3 = oIs 2 4 := (congrFun teX4_cost 3).trans rfl
theorem tX4_cost_4 : tX4_cost 4 = oIl 2 5 := (congrFun teX4_cost 4).trans rfl
theorem tX4_cost_5 : tX4_cost 5 = oAl 0 6 := (congrFun teX4_cost 5).trans rfl
theorem tX4_cost_6 : tX4_cost 6 = oGet 4 3 9 := (congrFun teX4_cost 6).trans rfl
theorem tX4_cost_9 : tX4_cost 9 = oIf2ge 30 12 := (congrFun teX4_cost 9).trans rfl
theorem tX4_cost_12 : tX4_cost 12 = oIl 1 13 := (congrFun teX4_cost 12).trans rfl
theorem tX4_cost_13 : tX4_cost 13 = oAl 0 14 := (congrFun teX4_cost 13).trans rfl
theorem tX4_cost_14 : tX4_cost 14 = oGet 4 0 17 := (congrFun teX4_cost 14).trans rfl
theorem tX4_cost_17 : tX4_cost 17 = oIl 2 18 := (congrFun teX4_cost 17).trans rfl
theorem tX4_cost_18 : tX4_cost 18 = oIald 19 := (congrFun teX4_cost 18).trans rfl
theorem tX4_cost_19 : tX4_cost 19 = oCallS mX11_ownCost 1 22 := (congrFun teX4_cost 19).trans rfl
theorem tX4_cost_22 : tX4_cost 22 = oAdd 23 := (congrFun teX4_cost 22).trans rfl
theorem tX4_cost_23 : tX4_cost 23 = oIs 1 24 := (congrFun teX4_cost 23).trans rfl
theorem tX4_cost_24 : tX4_cost 24 = oInc 2 (nI 1) 27 := (congrFun teX4_cost 24).trans rfl
theorem tX4_cost_27 : tX4_cost 27 = oGo 4 := (congrFun teX4_cost 27).trans rfl
theorem tX4_cost_30 : tX4_cost 30 = oIl 1 31 := (congrFun teX4_cost 30).trans rfl
theorem tX4_cost_31 : tX4_cost 31 = oIret := (congrFun teX4_cost 31).trans rfl
def lX4_become : List (Nat × qP) := [(0, oAl 0 1), (1, oK (.int (nI 0)) 2), (2, oPutI 4 3 5), (5, oAl 1 6), (6, oIl 2 7), (7, oAl 0 8), (8, oK (.int (nI 0)) 9), (9, oCallS mX4_copy 4 12), (12, oPop 13), (13, oVret)]
def uX4_become : Nat → qP := q_tb lX4_become
set_option maxRecDepth 20000 in
theorem suX4_become : q_Snd mX4_become uX4_become := by
  refine q_tb_ok ?_
  unfold lX4_become
  refine q_fa (ok_aload_n (by decide +kernel : decode cX4_become 0 = .ok (.aload_n 0, 1)) rfl rfl) ?_
  refine q_fa (ok_iconst (by decide +kernel : decode cX4_become 1 = .ok (.iconst 0, 1)) rfl (by decide +kernel)) ?_
  refine q_fa (ok_putI tyX4 (by decide +kernel : decode cX4_become 2 = .ok (.putfield 27, 3)) rfl (rfl : vwCl[4]? = some (RX4, TX4, 4)) inX4 tyX4_ok nmX4 (by decide) g46 (Or.inl rfl) (by decide +kernel)) ?_
  refine q_fa (ok_aload_n (by decide +kernel : decode cX4_become 5 = .ok (.aload_n 1, 1)) rfl rfl) ?_
  refine q_fa (ok_iload_n (by decide +kernel : decode cX4_become 6 = .ok (.iload_n 2, 1)) rfl rfl) ?_
  refine q_fa (ok_aload_n (by decide +kernel : decode cX4_become 7 = .ok (.aload_n 0, 1)) rfl rfl) ?_
  refine q_fa (ok_iconst (by decide +kernel : decode cX4_become 8 = .ok (.iconst 0, 1)) rfl (by decide +kernel)) ?_
  refine q_fa (ok_callS (by decide +kernel : decode cX4_become 9 = .ok (.invokestatic 35, 3)) rfl kX4_copy.1 kX4_copy.2.1 kX4_copy.2.2.1 kX4_copy.2.2.2.1 kX4_copy.2.2.2.2 g315 g314) ?_
  refine q_fa (ok_pop (by decide +kernel : decode cX4_become 12 = .ok (.pop, 1)) rfl) ?_
  refine q_fa (ok_vret (by decide +kernel : decode cX4_become 13 = .ok (.return_, 1)) rfl) ?_
  exact q_fa0
theorem exX4_become : ∃ t : Nat → qP, t = uX4_become := ⟨_, rfl⟩
noncomputable def tX4_become : Nat → qP := Classical.choose exX4_become
theorem teX4_become : tX4_become = uX4_become := Classical.choose_spec exX4_become
theorem sX4_become : q_Snd mX4_become tX4_become := by rw [teX4_become]; exact suX4_become
theorem tX4_become_0 : tX4_become 0 = oAl 0 1 := (congrFun teX4_become 0).trans rfl
theorem tX4_become_1 : tX4_become 1 = oK (.int (nI 0)) 2 := (congrFun teX4_become 1).trans rfl
theorem tX4_become_2 : tX4_become 2 = oPutI 4 3 5 := (congrFun teX4_become 2).trans rfl
theorem tX4_become_5 : tX4_become 5 = oAl 1 6 := (congrFun teX4_become 5).trans rfl
theorem tX4_become_6 : tX4_become 6 = oIl 2 7 := (congrFun teX4_become 6).trans rfl
theorem tX4_become_7 : tX4_become 7 = oAl 0 8 := (congrFun teX4_become 7).trans rfl
theorem tX4_become_8 : tX4_become 8 = oK (.int (nI 0)) 9 := (congrFun teX4_become 8).trans rfl
theorem tX4_become_9 : tX4_become 9 = oCallS mX4_copy 4 12 := (congrFun teX4_become 9).trans rfl
theorem tX4_become_12 : tX4_become 12 = oPop 13 := (congrFun teX4_become 12).trans rfl
theorem tX4_become_13 : tX4_become 13 = oVret := (congrFun teX4_become 13).trans rfl
def lX4_copy : List (Nat × qP) := [(0, oAl 0 1), (1, oIl 1 2), (2, oCallV 4 mX4_kindOf 1 5), (5, oIs 4 7), (7, oIl 4 9), (9, oK (.int (-1)) 10), (10, oIf2eq 19 13), (13, oIl 3 14), (14, oK (.int (nI 12)) 16), (16, oIf2lt 21 19), (19, oK (.int (-1)) 20), (20, oIret), (21, oIl 4 23), (23, oCallS mX11_isLeaf 1 26), (26, oIf1eq 42 29), (29, oAl 2 30), (30, oIl 4 32), (32, oAl 0 33), (33, oIl 1 34), (34, oCallV 4 mX4_leftOf 1 37), (37, oK (.int (nI 0)) 38), (38, oCallV 4 mX4_add 3 41), (41, oIret), (42, oAl 0 43), (43, oAl 0 44), (44, oIl 1 45), (45, oCallV 4 mX4_leftOf 1 48), (48, oAl 2 49), (49, oIl 3 50), (50, oK (.int (nI 1)) 51), (51, oAdd 52), (52, oCallS mX4_copy 4 55), (55, oIs 5 57), (57, oIl 4 59), (59, oCallS mX11_hasTwoParts 1 62), (62, oIf1eq 81 65), (65, oAl 0 66), (66, oAl 0 67), (67, oIl 1 68), (68, oCallV 4 mX4_rightOf 1 71), (71, oAl 2 72), (72, oIl 3 73), (73, oK (.int (nI 1)) 74), (74, oAdd 75), (75, oCallS mX4_copy 4 78), (78, oGo 82), (81, oK (.int (nI 0)) 82), (82, oIs 6 84), (84, oIl 5 86), (86, oIf1lt 94 89), (89, oIl 6 91), (91, oIf1ge 98 94), (94, oK (.int (-1)) 95), (95, oGo 108), (98, oAl 2 99), (99, oIl 4 101), (101, oIl 5 103), (103, oIl 6 105), (105, oCallV 4 mX4_add 3 108), (108, oIret)]
def uX4_copy : Nat → qP := q_tb lX4_copy
set_option maxRecDepth 20000 in
theorem suX4_copy : q_Snd mX4_copy uX4_copy := by
  refine q_tb_ok ?_
  unfold lX4_copy
  refine q_fa (ok_aload_n (by decide +kernel : decode cX4_copy 0 = .ok (.aload_n 0, 1)) rfl rfl) ?_
  refine q_fa (ok_iload_n (by decide +kernel : decode cX4_copy 1 = .ok (.iload_n 1, 1)) rfl rfl) ?_
  refine q_fa (ok_callV (by decide +kernel : decode cX4_copy 2 = .ok (.invokevirtual 39, 3)) rfl kX4_kindOf.1 kX4_kindOf.2.1 kX4_kindOf.2.2.1 kX4_kindOf.2.2.2.1 kX4_kindOf.2.2.2.2 (rfl : vwCl[4]? = some (RX4, TX4, 4)) g287 g288 g317) ?_
  refine q_fa (ok_istore (by decide +kernel : decode cX4_copy 5 = .ok (.istore 4, 2)) rfl (by decide)) ?_
  refine q_fa (ok_iload (by decide +kernel : decode cX4_copy 7 = .ok (.iload 4, 2)) rfl) ?_
  refine q_fa (ok_iconst (by decide +kernel : decode cX4_copy 9 = .ok (.iconst (-1), 1)) rfl (by decide +kernel)) ?_
  refine q_fa (ok_if2eq (by decide +kernel : decode cX4_copy 10 = .ok (.if_icmp .eq 9, 3)) (by decide) rfl) ?_
  refine q_fa (ok_iload_n (by decide +kernel : decode cX4_copy 13 = .ok (.iload_n 3, 1)) rfl rfl) ?_
  refine q_fa (ok_bipush (by decide +kernel : decode cX4_copy 14 = .ok (.bipush 12, 2)) rfl (by decide +kernel)) ?_
  refine q_fa (ok_if2lt (by decide +kernel : decode cX4_copy 16 = .ok (.if_icmp .lt 5, 3)) (by decide) rfl) ?_
  refine q_fa (ok_iconst (by decide +kernel : decode cX4_copy 19 = .ok (.iconst (-1), 1)) rfl (by decide +kernel)) ?_
  refine q_fa (ok_iret (by decide +kernel : decode cX4_copy 20 = .ok (.ireturn, 1)) rfl) ?_
  refine q_fa (ok_iload (by decide +kernel : decode cX4_copy 21 = .ok (.iload 4, 2)) rfl) ?_
  refine q_fa (ok_callSN (by decide +kernel : decode cX4_copy 23 = .ok (.invokestatic 42, 3)) rfl kX11_isLeaf.1 kX11_isLeaf.2.1 kX11_isLeaf.2.2.1 kX11_isLeaf.2.2.2.1 kX11_isLeaf.2.2.2.2 g319 gn318) ?_
  refine q_fa (ok_if1eq (by decide +kernel : decode cX4_copy 26 = .ok (.ifCond .eq 16, 3)) (by decide) rfl) ?_
  refine q_fa (ok_aload_n (by decide +kernel : decode cX4_copy 29 = .ok (.aload_n 2, 1)) rfl rfl) ?_
  refine q_fa (ok_iload (by decide +kernel : decode cX4_copy 30 = .ok (.iload 4, 2)) rfl) ?_
  refine q_fa (ok_aload_n (by decide +kernel : decode cX4_copy 32 = .ok (.aload_n 0, 1)) rfl rfl) ?_
  refine q_fa (ok_iload_n (by decide +kernel : decode cX4_copy 33 = .ok (.iload_n 1, 1)) rfl rfl) ?_
  refine q_fa (ok_callV (by decide +kernel : decode cX4_copy 34 = .ok (.invokevirtual 46, 3)) rfl kX4_leftOf.1 kX4_leftOf.2.1 kX4_leftOf.2.2.1 kX4_leftOf.2.2.2.1 kX4_leftOf.2.2.2.2 (rfl : vwCl[4]? = some (RX4, TX4, 4)) g322 g323 g321) ?_
  refine q_fa (ok_iconst (by decide +kernel : decode cX4_copy 37 = .ok (.iconst 0, 1)) rfl (by decide +kernel)) ?_
  refine q_fa (ok_callV (by decide +kernel : decode cX4_copy 38 = .ok (.invokevirtual 49, 3)) rfl kX4_add.1 kX4_add.2.1 kX4_add.2.2.1 kX4_add.2.2.2.1 kX4_add.2.2.2.2 (rfl : vwCl[4]? = some (RX4, TX4, 4)) g264 g265 g325) ?_
  refine q_fa (ok_iret (by decide +kernel : decode cX4_copy 41 = .ok (.ireturn, 1)) rfl) ?_
  refine q_fa (ok_aload_n (by decide +kernel : decode cX4_copy 42 = .ok (.aload_n 0, 1)) rfl rfl) ?_
  refine q_fa (ok_aload_n (by decide +kernel : decode cX4_copy 43 = .ok (.aload_n 0, 1)) rfl rfl) ?_
  refine q_fa (ok_iload_n (by decide +kernel : decode cX4_copy 44 = .ok (.iload_n 1, 1)) rfl rfl) ?_
  refine q_fa (ok_callV (by decide +kernel : decode cX4_copy 45 = .ok (.invokevirtual 46, 3)) rfl kX4_leftOf.1 kX4_leftOf.2.1 kX4_leftOf.2.2.1 kX4_leftOf.2.2.2.1 kX4_leftOf.2.2.2.2 (rfl : vwCl[4]? = some (RX4, TX4, 4)) g322 g323 g321) ?_
  refine q_fa (ok_aload_n (by decide +kernel : decode cX4_copy 48 = .ok (.aload_n 2, 1)) rfl rfl) ?_
  refine q_fa (ok_iload_n (by decide +kernel : decode cX4_copy 49 = .ok (.iload_n 3, 1)) rfl rfl) ?_
  refine q_fa (ok_iconst (by decide +kernel : decode cX4_copy 50 = .ok (.iconst 1, 1)) rfl (by decide +kernel)) ?_
  refine q_fa (ok_iadd (by decide +kernel : decode cX4_copy 51 = .ok (.iadd, 1)) rfl) ?_
  refine q_fa (ok_callS (by decide +kernel : decode cX4_copy 52 = .ok (.invokestatic 35, 3)) rfl kX4_copy.1 kX4_copy.2.1 kX4_copy.2.2.1 kX4_copy.2.2.2.1 kX4_copy.2.2.2.2 g315 g314) ?_
  refine q_fa (ok_istore (by decide +kernel : decode cX4_copy 55 = .ok (.istore 5, 2)) rfl (by decide)) ?_
  refine q_fa (ok_iload (by decide +kernel : decode cX4_copy 57 = .ok (.iload 4, 2)) rfl) ?_
  refine q_fa (ok_callSN (by decide +kernel : decode cX4_copy 59 = .ok (.invokestatic 53, 3)) rfl kX11_hasTwoParts.1 kX11_hasTwoParts.2.1 kX11_hasTwoParts.2.2.1 kX11_hasTwoParts.2.2.2.1 kX11_hasTwoParts.2.2.2.2 g327 gn326) ?_
  refine q_fa (ok_if1eq (by decide +kernel : decode cX4_copy 62 = .ok (.ifCond .eq 19, 3)) (by decide) rfl) ?_
  refine q_fa (ok_aload_n (by decide +kernel : decode cX4_copy 65 = .ok (.aload_n 0, 1)) rfl rfl) ?_
  refine q_fa (ok_aload_n (by decide +kernel : decode cX4_copy 66 = .ok (.aload_n 0, 1)) rfl rfl) ?_
  refine q_fa (ok_iload_n (by decide +kernel : decode cX4_copy 67 = .ok (.iload_n 1, 1)) rfl rfl) ?_
  refine q_fa (ok_callV (by decide +kernel : decode cX4_copy 68 = .ok (.invokevirtual 56, 3)) rfl kX4_rightOf.1 kX4_rightOf.2.1 kX4_rightOf.2.2.1 kX4_rightOf.2.2.2.1 kX4_rightOf.2.2.2.2 (rfl : vwCl[4]? = some (RX4, TX4, 4)) g291 g292 g329) ?_
  refine q_fa (ok_aload_n (by decide +kernel : decode cX4_copy 71 = .ok (.aload_n 2, 1)) rfl rfl) ?_
  refine q_fa (ok_iload_n (by decide +kernel : decode cX4_copy 72 = .ok (.iload_n 3, 1)) rfl rfl) ?_
  refine q_fa (ok_iconst (by decide +kernel : decode cX4_copy 73 = .ok (.iconst 1, 1)) rfl (by decide +kernel)) ?_
  refine q_fa (ok_iadd (by decide +kernel : decode cX4_copy 74 = .ok (.iadd, 1)) rfl) ?_
  refine q_fa (ok_callS (by decide +kernel : decode cX4_copy 75 = .ok (.invokestatic 35, 3)) rfl kX4_copy.1 kX4_copy.2.1 kX4_copy.2.2.1 kX4_copy.2.2.2.1 kX4_copy.2.2.2.2 g315 g314) ?_
  refine q_fa (ok_goto (by decide +kernel : decode cX4_copy 78 = .ok (.goto 4, 3)) (by decide)) ?_
  refine q_fa (ok_iconst (by decide +kernel : decode cX4_copy 81 = .ok (.iconst 0, 1)) rfl (by decide +kernel)) ?_
  refine q_fa (ok_istore (by decide +kernel : decode cX4_copy 82 = .ok (.istore 6, 2)) rfl (by decide)) ?_
  refine q_fa (ok_iload (by decide +kernel : decode cX4_copy 84 = .ok (.iload 5, 2)) rfl) ?_
  refine q_fa (ok_if1lt (by decide +kernel : decode cX4_copy 86 = .ok (.ifCond .lt 8, 3)) (by decide) rfl) ?_
  refine q_fa (ok_iload (by decide +kernel : decode cX4_copy 89 = .ok (.iload 6, 2)) rfl) ?_
  refine q_fa (ok_if1ge (by decide +kernel : decode cX4_copy 91 = .ok (.ifCond .ge 7, 3)) (by decide) rfl) ?_
  refine q_fa (ok_iconst (by decide +kernel : decode cX4_copy 94 = .ok (.iconst (-1), 1)) rfl (by decide +kernel)) ?_
  refine q_fa (ok_goto (by decide +kernel : decode cX4_copy 95 = .ok (.goto 13, 3)) (by decide)) ?_
  refine q_fa (ok_aload_n (by decide +kernel : decode cX4_copy 98 = .ok (.aload_n 2, 1)) rfl rfl) ?_
  refine q_fa (ok_iload (by decide +kernel : decode cX4_copy 99 = .ok (.iload 4, 2)) rfl) ?_
  refine q_fa (ok_iload (by decide +kernel : decode cX4_copy 101 = .ok (.iload 5, 2)) rfl) ?_
  refine q_fa (ok_iload (by decide +kernel : decode cX4_copy 103 = .ok (.iload 6, 2)) rfl) ?_
  refine q_fa (ok_callV (by decide +kernel : decode cX4_copy 105 = .ok (.invokevirtual 49, 3)) rfl kX4_add.1 kX4_add.2.1 kX4_add.2.2.1 kX4_add.2.2.2.1 kX4_add.2.2.2.2 (rfl : vwCl[4]? = some (RX4, TX4, 4)) g264 g265 g325) ?_
  refine q_fa (ok_iret (by decide +kernel : decode cX4_copy 108 = .ok (.ireturn, 1)) rfl) ?_
  exact q_fa0
theorem exX4_copy : ∃ t : Nat → qP, t = uX4_copy := ⟨_, rfl⟩
noncomputable def tX4_copy : Nat → qP := Classical.choose exX4_copy
theorem teX4_copy : tX4_copy = uX4_copy := Classical.choose_spec exX4_copy
theorem sX4_copy : q_Snd mX4_copy tX4_copy := by rw [teX4_copy]; exact suX4_copy
theorem tX4_copy_0 : tX4_copy 0 = oAl 0 1 := (congrFun teX4_copy 0).trans rfl
theorem tX4_copy_1 : tX4_copy 1 = oIl 1 2 := (congrFun teX4_copy 1).trans rfl
theorem tX4_copy_2 : tX4_copy 2 = oCallV 4 mX4_kindOf 1 5 := (congrFun teX4_copy 2).trans rfl
theorem tX4_copy_5 : tX4_copy 5 = oIs 4 7 := (congrFun teX4_copy 5).trans rfl
theorem tX4_copy_7 : tX4_copy 7 = oIl 4 9 := (congrFun teX4_copy 7).trans rfl
theorem tX4_copy_9 : tX4_copy 9 = oK (.int (-1)) 10 := (congrFun teX4_copy 9).trans rfl
theorem tX4_copy_10 : tX4_copy 10 = oIf2eq 19 13 := (congrFun teX4_copy 10).trans rfl
theorem tX4_copy_13 : tX4_copy 13 = oIl 3 14 := (congrFun teX4_copy 13).trans rfl
theorem tX4_copy_14 : tX4_copy 14 = oK (.int (nI 12)) 16 := (congrFun teX4_copy 14).trans rfl
theorem tX4_copy_16 : tX4_copy 16 = oIf2lt 21 19 := (congrFun teX4_copy 16).trans rfl
theorem tX4_copy_19 : tX4_copy 19 = oK (.int (-1)) 20 := (congrFun teX4_copy 19).trans rfl
theorem tX4_copy_20 : tX4_copy 20 = oIret := (congrFun teX4_copy 20).trans rfl
theorem tX4_copy_21 : tX4_copy 21 = oIl 4 23 := (congrFun teX4_copy 21).trans rfl
theorem tX4_copy_23 : tX4_copy 23 = oCallS mX11_isLeaf 1 26 := (congrFun teX4_copy 23).trans rfl
theorem tX4_copy_26 : tX4_copy 26 = oIf1eq 42 29 := (congrFun teX4_copy 26).trans rfl
theorem tX4_copy_29 : tX4_copy 29 = oAl 2 30 := (congrFun teX4_copy 29).trans rfl
theorem tX4_copy_30 : tX4_copy 30 = oIl 4 32 := (congrFun teX4_copy 30).trans rfl
theorem tX4_copy_32 : tX4_copy 32 = oAl 0 33 := (congrFun teX4_copy 32).trans rfl
theorem tX4_copy_33 : tX4_copy 33 = oIl 1 34 := (congrFun teX4_copy 33).trans rfl
theorem tX4_copy_34 : tX4_copy 34 = oCallV 4 mX4_leftOf 1 37 := (congrFun teX4_copy 34).trans rfl
theorem tX4_copy_37 : tX4_copy 37 = oK (.int (nI 0)) 38 := (congrFun teX4_copy 37).trans rfl
theorem tX4_copy_38 : tX4_copy 38 = oCallV 4 mX4_add 3 41 := (congrFun teX4_copy 38).trans rfl
theorem tX4_copy_41 : tX4_copy 41 = oIret := (congrFun teX4_copy 41).trans rfl
theorem tX4_copy_42 : tX4_copy 42 = oAl 0 43 := (congrFun teX4_copy 42).trans rfl
theorem tX4_copy_43 : tX4_copy 43 = oAl 0 44 := (congrFun teX4_copy 43).trans rfl
theorem tX4_copy_44 : tX4_copy 44 = oIl 1 45 := (congrFun teX4_copy 44).trans rfl
theorem tX4_copy_45 : tX4_copy 45 = oCallV 4 mX4_leftOf 1 48 := (congrFun teX4_copy 45).trans rfl
theorem tX4_copy_48 : tX4_copy 48 = oAl 2 49 := (congrFun teX4_copy 48).trans rfl
theorem tX4_copy_49 : tX4_copy 49 = oIl 3 50 := (congrFun teX4_copy 49).trans rfl
theorem tX4_copy_50 : tX4_copy 50 = oK (.int (nI 1)) 51 := (congrFun teX4_copy 50).trans rfl
theorem tX4_copy_51 : tX4_copy 51 = oAdd 52 := (congrFun teX4_copy 51).trans rfl
theorem tX4_copy_52 : tX4_copy 52 = oCallS mX4_copy 4 55 := (congrFun teX4_copy 52).trans rfl
theorem tX4_copy_55 : tX4_copy 55 = oIs 5 57 := (congrFun teX4_copy 55).trans rfl
theorem tX4_copy_57 : tX4_copy 57 = oIl 4 59 := (congrFun teX4_copy 57).trans rfl
theorem tX4_copy_59 : tX4_copy 59 = oCallS mX11_hasTwoParts 1 62 := (congrFun teX4_copy 59).trans rfl
theorem tX4_copy_62 : tX4_copy 62 = oIf1eq 81 65 := (congrFun teX4_copy 62).trans rfl
theorem tX4_copy_65 : tX4_copy 65 = oAl 0 66 := (congrFun teX4_copy 65).trans rfl
theorem tX4_copy_66 : tX4_copy 66 = oAl 0 67 := (congrFun teX4_copy 66).trans rfl
theorem tX4_copy_67 : tX4_copy 67 = oIl 1 68 := (congrFun teX4_copy 67).trans rfl
theorem tX4_copy_68 : tX4_copy 68 = oCallV 4 mX4_rightOf 1 71 := (congrFun teX4_copy 68).trans rfl
theorem tX4_copy_71 : tX4_copy 71 = oAl 2 72 := (congrFun teX4_copy 71).trans rfl
theorem tX4_copy_72 : tX4_copy 72 = oIl 3 73 := (congrFun teX4_copy 72).trans rfl
theorem tX4_copy_73 : tX4_copy 73 = oK (.int (nI 1)) 74 := (congrFun teX4_copy 73).trans rfl
theorem tX4_copy_74 : tX4_copy 74 = oAdd 75 := (congrFun teX4_copy 74).trans rfl
theorem tX4_copy_75 : tX4_copy 75 = oCallS mX4_copy 4 78 := (congrFun teX4_copy 75).trans rfl
theorem tX4_copy_78 : tX4_copy 78 = oGo 82 := (congrFun teX4_copy 78).trans rfl
theorem tX4_copy_81 : tX4_copy 81 = oK (.int (nI 0)) 82 := (congrFun teX4_copy 81).trans rfl
theorem tX4_copy_82 : tX4_copy 82 = oIs 6 84 := (congrFun teX4_copy 82).trans rfl
theorem tX4_copy_84 : tX4_copy 84 = oIl 5 86 := (congrFun teX4_copy 84).trans rfl
theorem tX4_copy_86 : tX4_copy 86 = oIf1lt 94 89 := (congrFun teX4_copy 86).trans rfl
theorem tX4_copy_89 : tX4_copy 89 = oIl 6 91 := (congrFun teX4_copy 89).trans rfl
theorem tX4_copy_91 : tX4_copy 91 = oIf1ge 98 94 := (congrFun teX4_copy 91).trans rfl
theorem tX4_copy_94 : tX4_copy 94 = oK (.int (-1)) 95 := (congrFun teX4_copy 94).trans rfl
theorem tX4_copy_95 : tX4_copy 95 = oGo 108 := (congrFun teX4_copy 95).trans rfl
theorem tX4_copy_98 : tX4_copy 98 = oAl 2 99 := (congrFun teX4_copy 98).trans rfl
theorem tX4_copy_99 : tX4_copy 99 = oIl 4 101 := (congrFun teX4_copy 99).trans rfl
theorem tX4_copy_101 : tX4_copy 101 = oIl 5 103 := (congrFun teX4_copy 101).trans rfl
theorem tX4_copy_103 : tX4_copy 103 = oIl 6 105 := (congrFun teX4_copy 103).trans rfl
theorem tX4_copy_105 : tX4_copy 105 = oCallV 4 mX4_add 3 108 := (congrFun teX4_copy 105).trans rfl
theorem tX4_copy_108 : tX4_copy 108 = oIret := (congrFun teX4_copy 108).trans rfl
