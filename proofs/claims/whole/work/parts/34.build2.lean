theorem g_ext {x y : Nat} (h : ∀ j, x.testBit j = true ↔ y.testBit j = true) : x = y := Nat.eq_of_testBit_eq fun j => Bool.eq_iff_iff.mpr (h j)
/-- the automaton of a tree stands -/
def au_R (s : Nat → Int32) (A : Nat → Nat → Int32) (t : qT) : Prop := s 7 = nI (g_l t 0) ∧ s 8 = b_I (g_e t) ∧ ∀ acc, g_ok acc t 0 → ∀ c, c < 3 → A 5 (192 + c) = nI (u_step (g_f t 0) (g_w t 0) acc 128 c) ∧ ∀ S, S < 2 ^ g_n t → A 5 (S * 3 + c) = nI (u_step (g_f t 0) (g_w t 0) acc S c)
theorem u_step_bit {fi : Nat} {fo ac : Nat → Nat} {S c j : Nat} : (u_step fi fo ac S c).testBit j = true ↔ j < 7 ∧ ((S.testBit 7 = true ∧ fi.testBit j = true) ∨ ∃ q, q < 7 ∧ S.testBit q = true ∧ (fo q).testBit j = true) ∧ (ac j).testBit c = true := by
  unfold u_step
  rw [u_sel_bit, u_or_bit, g_ite]
theorem g_S_lt {S n : Nat} (h : S < 2 ^ n) {q : Nat} (hq : S.testBit q = true) : q < n := by
  cases Nat.lt_or_ge q n with
  | inl h1 => exact h1
  | inr h1 =>
    rw [Nat.testBit_lt_two_pow (Nat.lt_of_lt_of_le h (Nat.pow_le_pow_right (by decide) h1))] at hq
    exact absurd hq (by decide)
section
variable {G : qC} {L : Launch} {d : Nat} {Q : Option Value → qM → Prop} {M0 : qM} {i j n : Nat} {s : Nat → Int32} {A : Nat → Nat → Int32} {k l r : Nat → Int32}
set_option maxRecDepth 100000 in
set_option maxHeartbeats 8000000 in
theorem c0_build {t : qT} (hN : q_isN M0 j n k l r (t_nodes t)) (hs : t_nodes t ≤ n) (hn : n < 100000) (h12 : t_nodes t ≤ 12) (hdj : j + 4 ≤ i ∨ i + 7 ≤ j) (hd : 3 ≤ d) (ht : t_no k l r t 0) (hQ : ∀ s' A', au_R s' A' t → Q none (q_au M0 i s' A')) : q_Call G L d mX0_build 0 0 [.ref i, .ref j] (q_au M0 i s A) Q := by
  have hgn := g_n_le t
  have hpos := t_nodes_pos t
  refine q_Call.of [(0, .ref i), (1, .ref j)] rfl ?_
  refine q_X.run sX0_build [] 20 ?_
  simp (maxSteps := 10000000) (disch := omega) only [↓q_run_s, q_stop_n, q_stop_c, q_lg_c, q_ls_d, q_ld_n, q_ld_c, q_cat_i, q_cat_r, q_cat_n, q_wd_n, q_wd_c, q_bx_1, q_bx_2, q_bx_3, q_bx_4, q_bx_5, q_bx_6, q_bx_7, q_bx_8, q_pop_0, q_pop_s, ↓reduceIte, Nat.reduceEqDiff, reduceCtorEq, eq_self, Bool.false_eq_true, Nat.reduceAdd, Nat.reduceSub, Nat.reduceMul, Nat.reduceLeDiff, Nat.reduceLT, Nat.le_refl, Nat.zero_le, true_and, and_true, false_and, and_false, or_false, false_or, true_or, or_true, not_true_eq_false, not_false_eq_true, if_true, if_false, List.getElem?_cons_zero, List.getElem?_cons_succ, List.set_cons_zero, List.set_cons_succ, List.length_cons, List.length_nil, ↓tX0_build_0, ↓tX0_build_1, ↓tX0_build_2, ↓tX0_build_5, ↓tX0_build_6, ↓tX0_build_9, ↓tX0_build_10, ↓tX0_build_13, ↓tX0_build_14, ↓tX0_build_17, ↓tX0_build_18, ↓tX0_build_21, ↓tX0_build_22, ↓tX0_build_25, ↓tX0_build_27, ↓tX0_build_30, ↓tX0_build_31, ↓tX0_build_32, ↓tX0_build_33, ↓tX0_build_34, ↓tX0_build_35, ↓tX0_build_38, ↓tX0_build_39, ↓tX0_build_40, ↓tX0_build_41, ↓tX0_build_44, ↓tX0_build_47, ↓tX0_build_50, ↓tX0_build_51, ↓tX0_build_52, ↓tX0_build_53, ↓tX0_build_54, ↓tX0_build_57, ↓tX0_build_58, ↓tX0_build_59, ↓tX0_build_60, ↓tX0_build_63, ↓tX0_build_64, ↓tX0_build_65, ↓tX0_build_68, ↓tX0_build_69, ↓tX0_build_70, ↓tX0_build_73, ↓tX0_build_74, ↓tX0_build_75, ↓tX0_build_78, ↓tX0_build_79, ↓tX0_build_80, ↓tX0_build_83, ↓tX0_build_84, ↓tX0_build_85, ↓tX0_build_88, ↓oAl, ↓oCallS, ↓oCallV, ↓oGet, ↓oGo, ↓oIald, ↓oIf2ge, ↓oIl, ↓oInc, ↓oIs, ↓oK, ↓oMax, ↓oMin, ↓oPutI, ↓oPutZ, ↓oSub, ↓oVret, ↓oZald, q_set_s, q_set_n, au_0, auO_len, q_up_a, auOs_6, auO_3, au_a3, auO_4, au_a4, auO_2, au_a2, auOs_7, auO_0, au_a0, auOs_8, auO_1, au_a1, z_clamp, z_ltI, z_leI, z_eqI, z_lt0, z_ge0, z_eq0I, z_gt0I, z_le0I, z_m1lt, z_m1ge, z_m1eq, z_m1eq', z_inT, z_add, z_sub, z_mul, z_div, z_rem, n_ltT, n_ltF, n_leT, n_leF, n_eqT, n_eqF, q_tl_i, q_tl_n, q_ap_n, q_ap_c]
  refine cJ_fill (by decide) au_a3 fun f3 hf3 => ?_
  rw [aus_a3]
  refine q_X.run sX0_build [] 20 ?_
  simp (maxSteps := 10000000) (disch := omega) only [↓q_run_s, q_stop_n, q_stop_c, q_lg_c, q_ls_d, q_ld_n, q_ld_c, q_cat_i, q_cat_r, q_cat_n, q_wd_n, q_wd_c, q_bx_1, q_bx_2, q_bx_3, q_bx_4, q_bx_5, q_bx_6, q_bx_7, q_bx_8, q_pop_0, q_pop_s, ↓reduceIte, Nat.reduceEqDiff, reduceCtorEq, eq_self, Bool.false_eq_true, Nat.reduceAdd, Nat.reduceSub, Nat.reduceMul, Nat.reduceLeDiff, Nat.reduceLT, Nat.le_refl, Nat.zero_le, true_and, and_true, false_and, and_false, or_false, false_or, true_or, or_true, not_true_eq_false, not_false_eq_true, if_true, if_false, List.getElem?_cons_zero, List.getElem?_cons_succ, List.set_cons_zero, List.set_cons_succ, List.length_cons, List.length_nil, ↓tX0_build_0, ↓tX0_build_1, ↓tX0_build_2, ↓tX0_build_5, ↓tX0_build_6, ↓tX0_build_9, ↓tX0_build_10, ↓tX0_build_13, ↓tX0_build_14, ↓tX0_build_17, ↓tX0_build_18, ↓tX0_build_21, ↓tX0_build_22, ↓tX0_build_25, ↓tX0_build_27, ↓tX0_build_30, ↓tX0_build_31, ↓tX0_build_32, ↓tX0_build_33, ↓tX0_build_34, ↓tX0_build_35, ↓tX0_build_38, ↓tX0_build_39, ↓tX0_build_40, ↓tX0_build_41, ↓tX0_build_44, ↓tX0_build_47, ↓tX0_build_50, ↓tX0_build_51, ↓tX0_build_52, ↓tX0_build_53, ↓tX0_build_54, ↓tX0_build_57, ↓tX0_build_58, ↓tX0_build_59, ↓tX0_build_60, ↓tX0_build_63, ↓tX0_build_64, ↓tX0_build_65, ↓tX0_build_68, ↓tX0_build_69, ↓tX0_build_70, ↓tX0_build_73, ↓tX0_build_74, ↓tX0_build_75, ↓tX0_build_78, ↓tX0_build_79, ↓tX0_build_80, ↓tX0_build_83, ↓tX0_build_84, ↓tX0_build_85, ↓tX0_build_88, ↓oAl, ↓oCallS, ↓oCallV, ↓oGet, ↓oGo, ↓oIald, ↓oIf2ge, ↓oIl, ↓oInc, ↓oIs, ↓oK, ↓oMax, ↓oMin, ↓oPutI, ↓oPutZ, ↓oSub, ↓oVret, ↓oZald, q_set_s, q_set_n, au_0, auO_len, q_up_a, auOs_6, auO_3, au_a3, auO_4, au_a4, auO_2, au_a2, auOs_7, auO_0, au_a0, auOs_8, auO_1, au_a1, z_clamp, z_ltI, z_leI, z_eqI, z_lt0, z_ge0, z_eq0I, z_gt0I, z_le0I, z_m1lt, z_m1ge, z_m1eq, z_m1eq', z_inT, z_add, z_sub, z_mul, z_div, z_rem, n_ltT, n_ltF, n_leT, n_leF, n_eqT, n_eqF, q_tl_i, q_tl_n, q_ap_n, q_ap_c]
  refine cJ_fill (by decide) au_a4 fun f4 hf4 => ?_
  rw [aus_a4]
  have hNo := au_isN (i := i) (s := va_up s 6 (nI 0)) (A := va_up (va_up A 3 f3) 4 f4) hN hdj
  have hj0 := hNo.1
  refine q_X.run sX0_build [] 20 ?_
  simp (maxSteps := 10000000) (disch := omega) only [↓q_run_s, q_stop_n, q_stop_c, q_lg_c, q_ls_d, q_ld_n, q_ld_c, q_cat_i, q_cat_r, q_cat_n, q_wd_n, q_wd_c, q_bx_1, q_bx_2, q_bx_3, q_bx_4, q_bx_5, q_bx_6, q_bx_7, q_bx_8, q_pop_0, q_pop_s, ↓reduceIte, Nat.reduceEqDiff, reduceCtorEq, eq_self, Bool.false_eq_true, Nat.reduceAdd, Nat.reduceSub, Nat.reduceMul, Nat.reduceLeDiff, Nat.reduceLT, Nat.le_refl, Nat.zero_le, true_and, and_true, false_and, and_false, or_false, false_or, true_or, or_true, not_true_eq_false, not_false_eq_true, if_true, if_false, List.getElem?_cons_zero, List.getElem?_cons_succ, List.set_cons_zero, List.set_cons_succ, List.length_cons, List.length_nil, ↓tX0_build_0, ↓tX0_build_1, ↓tX0_build_2, ↓tX0_build_5, ↓tX0_build_6, ↓tX0_build_9, ↓tX0_build_10, ↓tX0_build_13, ↓tX0_build_14, ↓tX0_build_17, ↓tX0_build_18, ↓tX0_build_21, ↓tX0_build_22, ↓tX0_build_25, ↓tX0_build_27, ↓tX0_build_30, ↓tX0_build_31, ↓tX0_build_32, ↓tX0_build_33, ↓tX0_build_34, ↓tX0_build_35, ↓tX0_build_38, ↓tX0_build_39, ↓tX0_build_40, ↓tX0_build_41, ↓tX0_build_44, ↓tX0_build_47, ↓tX0_build_50, ↓tX0_build_51, ↓tX0_build_52, ↓tX0_build_53, ↓tX0_build_54, ↓tX0_build_57, ↓tX0_build_58, ↓tX0_build_59, ↓tX0_build_60, ↓tX0_build_63, ↓tX0_build_64, ↓tX0_build_65, ↓tX0_build_68, ↓tX0_build_69, ↓tX0_build_70, ↓tX0_build_73, ↓tX0_build_74, ↓tX0_build_75, ↓tX0_build_78, ↓tX0_build_79, ↓tX0_build_80, ↓tX0_build_83, ↓tX0_build_84, ↓tX0_build_85, ↓tX0_build_88, ↓oAl, ↓oCallS, ↓oCallV, ↓oGet, ↓oGo, ↓oIald, ↓oIf2ge, ↓oIl, ↓oInc, ↓oIs, ↓oK, ↓oMax, ↓oMin, ↓oPutI, ↓oPutZ, ↓oSub, ↓oVret, ↓oZald, q_set_s, q_set_n, au_0, auO_len, q_up_a, auOs_6, auO_3, au_a3, auO_4, au_a4, auO_2, au_a2, auOs_7, auO_0, au_a0, auOs_8, auO_1, au_a1, z_clamp, z_ltI, z_leI, z_eqI, z_lt0, z_ge0, z_eq0I, z_gt0I, z_le0I, z_m1lt, z_m1ge, z_m1eq, z_m1eq', z_inT, z_add, z_sub, z_mul, z_div, z_rem, n_ltT, n_ltF, n_leT, n_leF, n_eqT, n_eqF, q_tl_i, q_tl_n, q_ap_n, q_ap_c, hj0]
  refine d4_size hNo ?_
  have hmin : (if t_nodes t ≤ 12 then t_nodes t else 12) = t_nodes t := if_pos h12
  refine q_X.run sX0_build [33] 20 ?_
  simp (maxSteps := 10000000) (disch := omega) only [↓q_run_s, q_stop_n, q_stop_c, q_lg_c, q_ls_d, q_ld_n, q_ld_c, q_cat_i, q_cat_r, q_cat_n, q_wd_n, q_wd_c, q_bx_1, q_bx_2, q_bx_3, q_bx_4, q_bx_5, q_bx_6, q_bx_7, q_bx_8, q_pop_0, q_pop_s, ↓reduceIte, Nat.reduceEqDiff, reduceCtorEq, eq_self, Bool.false_eq_true, Nat.reduceAdd, Nat.reduceSub, Nat.reduceMul, Nat.reduceLeDiff, Nat.reduceLT, Nat.le_refl, Nat.zero_le, true_and, and_true, false_and, and_false, or_false, false_or, true_or, or_true, not_true_eq_false, not_false_eq_true, if_true, if_false, List.getElem?_cons_zero, List.getElem?_cons_succ, List.set_cons_zero, List.set_cons_succ, List.length_cons, List.length_nil, ↓tX0_build_0, ↓tX0_build_1, ↓tX0_build_2, ↓tX0_build_5, ↓tX0_build_6, ↓tX0_build_9, ↓tX0_build_10, ↓tX0_build_13, ↓tX0_build_14, ↓tX0_build_17, ↓tX0_build_18, ↓tX0_build_21, ↓tX0_build_22, ↓tX0_build_25, ↓tX0_build_27, ↓tX0_build_30, ↓tX0_build_31, ↓tX0_build_32, ↓tX0_build_33, ↓tX0_build_34, ↓tX0_build_35, ↓tX0_build_38, ↓tX0_build_39, ↓tX0_build_40, ↓tX0_build_41, ↓tX0_build_44, ↓tX0_build_47, ↓tX0_build_50, ↓tX0_build_51, ↓tX0_build_52, ↓tX0_build_53, ↓tX0_build_54, ↓tX0_build_57, ↓tX0_build_58, ↓tX0_build_59, ↓tX0_build_60, ↓tX0_build_63, ↓tX0_build_64, ↓tX0_build_65, ↓tX0_build_68, ↓tX0_build_69, ↓tX0_build_70, ↓tX0_build_73, ↓tX0_build_74, ↓tX0_build_75, ↓tX0_build_78, ↓tX0_build_79, ↓tX0_build_80, ↓tX0_build_83, ↓tX0_build_84, ↓tX0_build_85, ↓tX0_build_88, ↓oAl, ↓oCallS, ↓oCallV, ↓oGet, ↓oGo, ↓oIald, ↓oIf2ge, ↓oIl, ↓oInc, ↓oIs, ↓oK, ↓oMax, ↓oMin, ↓oPutI, ↓oPutZ, ↓oSub, ↓oVret, ↓oZald, q_set_s, q_set_n, au_0, auO_len, q_up_a, auOs_6, auO_3, au_a3, auO_4, au_a4, auO_2, au_a2, auOs_7, auO_0, au_a0, auOs_8, auO_1, au_a1, z_clamp, z_ltI, z_leI, z_eqI, z_lt0, z_ge0, z_eq0I, z_gt0I, z_le0I, z_m1lt, z_m1ge, z_m1eq, z_m1eq', z_inT, z_add, z_sub, z_mul, z_div, z_rem, n_ltT, n_ltF, n_leT, n_leF, n_eqT, n_eqF, q_tl_i, q_tl_n, q_ap_n, q_ap_c, hmin]
  have fin : ∀ s' A' fo' tk', au_T (va_up s 6 (nI 0)) (va_up (va_up A 3 f3) 4 f4) 0 0 (fun _ => 0) (fun _ => 0) t s' A' fo' tk' → au_L G L d Q M0 i j (t_nodes t) (0 + t_nodes t) s' A' := by
    intro s' A' fo' tk' h
    obtain ⟨ha, hb, ⟨hc0, hc1, hc2⟩, hd', he, hf, hg, hh⟩ := h
    rw [Nat.zero_add] at hb hc0 hc1 hc2 ⊢
    unfold au_L
    have hz : b_I (g_e t) = 0 ∨ b_I (g_e t) = 1 := by
      cases g_e t
      · exact Or.inl rfl
      · exact Or.inr rfl
    have hmax : (if 0 ≤ t_nodes t - 1 then t_nodes t - 1 else 0) = t_nodes t - 1 := if_pos (Nat.zero_le _)
    refine q_X.run sX0_build [] 60 ?_
    simp (maxSteps := 10000000) (disch := omega) only [↓q_run_s, q_stop_n, q_stop_c, q_lg_c, q_ls_d, q_ld_n, q_ld_c, q_cat_i, q_cat_r, q_cat_n, q_wd_n, q_wd_c, q_bx_1, q_bx_2, q_bx_3, q_bx_4, q_bx_5, q_bx_6, q_bx_7, q_bx_8, q_pop_0, q_pop_s, ↓reduceIte, Nat.reduceEqDiff, reduceCtorEq, eq_self, Bool.false_eq_true, Nat.reduceAdd, Nat.reduceSub, Nat.reduceMul, Nat.reduceLeDiff, Nat.reduceLT, Nat.le_refl, Nat.zero_le, true_and, and_true, false_and, and_false, or_false, false_or, true_or, or_true, not_true_eq_false, not_false_eq_true, if_true, if_false, List.getElem?_cons_zero, List.getElem?_cons_succ, List.set_cons_zero, List.set_cons_succ, List.length_cons, List.length_nil, ↓tX0_build_0, ↓tX0_build_1, ↓tX0_build_2, ↓tX0_build_5, ↓tX0_build_6, ↓tX0_build_9, ↓tX0_build_10, ↓tX0_build_13, ↓tX0_build_14, ↓tX0_build_17, ↓tX0_build_18, ↓tX0_build_21, ↓tX0_build_22, ↓tX0_build_25, ↓tX0_build_27, ↓tX0_build_30, ↓tX0_build_31, ↓tX0_build_32, ↓tX0_build_33, ↓tX0_build_34, ↓tX0_build_35, ↓tX0_build_38, ↓tX0_build_39, ↓tX0_build_40, ↓tX0_build_41, ↓tX0_build_44, ↓tX0_build_47, ↓tX0_build_50, ↓tX0_build_51, ↓tX0_build_52, ↓tX0_build_53, ↓tX0_build_54, ↓tX0_build_57, ↓tX0_build_58, ↓tX0_build_59, ↓tX0_build_60, ↓tX0_build_63, ↓tX0_build_64, ↓tX0_build_65, ↓tX0_build_68, ↓tX0_build_69, ↓tX0_build_70, ↓tX0_build_73, ↓tX0_build_74, ↓tX0_build_75, ↓tX0_build_78, ↓tX0_build_79, ↓tX0_build_80, ↓tX0_build_83, ↓tX0_build_84, ↓tX0_build_85, ↓tX0_build_88, ↓oAl, ↓oCallS, ↓oCallV, ↓oGet, ↓oGo, ↓oIald, ↓oIf2ge, ↓oIl, ↓oInc, ↓oIs, ↓oK, ↓oMax, ↓oMin, ↓oPutI, ↓oPutZ, ↓oSub, ↓oVret, ↓oZald, q_set_s, q_set_n, au_0, auO_len, q_up_a, auOs_6, auO_3, au_a3, auO_4, au_a4, auO_2, au_a2, auOs_7, auO_0, au_a0, auOs_8, auO_1, au_a1, z_clamp, z_ltI, z_leI, z_eqI, z_lt0, z_ge0, z_eq0I, z_gt0I, z_le0I, z_m1lt, z_m1ge, z_m1eq, z_m1eq', z_inT, z_add, z_sub, z_mul, z_div, z_rem, n_ltT, n_ltF, n_leT, n_leF, n_eqT, n_eqF, q_tl_i, q_tl_n, q_ap_n, q_ap_c, hc0, hc1, hc2, hz]
    refine c0_fillSteps (n := g_n t) (fo := fo') (tk := tk') ((va_up_ne _ _ (by decide)).trans ((va_up_ne _ _ (by decide)).trans hb)) (by omega) (fun q hq => (hf q hq).1) hg fun g hgt => ?_
    refine q_X.run sX0_build [] 60 ?_
    simp (maxSteps := 10000000) (disch := omega) only [↓q_run_s, q_stop_n, q_stop_c, q_lg_c, q_ls_d, q_ld_n, q_ld_c, q_cat_i, q_cat_r, q_cat_n, q_wd_n, q_wd_c, q_bx_1, q_bx_2, q_bx_3, q_bx_4, q_bx_5, q_bx_6, q_bx_7, q_bx_8, q_pop_0, q_pop_s, ↓reduceIte, Nat.reduceEqDiff, reduceCtorEq, eq_self, Bool.false_eq_true, Nat.reduceAdd, Nat.reduceSub, Nat.reduceMul, Nat.reduceLeDiff, Nat.reduceLT, Nat.le_refl, Nat.zero_le, true_and, and_true, false_and, and_false, or_false, false_or, true_or, or_true, not_true_eq_false, not_false_eq_true, if_true, if_false, List.getElem?_cons_zero, List.getElem?_cons_succ, List.set_cons_zero, List.set_cons_succ, List.length_cons, List.length_nil, ↓tX0_build_0, ↓tX0_build_1, ↓tX0_build_2, ↓tX0_build_5, ↓tX0_build_6, ↓tX0_build_9, ↓tX0_build_10, ↓tX0_build_13, ↓tX0_build_14, ↓tX0_build_17, ↓tX0_build_18, ↓tX0_build_21, ↓tX0_build_22, ↓tX0_build_25, ↓tX0_build_27, ↓tX0_build_30, ↓tX0_build_31, ↓tX0_build_32, ↓tX0_build_33, ↓tX0_build_34, ↓tX0_build_35, ↓tX0_build_38, ↓tX0_build_39, ↓tX0_build_40, ↓tX0_build_41, ↓tX0_build_44, ↓tX0_build_47, ↓tX0_build_50, ↓tX0_build_51, ↓tX0_build_52, ↓tX0_build_53, ↓tX0_build_54, ↓tX0_build_57, ↓tX0_build_58, ↓tX0_build_59, ↓tX0_build_60, ↓tX0_build_63, ↓tX0_build_64, ↓tX0_build_65, ↓tX0_build_68, ↓tX0_build_69, ↓tX0_build_70, ↓tX0_build_73, ↓tX0_build_74, ↓tX0_build_75, ↓tX0_build_78, ↓tX0_build_79, ↓tX0_build_80, ↓tX0_build_83, ↓tX0_build_84, ↓tX0_build_85, ↓tX0_build_88, ↓oAl, ↓oCallS, ↓oCallV, ↓oGet, ↓oGo, ↓oIald, ↓oIf2ge, ↓oIl, ↓oInc, ↓oIs, ↓oK, ↓oMax, ↓oMin, ↓oPutI, ↓oPutZ, ↓oSub, ↓oVret, ↓oZald, q_set_s, q_set_n, au_0, auO_len, q_up_a, auOs_6, auO_3, au_a3, auO_4, au_a4, auO_2, au_a2, auOs_7, auO_0, au_a0, auOs_8, auO_1, au_a1, z_clamp, z_ltI, z_leI, z_eqI, z_lt0, z_ge0, z_eq0I, z_gt0I, z_le0I, z_m1lt, z_m1ge, z_m1eq, z_m1eq', z_inT, z_add, z_sub, z_mul, z_div, z_rem, n_ltT, n_ltF, n_leT, n_leF, n_eqT, n_eqF, q_tl_i, q_tl_n, q_ap_n, q_ap_c]
    refine hQ _ _ ⟨?_, ?_, fun acc hacc c hc => ?_⟩
    · rw [va_up_ne _ _ (by decide), va_up_self]
    · rw [va_up_self]
    · obtain ⟨g1, g2⟩ := hgt c hc
      have htk : ∀ q, (tk' c).testBit q = true ↔ q < g_n t ∧ (acc q).testBit c = true := by
        intro q
        rw [hh acc hacc c q hc, Nat.zero_testBit, Nat.zero_add]
        exact ⟨fun h => h.elim (fun h => absurd h (by decide)) (fun h => h.2), fun h => Or.inr ⟨Nat.zero_le _, h⟩⟩
      refine ⟨?_, fun S hS => ?_⟩
      · rw [va_up_self, g1]
        congr 1
        refine g_ext fun q => ?_
        rw [Nat.testBit_and, Bool.and_eq_true, htk q, u_step_bit]
        constructor
        · rintro ⟨h1, h2, h3⟩
          exact ⟨by omega, Or.inl ⟨by decide, h1⟩, h3⟩
        · rintro ⟨h1, h2 | ⟨q', h2, h3, -⟩, h4⟩
          · have := g_f_rng t 0 q h2.2
            exact ⟨h2.2, by omega, h4⟩
          · have : ∀ q', q' < 7 → (128 : Nat).testBit q' = false := by decide
            rw [this q' h2] at h3
            exact absurd h3 (by decide)
      · rw [va_up_self, g2 S hS]
        congr 1
        refine g_ext fun q => ?_
        have hS7 : ¬ S.testBit 7 = true := fun h => by
          have := g_S_lt hS h
          omega
        rw [Nat.testBit_and, Bool.and_eq_true, htk q, u_step_bit, u_or_bit]
        constructor
        · rintro ⟨h1, h2, h3⟩
          rcases h1 with h1 | ⟨q', h4, h5, h6⟩
          · rw [Nat.zero_testBit] at h1
            exact absurd h1 (by decide)
          · rw [(hf q' (by omega)).2, Nat.zero_or] at h6
            exact ⟨by omega, Or.inr ⟨q', by omega, h5, h6⟩, h3⟩
        · rintro ⟨h1, h2 | ⟨q', h2, h3, h5⟩, h4⟩
          · exact absurd h2.1 hS7
          · have hq' := g_S_lt hS h3
            have := g_w_rng t 0 q' q h5
            exact ⟨Or.inr ⟨q', hq', h3, by rw [(hf q' (by omega)).2, Nat.zero_or]; exact h5⟩, by omega, h4⟩
  have h := c0_rows (G := G) (L := L) (d := d) (Q := Q) hN hs hn h12 hdj (by omega) t 0 0 (va_up s 6 (nI 0)) (va_up (va_up A 3 f3) 4 f4) (fun _ => 0) (fun _ => 0) ht (by omega) (by omega) (va_up_self _ _ _) (fun q hq => hf3 q hq) (fun c hc => hf4 c hc) fin
  refine q_X.lv2 _ ?_ h
  exact ⟨rfl, rfl, rfl, rfl, trivial⟩
end
