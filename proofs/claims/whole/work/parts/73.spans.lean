/-! the class's Spans -/
theorem l_cmp_eq {a b : Nat} (ha : a < 18446744073709551616) (hb : b < 18446744073709551616) : (lg_cmp (nL a) (nL b) = 0) = (a = b) := by
  refine propext ⟨fun h => ?_, fun h => ?_⟩
  · by_cases c : nL a = nL b
    · exact (l_eq ha hb).mp c
    · exfalso
      unfold lg_cmp at h
      simp only [c] at h
      split at h <;> first | exact absurd h (by decide) | skip
      all_goals first | (split at h <;> exact absurd h (by decide)) | skip
  · rw [h]
    unfold lg_cmp
    simp
section
variable {G : qC} {L : Launch} {d : Nat} {M : qM} {Q : Option Value → qM → Prop}
set_option maxRecDepth 100000 in
set_option maxHeartbeats 8000000 in
theorem c8_has {X b e : Nat} (hX : X < 18446744073709551616) (hb : b < 8) (he : e < 8) (hT : X.testBit (8 * b + e) = true → Q (some (.int (nI 1))) M) (hF : ¬ X.testBit (8 * b + e) = true → Q (some (.int (nI 0))) M) : q_Call G L d mX8_has 0 0 [.long (nL X), .int (nI b), .int (nI e)] M Q := by
  refine q_Call.of [(0, .long (nL X)), (2, .int (nI b)), (3, .int (nI e))] rfl ?_
  have e1 : X / 2 ^ (8 * b + e) &&& 1 = z_tn X (8 * b + e) := by rw [Nat.and_one_is_mod, z_tn_eq]
  have e2 : z_tn X (8 * b + e) < 18446744073709551616 := Nat.lt_trans (z_tn_lt _ _) (by decide)
  by_cases c : X.testBit (8 * b + e) = true
  · have e3 : z_tn X (8 * b + e) = 1 := if_pos c
    refine q_X.run sX8_has [] 40 ?_
    simp (maxSteps := 10000000) (disch := omega) only [↓q_run_s, q_stop_n, q_stop_c, q_lg_c, q_ls_d, q_ld_n, q_ld_c, q_cat_i, q_cat_r, q_cat_n, q_wd_n, q_wd_c, q_bx_1, q_bx_2, q_bx_3, q_bx_4, q_bx_5, q_bx_6, q_bx_7, q_bx_8, q_pop_0, q_pop_s, ↓reduceIte, Nat.reduceEqDiff, reduceCtorEq, eq_self, Bool.false_eq_true, Nat.reduceAdd, Nat.reduceSub, Nat.reduceMul, Nat.reduceLeDiff, Nat.reduceLT, Nat.le_refl, Nat.zero_le, true_and, and_true, false_and, and_false, or_false, false_or, true_or, or_true, not_true_eq_false, not_false_eq_true, if_true, if_false, List.getElem?_cons_zero, List.getElem?_cons_succ, List.set_cons_zero, List.set_cons_succ, List.length_cons, List.length_nil, ↓tX8_has_0, ↓tX8_has_1, ↓tX8_has_3, ↓tX8_has_4, ↓tX8_has_5, ↓tX8_has_6, ↓tX8_has_7, ↓tX8_has_8, ↓tX8_has_9, ↓tX8_has_10, ↓tX8_has_11, ↓tX8_has_12, ↓tX8_has_15, ↓tX8_has_16, ↓tX8_has_19, ↓tX8_has_20, ↓oAdd, ↓oGo, ↓oIf1ne, ↓oIl, ↓oK, ↓oLand, ↓oLcmp, ↓oLl, ↓oLushr, ↓oMul, ↓oZret, q_ls2_d, q_ld1_n, q_ld1_c, q_cat_l, q_set_s, q_set_n, z_clamp, z_ltI, z_leI, z_eqI, z_lt0, z_ge0, z_eq0I, z_gt0I, z_le0I, z_m1lt, z_m1ge, z_m1eq, z_m1eq', z_inT, z_add, z_sub, z_mul, z_div, z_rem, n_ltT, n_ltF, n_leT, n_leF, n_eqT, n_eqF, z_11, q_tl_i, q_tl_n, q_ap_n, q_ap_c, l_ushr, l_c1, l_and, e1, e3, l_cmp_eq]
    exact hT c
  · have e3 : z_tn X (8 * b + e) = 0 := if_neg c
    refine q_X.run sX8_has [] 40 ?_
    simp (maxSteps := 10000000) (disch := omega) only [↓q_run_s, q_stop_n, q_stop_c, q_lg_c, q_ls_d, q_ld_n, q_ld_c, q_cat_i, q_cat_r, q_cat_n, q_wd_n, q_wd_c, q_bx_1, q_bx_2, q_bx_3, q_bx_4, q_bx_5, q_bx_6, q_bx_7, q_bx_8, q_pop_0, q_pop_s, ↓reduceIte, Nat.reduceEqDiff, reduceCtorEq, eq_self, Bool.false_eq_true, Nat.reduceAdd, Nat.reduceSub, Nat.reduceMul, Nat.reduceLeDiff, Nat.reduceLT, Nat.le_refl, Nat.zero_le, true_and, and_true, false_and, and_false, or_false, false_or, true_or, or_true, not_true_eq_false, not_false_eq_true, if_true, if_false, List.getElem?_cons_zero, List.getElem?_cons_succ, List.set_cons_zero, List.set_cons_succ, List.length_cons, List.length_nil, ↓tX8_has_0, ↓tX8_has_1, ↓tX8_has_3, ↓tX8_has_4, ↓tX8_has_5, ↓tX8_has_6, ↓tX8_has_7, ↓tX8_has_8, ↓tX8_has_9, ↓tX8_has_10, ↓tX8_has_11, ↓tX8_has_12, ↓tX8_has_15, ↓tX8_has_16, ↓tX8_has_19, ↓tX8_has_20, ↓oAdd, ↓oGo, ↓oIf1ne, ↓oIl, ↓oK, ↓oLand, ↓oLcmp, ↓oLl, ↓oLushr, ↓oMul, ↓oZret, q_ls2_d, q_ld1_n, q_ld1_c, q_cat_l, q_set_s, q_set_n, z_clamp, z_ltI, z_leI, z_eqI, z_lt0, z_ge0, z_eq0I, z_gt0I, z_le0I, z_m1lt, z_m1ge, z_m1eq, z_m1eq', z_inT, z_add, z_sub, z_mul, z_div, z_rem, n_ltT, n_ltF, n_leT, n_leF, n_eqT, n_eqF, z_11, q_tl_i, q_tl_n, q_ap_n, q_ap_c, l_ushr, l_c1, l_and, e1, e3, l_cmp_eq]
    exact hF c
set_option maxRecDepth 100000 in
set_option maxHeartbeats 8000000 in
theorem c8_behind {X Y : Nat} (hX : X < 18446744073709551616) (hY : Y < 18446744073709551616) (hQ : Q (some (.long (nL (s_beh X Y 7)))) M) : q_Call G L d mX8_behind 0 0 [.long (nL X), .long (nL Y)] M Q := by
  have loop : ∀ (g m : Nat), g + m = 7 → q_X G L d mX8_behind 0 0 Q 6 [(0, .long (nL X)), (2, .long (nL Y)), (4, .long (nL (s_beh X Y m))), (6, .int (nI m))] [] M 0 0 := by
    intro g
    induction g with
    | zero =>
      intro m hm
      have e : m = 7 := by omega
      subst e
      refine q_X.run sX8_behind [] 20 ?_
      simp (maxSteps := 10000000) (disch := omega) only [↓q_run_s, q_stop_n, q_stop_c, q_lg_c, q_ls_d, q_ld_n, q_ld_c, q_cat_i, q_cat_r, q_cat_n, q_wd_n, q_wd_c, q_bx_1, q_bx_2, q_bx_3, q_bx_4, q_bx_5, q_bx_6, q_bx_7, q_bx_8, q_pop_0, q_pop_s, ↓reduceIte, Nat.reduceEqDiff, reduceCtorEq, eq_self, Bool.false_eq_true, Nat.reduceAdd, Nat.reduceSub, Nat.reduceMul, Nat.reduceLeDiff, Nat.reduceLT, Nat.le_refl, Nat.zero_le, true_and, and_true, false_and, and_false, or_false, false_or, true_or, or_true, not_true_eq_false, not_false_eq_true, if_true, if_false, List.getElem?_cons_zero, List.getElem?_cons_succ, List.set_cons_zero, List.set_cons_succ, List.length_cons, List.length_nil, ↓tX8_behind_0, ↓tX8_behind_1, ↓tX8_behind_3, ↓tX8_behind_4, ↓tX8_behind_6, ↓tX8_behind_8, ↓tX8_behind_10, ↓tX8_behind_13, ↓tX8_behind_15, ↓tX8_behind_16, ↓tX8_behind_18, ↓tX8_behind_19, ↓tX8_behind_22, ↓tX8_behind_23, ↓tX8_behind_24, ↓tX8_behind_26, ↓tX8_behind_28, ↓tX8_behind_29, ↓tX8_behind_30, ↓tX8_behind_33, ↓tX8_behind_34, ↓tX8_behind_35, ↓tX8_behind_36, ↓tX8_behind_38, ↓tX8_behind_41, ↓tX8_behind_44, ↓tX8_behind_46, ↓oGo, ↓oIf2gt, ↓oIl, ↓oInc, ↓oIs, ↓oK, ↓oLand, ↓oLl, ↓oLmul, ↓oLor, ↓oLret, ↓oLs, ↓oLushr, ↓oMul, q_ls2_d, q_ld1_n, q_ld1_c, q_cat_l, q_set_s, q_set_n, z_clamp, z_ltI, z_leI, z_eqI, z_lt0, z_ge0, z_eq0I, z_gt0I, z_le0I, z_m1lt, z_m1ge, z_m1eq, z_m1eq', z_inT, z_add, z_sub, z_mul, z_div, z_rem, n_ltT, n_ltF, n_leT, n_leF, n_eqT, n_eqF, z_11, q_tl_i, q_tl_n, q_ap_n, q_ap_c]
      exact hQ
    | succ g ih =>
      intro m hm
      have h' := ih (m + 1) (by omega)
      have e1 : s_beh X Y (m + 1) = s_beh X Y m ||| (X / 2 ^ m &&& 72340172838076673) * (Y / 2 ^ (8 * m) &&& 255) := rfl
      rw [e1] at h'
      refine q_X.run sX8_behind [6] 40 ?_
      simp (maxSteps := 10000000) (disch := omega) only [↓q_run_s, q_stop_n, q_stop_c, q_lg_c, q_ls_d, q_ld_n, q_ld_c, q_cat_i, q_cat_r, q_cat_n, q_wd_n, q_wd_c, q_bx_1, q_bx_2, q_bx_3, q_bx_4, q_bx_5, q_bx_6, q_bx_7, q_bx_8, q_pop_0, q_pop_s, ↓reduceIte, Nat.reduceEqDiff, reduceCtorEq, eq_self, Bool.false_eq_true, Nat.reduceAdd, Nat.reduceSub, Nat.reduceMul, Nat.reduceLeDiff, Nat.reduceLT, Nat.le_refl, Nat.zero_le, true_and, and_true, false_and, and_false, or_false, false_or, true_or, or_true, not_true_eq_false, not_false_eq_true, if_true, if_false, List.getElem?_cons_zero, List.getElem?_cons_succ, List.set_cons_zero, List.set_cons_succ, List.length_cons, List.length_nil, ↓tX8_behind_0, ↓tX8_behind_1, ↓tX8_behind_3, ↓tX8_behind_4, ↓tX8_behind_6, ↓tX8_behind_8, ↓tX8_behind_10, ↓tX8_behind_13, ↓tX8_behind_15, ↓tX8_behind_16, ↓tX8_behind_18, ↓tX8_behind_19, ↓tX8_behind_22, ↓tX8_behind_23, ↓tX8_behind_24, ↓tX8_behind_26, ↓tX8_behind_28, ↓tX8_behind_29, ↓tX8_behind_30, ↓tX8_behind_33, ↓tX8_behind_34, ↓tX8_behind_35, ↓tX8_behind_36, ↓tX8_behind_38, ↓tX8_behind_41, ↓tX8_behind_44, ↓tX8_behind_46, ↓oGo, ↓oIf2gt, ↓oIl, ↓oInc, ↓oIs, ↓oK, ↓oLand, ↓oLl, ↓oLmul, ↓oLor, ↓oLret, ↓oLs, ↓oLushr, ↓oMul, q_ls2_d, q_ld1_n, q_ld1_c, q_cat_l, q_set_s, q_set_n, z_clamp, z_ltI, z_leI, z_eqI, z_lt0, z_ge0, z_eq0I, z_gt0I, z_le0I, z_m1lt, z_m1ge, z_m1eq, z_m1eq', z_inT, z_add, z_sub, z_mul, z_div, z_rem, n_ltT, n_ltF, n_leT, n_leF, n_eqT, n_eqF, z_11, q_tl_i, q_tl_n, q_ap_n, q_ap_c, l_ushr, l_cB, l_cE, l_and, l_mul, l_or]
      refine q_X.lv2 _ ?_ h'
      exact ⟨rfl, rfl, rfl, rfl, trivial⟩
  refine q_Call.of [(0, .long (nL X)), (2, .long (nL Y))] rfl ?_
  have h' := loop 7 0 rfl
  refine q_X.run sX8_behind [6] 20 ?_
  simp (maxSteps := 10000000) (disch := omega) only [↓q_run_s, q_stop_n, q_stop_c, q_lg_c, q_ls_d, q_ld_n, q_ld_c, q_cat_i, q_cat_r, q_cat_n, q_wd_n, q_wd_c, q_bx_1, q_bx_2, q_bx_3, q_bx_4, q_bx_5, q_bx_6, q_bx_7, q_bx_8, q_pop_0, q_pop_s, ↓reduceIte, Nat.reduceEqDiff, reduceCtorEq, eq_self, Bool.false_eq_true, Nat.reduceAdd, Nat.reduceSub, Nat.reduceMul, Nat.reduceLeDiff, Nat.reduceLT, Nat.le_refl, Nat.zero_le, true_and, and_true, false_and, and_false, or_false, false_or, true_or, or_true, not_true_eq_false, not_false_eq_true, if_true, if_false, List.getElem?_cons_zero, List.getElem?_cons_succ, List.set_cons_zero, List.set_cons_succ, List.length_cons, List.length_nil, ↓tX8_behind_0, ↓tX8_behind_1, ↓tX8_behind_3, ↓tX8_behind_4, ↓tX8_behind_6, ↓tX8_behind_8, ↓tX8_behind_10, ↓tX8_behind_13, ↓tX8_behind_15, ↓tX8_behind_16, ↓tX8_behind_18, ↓tX8_behind_19, ↓tX8_behind_22, ↓tX8_behind_23, ↓tX8_behind_24, ↓tX8_behind_26, ↓tX8_behind_28, ↓tX8_behind_29, ↓tX8_behind_30, ↓tX8_behind_33, ↓tX8_behind_34, ↓tX8_behind_35, ↓tX8_behind_36, ↓tX8_behind_38, ↓tX8_behind_41, ↓tX8_behind_44, ↓tX8_behind_46, ↓oGo, ↓oIf2gt, ↓oIl, ↓oInc, ↓oIs, ↓oK, ↓oLand, ↓oLl, ↓oLmul, ↓oLor, ↓oLret, ↓oLs, ↓oLushr, ↓oMul, q_ls2_d, q_ld1_n, q_ld1_c, q_cat_l, q_set_s, q_set_n, z_clamp, z_ltI, z_leI, z_eqI, z_lt0, z_ge0, z_eq0I, z_gt0I, z_le0I, z_m1lt, z_m1ge, z_m1eq, z_m1eq', z_inT, z_add, z_sub, z_mul, z_div, z_rem, n_ltT, n_ltF, n_leT, n_leF, n_eqT, n_eqF, z_11, q_tl_i, q_tl_n, q_ap_n, q_ap_c]
  refine q_X.lv2 _ ?_ h'
  exact ⟨rfl, rfl, rfl, rfl, trivial⟩
theorem s_ag_lt {X : Nat} (hX : X < 18446744073709551616) : ∀ j, s_ag X j < 18446744073709551616
  | 0 => hX
  | j + 1 => Nat.or_lt_two_pow (n := 64) (s_ag_lt hX j) (s_beh_lt 7)
set_option maxRecDepth 100000 in
set_option maxHeartbeats 8000000 in
theorem c8_again {X : Nat} (hX : X < 18446744073709551616) (hd : 1 ≤ d) (hQ : Q (some (.long (nL (s_ag X 3)))) M) : q_Call G L d mX8_again 0 0 [.long (nL X)] M Q := by
  have loop : ∀ (g m : Nat), g + m = 3 → q_X G L d mX8_again 0 0 Q 5 [(0, .long (nL X)), (2, .long (nL (s_ag X m))), (4, .int (nI m))] [] M 0 0 := by
    intro g
    induction g with
    | zero =>
      intro m hm
      have e : m = 3 := by omega
      subst e
      refine q_X.run sX8_again [] 20 ?_
      simp (maxSteps := 10000000) (disch := omega) only [↓q_run_s, q_stop_n, q_stop_c, q_lg_c, q_ls_d, q_ld_n, q_ld_c, q_cat_i, q_cat_r, q_cat_n, q_wd_n, q_wd_c, q_bx_1, q_bx_2, q_bx_3, q_bx_4, q_bx_5, q_bx_6, q_bx_7, q_bx_8, q_pop_0, q_pop_s, ↓reduceIte, Nat.reduceEqDiff, reduceCtorEq, eq_self, Bool.false_eq_true, Nat.reduceAdd, Nat.reduceSub, Nat.reduceMul, Nat.reduceLeDiff, Nat.reduceLT, Nat.le_refl, Nat.zero_le, true_and, and_true, false_and, and_false, or_false, false_or, true_or, or_true, not_true_eq_false, not_false_eq_true, if_true, if_false, List.getElem?_cons_zero, List.getElem?_cons_succ, List.set_cons_zero, List.set_cons_succ, List.length_cons, List.length_nil, ↓tX8_again_0, ↓tX8_again_1, ↓tX8_again_2, ↓tX8_again_3, ↓tX8_again_5, ↓tX8_again_7, ↓tX8_again_8, ↓tX8_again_11, ↓tX8_again_12, ↓tX8_again_13, ↓tX8_again_14, ↓tX8_again_17, ↓tX8_again_18, ↓tX8_again_19, ↓tX8_again_22, ↓tX8_again_25, ↓tX8_again_26, ↓oCallS, ↓oGo, ↓oIf2ge, ↓oIl, ↓oInc, ↓oIs, ↓oK, ↓oLl, ↓oLor, ↓oLret, ↓oLs, q_ls2_d, q_ld1_n, q_ld1_c, q_cat_l, q_set_s, q_set_n, z_clamp, z_ltI, z_leI, z_eqI, z_lt0, z_ge0, z_eq0I, z_gt0I, z_le0I, z_m1lt, z_m1ge, z_m1eq, z_m1eq', z_inT, z_add, z_sub, z_mul, z_div, z_rem, n_ltT, n_ltF, n_leT, n_leF, n_eqT, n_eqF, z_11, q_tl_i, q_tl_n, q_ap_n, q_ap_c]
      exact hQ
    | succ g ih =>
      intro m hm
      have h' := ih (m + 1) (by omega)
      have e1 : s_ag X (m + 1) = s_ag X m ||| s_beh (s_ag X m) (s_ag X m) 7 := rfl
      rw [e1] at h'
      refine q_X.run sX8_again [] 40 ?_
      simp (maxSteps := 10000000) (disch := omega) only [↓q_run_s, q_stop_n, q_stop_c, q_lg_c, q_ls_d, q_ld_n, q_ld_c, q_cat_i, q_cat_r, q_cat_n, q_wd_n, q_wd_c, q_bx_1, q_bx_2, q_bx_3, q_bx_4, q_bx_5, q_bx_6, q_bx_7, q_bx_8, q_pop_0, q_pop_s, ↓reduceIte, Nat.reduceEqDiff, reduceCtorEq, eq_self, Bool.false_eq_true, Nat.reduceAdd, Nat.reduceSub, Nat.reduceMul, Nat.reduceLeDiff, Nat.reduceLT, Nat.le_refl, Nat.zero_le, true_and, and_true, false_and, and_false, or_false, false_or, true_or, or_true, not_true_eq_false, not_false_eq_true, if_true, if_false, List.getElem?_cons_zero, List.getElem?_cons_succ, List.set_cons_zero, List.set_cons_succ, List.length_cons, List.length_nil, ↓tX8_again_0, ↓tX8_again_1, ↓tX8_again_2, ↓tX8_again_3, ↓tX8_again_5, ↓tX8_again_7, ↓tX8_again_8, ↓tX8_again_11, ↓tX8_again_12, ↓tX8_again_13, ↓tX8_again_14, ↓tX8_again_17, ↓tX8_again_18, ↓tX8_again_19, ↓tX8_again_22, ↓tX8_again_25, ↓tX8_again_26, ↓oCallS, ↓oGo, ↓oIf2ge, ↓oIl, ↓oInc, ↓oIs, ↓oK, ↓oLl, ↓oLor, ↓oLret, ↓oLs, q_ls2_d, q_ld1_n, q_ld1_c, q_cat_l, q_set_s, q_set_n, z_clamp, z_ltI, z_leI, z_eqI, z_lt0, z_ge0, z_eq0I, z_gt0I, z_le0I, z_m1lt, z_m1ge, z_m1eq, z_m1eq', z_inT, z_add, z_sub, z_mul, z_div, z_rem, n_ltT, n_ltF, n_leT, n_leF, n_eqT, n_eqF, z_11, q_tl_i, q_tl_n, q_ap_n, q_ap_c]
      refine c8_behind (s_ag_lt hX m) (s_ag_lt hX m) ?_
      refine q_X.run sX8_again [5] 40 ?_
      simp (maxSteps := 10000000) (disch := omega) only [↓q_run_s, q_stop_n, q_stop_c, q_lg_c, q_ls_d, q_ld_n, q_ld_c, q_cat_i, q_cat_r, q_cat_n, q_wd_n, q_wd_c, q_bx_1, q_bx_2, q_bx_3, q_bx_4, q_bx_5, q_bx_6, q_bx_7, q_bx_8, q_pop_0, q_pop_s, ↓reduceIte, Nat.reduceEqDiff, reduceCtorEq, eq_self, Bool.false_eq_true, Nat.reduceAdd, Nat.reduceSub, Nat.reduceMul, Nat.reduceLeDiff, Nat.reduceLT, Nat.le_refl, Nat.zero_le, true_and, and_true, false_and, and_false, or_false, false_or, true_or, or_true, not_true_eq_false, not_false_eq_true, if_true, if_false, List.getElem?_cons_zero, List.getElem?_cons_succ, List.set_cons_zero, List.set_cons_succ, List.length_cons, List.length_nil, ↓tX8_again_0, ↓tX8_again_1, ↓tX8_again_2, ↓tX8_again_3, ↓tX8_again_5, ↓tX8_again_7, ↓tX8_again_8, ↓tX8_again_11, ↓tX8_again_12, ↓tX8_again_13, ↓tX8_again_14, ↓tX8_again_17, ↓tX8_again_18, ↓tX8_again_19, ↓tX8_again_22, ↓tX8_again_25, ↓tX8_again_26, ↓oCallS, ↓oGo, ↓oIf2ge, ↓oIl, ↓oInc, ↓oIs, ↓oK, ↓oLl, ↓oLor, ↓oLret, ↓oLs, q_ls2_d, q_ld1_n, q_ld1_c, q_cat_l, q_set_s, q_set_n, z_clamp, z_ltI, z_leI, z_eqI, z_lt0, z_ge0, z_eq0I, z_gt0I, z_le0I, z_m1lt, z_m1ge, z_m1eq, z_m1eq', z_inT, z_add, z_sub, z_mul, z_div, z_rem, n_ltT, n_ltF, n_leT, n_leF, n_eqT, n_eqF, z_11, q_tl_i, q_tl_n, q_ap_n, q_ap_c, l_or]
      refine q_X.lv2 _ ?_ h'
      exact ⟨rfl, rfl, rfl, trivial⟩
  refine q_Call.of [(0, .long (nL X))] rfl ?_
  have h' := loop 3 0 rfl
  refine q_X.run sX8_again [5] 20 ?_
  simp (maxSteps := 10000000) (disch := omega) only [↓q_run_s, q_stop_n, q_stop_c, q_lg_c, q_ls_d, q_ld_n, q_ld_c, q_cat_i, q_cat_r, q_cat_n, q_wd_n, q_wd_c, q_bx_1, q_bx_2, q_bx_3, q_bx_4, q_bx_5, q_bx_6, q_bx_7, q_bx_8, q_pop_0, q_pop_s, ↓reduceIte, Nat.reduceEqDiff, reduceCtorEq, eq_self, Bool.false_eq_true, Nat.reduceAdd, Nat.reduceSub, Nat.reduceMul, Nat.reduceLeDiff, Nat.reduceLT, Nat.le_refl, Nat.zero_le, true_and, and_true, false_and, and_false, or_false, false_or, true_or, or_true, not_true_eq_false, not_false_eq_true, if_true, if_false, List.getElem?_cons_zero, List.getElem?_cons_succ, List.set_cons_zero, List.set_cons_succ, List.length_cons, List.length_nil, ↓tX8_again_0, ↓tX8_again_1, ↓tX8_again_2, ↓tX8_again_3, ↓tX8_again_5, ↓tX8_again_7, ↓tX8_again_8, ↓tX8_again_11, ↓tX8_again_12, ↓tX8_again_13, ↓tX8_again_14, ↓tX8_again_17, ↓tX8_again_18, ↓tX8_again_19, ↓tX8_again_22, ↓tX8_again_25, ↓tX8_again_26, ↓oCallS, ↓oGo, ↓oIf2ge, ↓oIl, ↓oInc, ↓oIs, ↓oK, ↓oLl, ↓oLor, ↓oLret, ↓oLs, q_ls2_d, q_ld1_n, q_ld1_c, q_cat_l, q_set_s, q_set_n, z_clamp, z_ltI, z_leI, z_eqI, z_lt0, z_ge0, z_eq0I, z_gt0I, z_le0I, z_m1lt, z_m1ge, z_m1eq, z_m1eq', z_inT, z_add, z_sub, z_mul, z_div, z_rem, n_ltT, n_ltF, n_leT, n_leF, n_eqT, n_eqF, z_11, q_tl_i, q_tl_n, q_ap_n, q_ap_c]
  refine q_X.lv2 _ ?_ h'
  exact ⟨rfl, rfl, rfl, trivial⟩
/-- what comes out, as the class tells it -/
def s_oI : Option (Nat × Nat) → Nat
  | none => 0
  | some (f, e) => 10 * f + e - f
set_option maxRecDepth 100000 in
set_option maxHeartbeats 8000000 in
theorem c8_partOut {X n : Nat} {S : Nat → Nat → Prop} (hn : n ≤ 6) (hX : s_W n X S) (hS : ∀ b e, S b e → b ≤ e ∧ e ≤ n) (hd : 1 ≤ d) (hQ : ∀ o, t_Out S o → (∀ f e, o = some (f, e) → f < e ∧ e ≤ n) → Q (some (.int (nI (s_oI o)))) M) : q_Call G L d mX8_partOut 0 0 [.long (nL X), .int (nI n)] M Q := by
  obtain ⟨hX1, hX2⟩ := hX
  have loop : ∀ (g f : Nat), g + f = n → (∀ f', f' < f → ∀ e', f' < e' → ¬ S f' e') → ∀ l : qLv, q_lg l 0 = some (.long (nL X)) → q_lg l 2 = some (.int (nI n)) → q_lg l 3 = some (.int (nI f)) → q_X G L d mX8_partOut 0 0 Q 2 l [] M 0 0 := by
    intro g
    induction g with
    | zero =>
      intro f hf hno l e0 e1 e2
      have e : f = n := by omega
      subst e
      refine q_X.lv2 [(0, .long (nL X)), (2, .int (nI f)), (3, .int (nI f))] ⟨e0, e1, e2, trivial⟩ ?_
      have h' := hQ none (fun f' e' h1 h2 => by
        have := hS f' e' h2
        exact hno f' (by omega) e' h1 h2) (fun _ _ h => by cases h)
      refine q_X.run sX8_partOut [] 20 ?_
      simp (maxSteps := 10000000) (disch := omega) only [↓q_run_s, q_stop_n, q_stop_c, q_lg_c, q_ls_d, q_ld_n, q_ld_c, q_cat_i, q_cat_r, q_cat_n, q_wd_n, q_wd_c, q_bx_1, q_bx_2, q_bx_3, q_bx_4, q_bx_5, q_bx_6, q_bx_7, q_bx_8, q_pop_0, q_pop_s, ↓reduceIte, Nat.reduceEqDiff, reduceCtorEq, eq_self, Bool.false_eq_true, Nat.reduceAdd, Nat.reduceSub, Nat.reduceMul, Nat.reduceLeDiff, Nat.reduceLT, Nat.le_refl, Nat.zero_le, true_and, and_true, false_and, and_false, or_false, false_or, true_or, or_true, not_true_eq_false, not_false_eq_true, if_true, if_false, List.getElem?_cons_zero, List.getElem?_cons_succ, List.set_cons_zero, List.set_cons_succ, List.length_cons, List.length_nil, ↓tX8_partOut_0, ↓tX8_partOut_1, ↓tX8_partOut_2, ↓tX8_partOut_3, ↓tX8_partOut_4, ↓tX8_partOut_7, ↓tX8_partOut_8, ↓tX8_partOut_10, ↓tX8_partOut_12, ↓tX8_partOut_13, ↓tX8_partOut_16, ↓tX8_partOut_17, ↓tX8_partOut_18, ↓tX8_partOut_20, ↓tX8_partOut_23, ↓tX8_partOut_26, ↓tX8_partOut_28, ↓tX8_partOut_29, ↓tX8_partOut_30, ↓tX8_partOut_32, ↓tX8_partOut_33, ↓tX8_partOut_34, ↓tX8_partOut_35, ↓tX8_partOut_36, ↓tX8_partOut_39, ↓tX8_partOut_42, ↓tX8_partOut_45, ↓tX8_partOut_48, ↓tX8_partOut_49, ↓oAdd, ↓oCallS, ↓oGo, ↓oIf1eq, ↓oIf2ge, ↓oIf2le, ↓oIl, ↓oInc, ↓oIret, ↓oIs, ↓oK, ↓oLl, ↓oMul, ↓oSub, q_ls2_d, q_ld1_n, q_ld1_c, q_cat_l, q_set_s, q_set_n, z_clamp, z_ltI, z_leI, z_eqI, z_lt0, z_ge0, z_eq0I, z_gt0I, z_le0I, z_m1lt, z_m1ge, z_m1eq, z_m1eq', z_inT, z_add, z_sub, z_mul, z_div, z_rem, n_ltT, n_ltF, n_leT, n_leF, n_eqT, n_eqF, z_11, q_tl_i, q_tl_n, q_ap_n, q_ap_c]
      exact h'
    | succ g ih =>
      intro f hf hno l e0 e1 e2
      refine q_X.lv2 [(0, .long (nL X)), (2, .int (nI n)), (3, .int (nI f))] ⟨e0, e1, e2, trivial⟩ ?_
      have inner : ∀ (g2 x : Nat), g2 + f = x → x ≤ n → (∀ e', x < e' → ¬ S f e') → q_X G L d mX8_partOut 0 0 Q 10 [(0, .long (nL X)), (2, .int (nI n)), (3, .int (nI f)), (4, .int (nI x))] [] M 0 0 := by
        intro g2
        induction g2 with
        | zero =>
          intro x hx hxn hx2
          have e : x = f := by omega
          subst e
          refine q_X.run sX8_partOut [2] 20 ?_
          simp (maxSteps := 10000000) (disch := omega) only [↓q_run_s, q_stop_n, q_stop_c, q_lg_c, q_ls_d, q_ld_n, q_ld_c, q_cat_i, q_cat_r, q_cat_n, q_wd_n, q_wd_c, q_bx_1, q_bx_2, q_bx_3, q_bx_4, q_bx_5, q_bx_6, q_bx_7, q_bx_8, q_pop_0, q_pop_s, ↓reduceIte, Nat.reduceEqDiff, reduceCtorEq, eq_self, Bool.false_eq_true, Nat.reduceAdd, Nat.reduceSub, Nat.reduceMul, Nat.reduceLeDiff, Nat.reduceLT, Nat.le_refl, Nat.zero_le, true_and, and_true, false_and, and_false, or_false, false_or, true_or, or_true, not_true_eq_false, not_false_eq_true, if_true, if_false, List.getElem?_cons_zero, List.getElem?_cons_succ, List.set_cons_zero, List.set_cons_succ, List.length_cons, List.length_nil, ↓tX8_partOut_0, ↓tX8_partOut_1, ↓tX8_partOut_2, ↓tX8_partOut_3, ↓tX8_partOut_4, ↓tX8_partOut_7, ↓tX8_partOut_8, ↓tX8_partOut_10, ↓tX8_partOut_12, ↓tX8_partOut_13, ↓tX8_partOut_16, ↓tX8_partOut_17, ↓tX8_partOut_18, ↓tX8_partOut_20, ↓tX8_partOut_23, ↓tX8_partOut_26, ↓tX8_partOut_28, ↓tX8_partOut_29, ↓tX8_partOut_30, ↓tX8_partOut_32, ↓tX8_partOut_33, ↓tX8_partOut_34, ↓tX8_partOut_35, ↓tX8_partOut_36, ↓tX8_partOut_39, ↓tX8_partOut_42, ↓tX8_partOut_45, ↓tX8_partOut_48, ↓tX8_partOut_49, ↓oAdd, ↓oCallS, ↓oGo, ↓oIf1eq, ↓oIf2ge, ↓oIf2le, ↓oIl, ↓oInc, ↓oIret, ↓oIs, ↓oK, ↓oLl, ↓oMul, ↓oSub, q_ls2_d, q_ld1_n, q_ld1_c, q_cat_l, q_set_s, q_set_n, z_clamp, z_ltI, z_leI, z_eqI, z_lt0, z_ge0, z_eq0I, z_gt0I, z_le0I, z_m1lt, z_m1ge, z_m1eq, z_m1eq', z_inT, z_add, z_sub, z_mul, z_div, z_rem, n_ltT, n_ltF, n_leT, n_leF, n_eqT, n_eqF, z_11, q_tl_i, q_tl_n, q_ap_n, q_ap_c]
          refine ih (x + 1) (by omega) ?_ _ rfl rfl rfl
          intro f' h1 e' h2
          rcases Nat.lt_or_eq_of_le (Nat.le_of_lt_succ h1) with h | h
          · exact hno f' h e' h2
          · exact h ▸ hx2 e' (by omega)
        | succ g2 ih2 =>
          intro x hx hxn hx2
          have hbit := hX2 f x (by omega) (by omega)
          refine q_X.run sX8_partOut [] 20 ?_
          simp (maxSteps := 10000000) (disch := omega) only [↓q_run_s, q_stop_n, q_stop_c, q_lg_c, q_ls_d, q_ld_n, q_ld_c, q_cat_i, q_cat_r, q_cat_n, q_wd_n, q_wd_c, q_bx_1, q_bx_2, q_bx_3, q_bx_4, q_bx_5, q_bx_6, q_bx_7, q_bx_8, q_pop_0, q_pop_s, ↓reduceIte, Nat.reduceEqDiff, reduceCtorEq, eq_self, Bool.false_eq_true, Nat.reduceAdd, Nat.reduceSub, Nat.reduceMul, Nat.reduceLeDiff, Nat.reduceLT, Nat.le_refl, Nat.zero_le, true_and, and_true, false_and, and_false, or_false, false_or, true_or, or_true, not_true_eq_false, not_false_eq_true, if_true, if_false, List.getElem?_cons_zero, List.getElem?_cons_succ, List.set_cons_zero, List.set_cons_succ, List.length_cons, List.length_nil, ↓tX8_partOut_0, ↓tX8_partOut_1, ↓tX8_partOut_2, ↓tX8_partOut_3, ↓tX8_partOut_4, ↓tX8_partOut_7, ↓tX8_partOut_8, ↓tX8_partOut_10, ↓tX8_partOut_12, ↓tX8_partOut_13, ↓tX8_partOut_16, ↓tX8_partOut_17, ↓tX8_partOut_18, ↓tX8_partOut_20, ↓tX8_partOut_23, ↓tX8_partOut_26, ↓tX8_partOut_28, ↓tX8_partOut_29, ↓tX8_partOut_30, ↓tX8_partOut_32, ↓tX8_partOut_33, ↓tX8_partOut_34, ↓tX8_partOut_35, ↓tX8_partOut_36, ↓tX8_partOut_39, ↓tX8_partOut_42, ↓tX8_partOut_45, ↓tX8_partOut_48, ↓tX8_partOut_49, ↓oAdd, ↓oCallS, ↓oGo, ↓oIf1eq, ↓oIf2ge, ↓oIf2le, ↓oIl, ↓oInc, ↓oIret, ↓oIs, ↓oK, ↓oLl, ↓oMul, ↓oSub, q_ls2_d, q_ld1_n, q_ld1_c, q_cat_l, q_set_s, q_set_n, z_clamp, z_ltI, z_leI, z_eqI, z_lt0, z_ge0, z_eq0I, z_gt0I, z_le0I, z_m1lt, z_m1ge, z_m1eq, z_m1eq', z_inT, z_add, z_sub, z_mul, z_div, z_rem, n_ltT, n_ltF, n_leT, n_leF, n_eqT, n_eqF, z_11, q_tl_i, q_tl_n, q_ap_n, q_ap_c]
          refine c8_has hX1 (by omega) (by omega) (fun c => ?_) (fun c => ?_)
          · have h' := hQ (some (f, x)) ⟨by omega, hbit.mp c, hx2, hno⟩ (fun f' e' h => by cases h; omega)
            have h' : Q (some (.int (nI (10 * f + x - f)))) M := h'
            refine q_X.run sX8_partOut [] 30 ?_
            simp (maxSteps := 10000000) (disch := omega) only [↓q_run_s, q_stop_n, q_stop_c, q_lg_c, q_ls_d, q_ld_n, q_ld_c, q_cat_i, q_cat_r, q_cat_n, q_wd_n, q_wd_c, q_bx_1, q_bx_2, q_bx_3, q_bx_4, q_bx_5, q_bx_6, q_bx_7, q_bx_8, q_pop_0, q_pop_s, ↓reduceIte, Nat.reduceEqDiff, reduceCtorEq, eq_self, Bool.false_eq_true, Nat.reduceAdd, Nat.reduceSub, Nat.reduceMul, Nat.reduceLeDiff, Nat.reduceLT, Nat.le_refl, Nat.zero_le, true_and, and_true, false_and, and_false, or_false, false_or, true_or, or_true, not_true_eq_false, not_false_eq_true, if_true, if_false, List.getElem?_cons_zero, List.getElem?_cons_succ, List.set_cons_zero, List.set_cons_succ, List.length_cons, List.length_nil, ↓tX8_partOut_0, ↓tX8_partOut_1, ↓tX8_partOut_2, ↓tX8_partOut_3, ↓tX8_partOut_4, ↓tX8_partOut_7, ↓tX8_partOut_8, ↓tX8_partOut_10, ↓tX8_partOut_12, ↓tX8_partOut_13, ↓tX8_partOut_16, ↓tX8_partOut_17, ↓tX8_partOut_18, ↓tX8_partOut_20, ↓tX8_partOut_23, ↓tX8_partOut_26, ↓tX8_partOut_28, ↓tX8_partOut_29, ↓tX8_partOut_30, ↓tX8_partOut_32, ↓tX8_partOut_33, ↓tX8_partOut_34, ↓tX8_partOut_35, ↓tX8_partOut_36, ↓tX8_partOut_39, ↓tX8_partOut_42, ↓tX8_partOut_45, ↓tX8_partOut_48, ↓tX8_partOut_49, ↓oAdd, ↓oCallS, ↓oGo, ↓oIf1eq, ↓oIf2ge, ↓oIf2le, ↓oIl, ↓oInc, ↓oIret, ↓oIs, ↓oK, ↓oLl, ↓oMul, ↓oSub, q_ls2_d, q_ld1_n, q_ld1_c, q_cat_l, q_set_s, q_set_n, z_clamp, z_ltI, z_leI, z_eqI, z_lt0, z_ge0, z_eq0I, z_gt0I, z_le0I, z_m1lt, z_m1ge, z_m1eq, z_m1eq', z_inT, z_add, z_sub, z_mul, z_div, z_rem, n_ltT, n_ltF, n_leT, n_leF, n_eqT, n_eqF, z_11, q_tl_i, q_tl_n, q_ap_n, q_ap_c]
            exact h'
          · have h' := ih2 (x - 1) (by omega) (by omega) (fun e' he' => by
              rcases Nat.lt_or_eq_of_le (show x ≤ e' by omega) with h | h
              · exact hx2 e' h
              · exact fun h2 => c (h ▸ hbit.mpr (h ▸ h2)))
            refine q_X.run sX8_partOut [10] 30 ?_
            simp (maxSteps := 10000000) (disch := omega) only [↓q_run_s, q_stop_n, q_stop_c, q_lg_c, q_ls_d, q_ld_n, q_ld_c, q_cat_i, q_cat_r, q_cat_n, q_wd_n, q_wd_c, q_bx_1, q_bx_2, q_bx_3, q_bx_4, q_bx_5, q_bx_6, q_bx_7, q_bx_8, q_pop_0, q_pop_s, ↓reduceIte, Nat.reduceEqDiff, reduceCtorEq, eq_self, Bool.false_eq_true, Nat.reduceAdd, Nat.reduceSub, Nat.reduceMul, Nat.reduceLeDiff, Nat.reduceLT, Nat.le_refl, Nat.zero_le, true_and, and_true, false_and, and_false, or_false, false_or, true_or, or_true, not_true_eq_false, not_false_eq_true, if_true, if_false, List.getElem?_cons_zero, List.getElem?_cons_succ, List.set_cons_zero, List.set_cons_succ, List.length_cons, List.length_nil, ↓tX8_partOut_0, ↓tX8_partOut_1, ↓tX8_partOut_2, ↓tX8_partOut_3, ↓tX8_partOut_4, ↓tX8_partOut_7, ↓tX8_partOut_8, ↓tX8_partOut_10, ↓tX8_partOut_12, ↓tX8_partOut_13, ↓tX8_partOut_16, ↓tX8_partOut_17, ↓tX8_partOut_18, ↓tX8_partOut_20, ↓tX8_partOut_23, ↓tX8_partOut_26, ↓tX8_partOut_28, ↓tX8_partOut_29, ↓tX8_partOut_30, ↓tX8_partOut_32, ↓tX8_partOut_33, ↓tX8_partOut_34, ↓tX8_partOut_35, ↓tX8_partOut_36, ↓tX8_partOut_39, ↓tX8_partOut_42, ↓tX8_partOut_45, ↓tX8_partOut_48, ↓tX8_partOut_49, ↓oAdd, ↓oCallS, ↓oGo, ↓oIf1eq, ↓oIf2ge, ↓oIf2le, ↓oIl, ↓oInc, ↓oIret, ↓oIs, ↓oK, ↓oLl, ↓oMul, ↓oSub, q_ls2_d, q_ld1_n, q_ld1_c, q_cat_l, q_set_s, q_set_n, z_clamp, z_ltI, z_leI, z_eqI, z_lt0, z_ge0, z_eq0I, z_gt0I, z_le0I, z_m1lt, z_m1ge, z_m1eq, z_m1eq', z_inT, z_add, z_sub, z_mul, z_div, z_rem, n_ltT, n_ltF, n_leT, n_leF, n_eqT, n_eqF, z_11, q_tl_i, q_tl_n, q_ap_n, q_ap_c, z_addm1]
            refine q_X.lv2 _ ?_ h'
            exact ⟨rfl, rfl, rfl, rfl, trivial⟩
      have h' := inner (n - f) n (by omega) (Nat.le_refl _) (fun e' h1 h2 => by
        have := hS f e' h2
        omega)
      refine q_X.run sX8_partOut [10] 20 ?_
      simp (maxSteps := 10000000) (disch := omega) only [↓q_run_s, q_stop_n, q_stop_c, q_lg_c, q_ls_d, q_ld_n, q_ld_c, q_cat_i, q_cat_r, q_cat_n, q_wd_n, q_wd_c, q_bx_1, q_bx_2, q_bx_3, q_bx_4, q_bx_5, q_bx_6, q_bx_7, q_bx_8, q_pop_0, q_pop_s, ↓reduceIte, Nat.reduceEqDiff, reduceCtorEq, eq_self, Bool.false_eq_true, Nat.reduceAdd, Nat.reduceSub, Nat.reduceMul, Nat.reduceLeDiff, Nat.reduceLT, Nat.le_refl, Nat.zero_le, true_and, and_true, false_and, and_false, or_false, false_or, true_or, or_true, not_true_eq_false, not_false_eq_true, if_true, if_false, List.getElem?_cons_zero, List.getElem?_cons_succ, List.set_cons_zero, List.set_cons_succ, List.length_cons, List.length_nil, ↓tX8_partOut_0, ↓tX8_partOut_1, ↓tX8_partOut_2, ↓tX8_partOut_3, ↓tX8_partOut_4, ↓tX8_partOut_7, ↓tX8_partOut_8, ↓tX8_partOut_10, ↓tX8_partOut_12, ↓tX8_partOut_13, ↓tX8_partOut_16, ↓tX8_partOut_17, ↓tX8_partOut_18, ↓tX8_partOut_20, ↓tX8_partOut_23, ↓tX8_partOut_26, ↓tX8_partOut_28, ↓tX8_partOut_29, ↓tX8_partOut_30, ↓tX8_partOut_32, ↓tX8_partOut_33, ↓tX8_partOut_34, ↓tX8_partOut_35, ↓tX8_partOut_36, ↓tX8_partOut_39, ↓tX8_partOut_42, ↓tX8_partOut_45, ↓tX8_partOut_48, ↓tX8_partOut_49, ↓oAdd, ↓oCallS, ↓oGo, ↓oIf1eq, ↓oIf2ge, ↓oIf2le, ↓oIl, ↓oInc, ↓oIret, ↓oIs, ↓oK, ↓oLl, ↓oMul, ↓oSub, q_ls2_d, q_ld1_n, q_ld1_c, q_cat_l, q_set_s, q_set_n, z_clamp, z_ltI, z_leI, z_eqI, z_lt0, z_ge0, z_eq0I, z_gt0I, z_le0I, z_m1lt, z_m1ge, z_m1eq, z_m1eq', z_inT, z_add, z_sub, z_mul, z_div, z_rem, n_ltT, n_ltF, n_leT, n_leF, n_eqT, n_eqF, z_11, q_tl_i, q_tl_n, q_ap_n, q_ap_c]
      refine q_X.lv2 _ ?_ h'
      exact ⟨rfl, rfl, rfl, rfl, trivial⟩
  refine q_Call.of [(0, .long (nL X)), (2, .int (nI n))] rfl ?_
  refine q_X.run sX8_partOut [2] 20 ?_
  simp (maxSteps := 10000000) (disch := omega) only [↓q_run_s, q_stop_n, q_stop_c, q_lg_c, q_ls_d, q_ld_n, q_ld_c, q_cat_i, q_cat_r, q_cat_n, q_wd_n, q_wd_c, q_bx_1, q_bx_2, q_bx_3, q_bx_4, q_bx_5, q_bx_6, q_bx_7, q_bx_8, q_pop_0, q_pop_s, ↓reduceIte, Nat.reduceEqDiff, reduceCtorEq, eq_self, Bool.false_eq_true, Nat.reduceAdd, Nat.reduceSub, Nat.reduceMul, Nat.reduceLeDiff, Nat.reduceLT, Nat.le_refl, Nat.zero_le, true_and, and_true, false_and, and_false, or_false, false_or, true_or, or_true, not_true_eq_false, not_false_eq_true, if_true, if_false, List.getElem?_cons_zero, List.getElem?_cons_succ, List.set_cons_zero, List.set_cons_succ, List.length_cons, List.length_nil, ↓tX8_partOut_0, ↓tX8_partOut_1, ↓tX8_partOut_2, ↓tX8_partOut_3, ↓tX8_partOut_4, ↓tX8_partOut_7, ↓tX8_partOut_8, ↓tX8_partOut_10, ↓tX8_partOut_12, ↓tX8_partOut_13, ↓tX8_partOut_16, ↓tX8_partOut_17, ↓tX8_partOut_18, ↓tX8_partOut_20, ↓tX8_partOut_23, ↓tX8_partOut_26, ↓tX8_partOut_28, ↓tX8_partOut_29, ↓tX8_partOut_30, ↓tX8_partOut_32, ↓tX8_partOut_33, ↓tX8_partOut_34, ↓tX8_partOut_35, ↓tX8_partOut_36, ↓tX8_partOut_39, ↓tX8_partOut_42, ↓tX8_partOut_45, ↓tX8_partOut_48, ↓tX8_partOut_49, ↓oAdd, ↓oCallS, ↓oGo, ↓oIf1eq, ↓oIf2ge, ↓oIf2le, ↓oIl, ↓oInc, ↓oIret, ↓oIs, ↓oK, ↓oLl, ↓oMul, ↓oSub, q_ls2_d, q_ld1_n, q_ld1_c, q_cat_l, q_set_s, q_set_n, z_clamp, z_ltI, z_leI, z_eqI, z_lt0, z_ge0, z_eq0I, z_gt0I, z_le0I, z_m1lt, z_m1ge, z_m1eq, z_m1eq', z_inT, z_add, z_sub, z_mul, z_div, z_rem, n_ltT, n_ltF, n_leT, n_leF, n_eqT, n_eqF, z_11, q_tl_i, q_tl_n, q_ap_n, q_ap_c]
  exact loop n 0 (by omega) (fun f' h => absurd h (by omega)) _ rfl rfl rfl
end
