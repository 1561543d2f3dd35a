/-! the class: what may be asked and shown -/
theorem q_neg_lt {v : Int32} (h : ¬ 0 ≤ v) {n : Nat} (hn : n < 2147483648) : v < nI n := by
  have g1 := Int32.not_le.mp h
  have g2 : (0 : Int32) ≤ nI n := nI_pos' hn
  rw [Int32.lt_iff_toInt_lt] at g1 ⊢
  rw [Int32.le_iff_toInt_le] at g2
  omega
theorem q_neg_le {v : Int32} (h : ¬ 0 ≤ v) : v ≤ 0 := Int32.le_of_lt (Int32.not_le.mp h)
theorem q_neg_ne {v : Int32} (h : ¬ 0 ≤ v) {n : Nat} (hn : n < 2147483648) : v ≠ nI n := fun e => h (e ▸ nI_pos' hn)
section
variable {G : qC} {L : Launch} {d : Nat} {Q : Option Value → qM → Prop} {M : qM}
set_option maxRecDepth 100000 in
set_option maxHeartbeats 8000000 in
theorem c11_isKinds {u : Int32} (hT : ∀ K, u = nI K → 1 ≤ K → K < 64 → Q (some (.int (nI 1))) M) (hF : (∀ K, u = nI K → 1 ≤ K → ¬ K < 64) → Q (some (.int (nI 0))) M) : q_Call G L d mX11_isKinds 0 0 [.int u] M Q := by
  refine q_Call.of [(0, .int u)] rfl ?_
  by_cases hu : 0 ≤ u
  · obtain ⟨K, hK, rfl⟩ := q_nn hu
    by_cases c1 : K = 0
    · have h' := hF fun K' e h1 h2 => by have := (nI_eq hK (by omega)).mp e; omega
      subst c1
      refine q_X.run sX11_isKinds [] 20 ?_
      simp (maxSteps := 10000000) (disch := omega) only [↓q_run_s, q_stop_n, q_stop_c, q_lg_c, q_ls_d, q_ld_n, q_ld_c, q_cat_i, q_cat_r, q_cat_n, q_wd_n, q_wd_c, q_bx_1, q_bx_2, q_bx_3, q_bx_4, q_bx_5, q_bx_6, q_bx_7, q_bx_8, q_pop_0, q_pop_s, ↓reduceIte, Nat.reduceEqDiff, reduceCtorEq, eq_self, Bool.false_eq_true, Nat.reduceAdd, Nat.reduceSub, Nat.reduceMul, Nat.reduceLeDiff, Nat.reduceLT, Nat.le_refl, Nat.zero_le, true_and, and_true, false_and, and_false, or_false, false_or, true_or, or_true, not_true_eq_false, not_false_eq_true, if_true, if_false, List.getElem?_cons_zero, List.getElem?_cons_succ, List.set_cons_zero, List.set_cons_succ, List.length_cons, List.length_nil, ↓tX11_isKinds_0, ↓tX11_isKinds_1, ↓tX11_isKinds_4, ↓tX11_isKinds_5, ↓tX11_isKinds_7, ↓tX11_isKinds_10, ↓tX11_isKinds_11, ↓tX11_isKinds_14, ↓tX11_isKinds_15, ↓oGo, ↓oIf1le, ↓oIf2ge, ↓oIl, ↓oK, ↓oZret, q_set_s, q_set_n, z_clamp, z_ltI, z_leI, z_eqI, z_lt0, z_ge0, z_eq0I, z_gt0I, z_le0I, z_m1lt, z_m1ge, z_m1eq, z_m1eq', z_inT, z_add, z_sub, z_mul, z_div, z_rem, n_ltT, n_ltF, n_leT, n_leF, n_eqT, n_eqF, z_11, q_tl_i, q_tl_n, q_ap_n, q_ap_c]
      exact h'
    · by_cases c2 : K < 64
      · have h' := hT K rfl (by omega) c2
        refine q_X.run sX11_isKinds [] 20 ?_
        simp (maxSteps := 10000000) (disch := omega) only [↓q_run_s, q_stop_n, q_stop_c, q_lg_c, q_ls_d, q_ld_n, q_ld_c, q_cat_i, q_cat_r, q_cat_n, q_wd_n, q_wd_c, q_bx_1, q_bx_2, q_bx_3, q_bx_4, q_bx_5, q_bx_6, q_bx_7, q_bx_8, q_pop_0, q_pop_s, ↓reduceIte, Nat.reduceEqDiff, reduceCtorEq, eq_self, Bool.false_eq_true, Nat.reduceAdd, Nat.reduceSub, Nat.reduceMul, Nat.reduceLeDiff, Nat.reduceLT, Nat.le_refl, Nat.zero_le, true_and, and_true, false_and, and_false, or_false, false_or, true_or, or_true, not_true_eq_false, not_false_eq_true, if_true, if_false, List.getElem?_cons_zero, List.getElem?_cons_succ, List.set_cons_zero, List.set_cons_succ, List.length_cons, List.length_nil, ↓tX11_isKinds_0, ↓tX11_isKinds_1, ↓tX11_isKinds_4, ↓tX11_isKinds_5, ↓tX11_isKinds_7, ↓tX11_isKinds_10, ↓tX11_isKinds_11, ↓tX11_isKinds_14, ↓tX11_isKinds_15, ↓oGo, ↓oIf1le, ↓oIf2ge, ↓oIl, ↓oK, ↓oZret, q_set_s, q_set_n, z_clamp, z_ltI, z_leI, z_eqI, z_lt0, z_ge0, z_eq0I, z_gt0I, z_le0I, z_m1lt, z_m1ge, z_m1eq, z_m1eq', z_inT, z_add, z_sub, z_mul, z_div, z_rem, n_ltT, n_ltF, n_leT, n_leF, n_eqT, n_eqF, z_11, q_tl_i, q_tl_n, q_ap_n, q_ap_c]
        exact h'
      · have h' := hF fun K' e h1 h2 => by have := (nI_eq hK (by omega)).mp e; omega
        refine q_X.run sX11_isKinds [] 20 ?_
        simp (maxSteps := 10000000) (disch := omega) only [↓q_run_s, q_stop_n, q_stop_c, q_lg_c, q_ls_d, q_ld_n, q_ld_c, q_cat_i, q_cat_r, q_cat_n, q_wd_n, q_wd_c, q_bx_1, q_bx_2, q_bx_3, q_bx_4, q_bx_5, q_bx_6, q_bx_7, q_bx_8, q_pop_0, q_pop_s, ↓reduceIte, Nat.reduceEqDiff, reduceCtorEq, eq_self, Bool.false_eq_true, Nat.reduceAdd, Nat.reduceSub, Nat.reduceMul, Nat.reduceLeDiff, Nat.reduceLT, Nat.le_refl, Nat.zero_le, true_and, and_true, false_and, and_false, or_false, false_or, true_or, or_true, not_true_eq_false, not_false_eq_true, if_true, if_false, List.getElem?_cons_zero, List.getElem?_cons_succ, List.set_cons_zero, List.set_cons_succ, List.length_cons, List.length_nil, ↓tX11_isKinds_0, ↓tX11_isKinds_1, ↓tX11_isKinds_4, ↓tX11_isKinds_5, ↓tX11_isKinds_7, ↓tX11_isKinds_10, ↓tX11_isKinds_11, ↓tX11_isKinds_14, ↓tX11_isKinds_15, ↓oGo, ↓oIf1le, ↓oIf2ge, ↓oIl, ↓oK, ↓oZret, q_set_s, q_set_n, z_clamp, z_ltI, z_leI, z_eqI, z_lt0, z_ge0, z_eq0I, z_gt0I, z_le0I, z_m1lt, z_m1ge, z_m1eq, z_m1eq', z_inT, z_add, z_sub, z_mul, z_div, z_rem, n_ltT, n_ltF, n_leT, n_leF, n_eqT, n_eqF, z_11, q_tl_i, q_tl_n, q_ap_n, q_ap_c]
        exact h'
  · have h' := hF fun K' e h1 h2 => q_neg_ne hu (show K' < 2147483648 by omega) e
    have hle := q_neg_le hu
    have hle' : u ≤ nI 0 := hle
    refine q_X.run sX11_isKinds [] 20 ?_
    simp (maxSteps := 10000000) (disch := omega) only [↓q_run_s, q_stop_n, q_stop_c, q_lg_c, q_ls_d, q_ld_n, q_ld_c, q_cat_i, q_cat_r, q_cat_n, q_wd_n, q_wd_c, q_bx_1, q_bx_2, q_bx_3, q_bx_4, q_bx_5, q_bx_6, q_bx_7, q_bx_8, q_pop_0, q_pop_s, ↓reduceIte, Nat.reduceEqDiff, reduceCtorEq, eq_self, Bool.false_eq_true, Nat.reduceAdd, Nat.reduceSub, Nat.reduceMul, Nat.reduceLeDiff, Nat.reduceLT, Nat.le_refl, Nat.zero_le, true_and, and_true, false_and, and_false, or_false, false_or, true_or, or_true, not_true_eq_false, not_false_eq_true, if_true, if_false, List.getElem?_cons_zero, List.getElem?_cons_succ, List.set_cons_zero, List.set_cons_succ, List.length_cons, List.length_nil, ↓tX11_isKinds_0, ↓tX11_isKinds_1, ↓tX11_isKinds_4, ↓tX11_isKinds_5, ↓tX11_isKinds_7, ↓tX11_isKinds_10, ↓tX11_isKinds_11, ↓tX11_isKinds_14, ↓tX11_isKinds_15, ↓oGo, ↓oIf1le, ↓oIf2ge, ↓oIl, ↓oK, ↓oZret, q_set_s, q_set_n, z_clamp, z_ltI, z_leI, z_eqI, z_lt0, z_ge0, z_eq0I, z_gt0I, z_le0I, z_m1lt, z_m1ge, z_m1eq, z_m1eq', z_inT, z_add, z_sub, z_mul, z_div, z_rem, n_ltT, n_ltF, n_leT, n_leF, n_eqT, n_eqF, z_11, q_tl_i, q_tl_n, q_ap_n, q_ap_c, hle, hle']
    exact h'
set_option maxRecDepth 100000 in
set_option maxHeartbeats 8000000 in
theorem c11_isCost {u : Int32} (hT : ∀ c, u = nI c → 2 ≤ c → c ≤ 10 → Q (some (.int (nI 1))) M) (hF : (∀ c, u = nI c → 2 ≤ c → ¬ c ≤ 10) → Q (some (.int (nI 0))) M) : q_Call G L d mX11_isCost 0 0 [.int u] M Q := by
  refine q_Call.of [(0, .int u)] rfl ?_
  by_cases hu : 0 ≤ u
  · obtain ⟨K, hK, rfl⟩ := q_nn hu
    by_cases c1 : K < 2
    · have h' := hF fun K' e h1 h2 => by have := (nI_eq hK (by omega)).mp e; omega
      refine q_X.run sX11_isCost [] 20 ?_
      simp (maxSteps := 10000000) (disch := omega) only [↓q_run_s, q_stop_n, q_stop_c, q_lg_c, q_ls_d, q_ld_n, q_ld_c, q_cat_i, q_cat_r, q_cat_n, q_wd_n, q_wd_c, q_bx_1, q_bx_2, q_bx_3, q_bx_4, q_bx_5, q_bx_6, q_bx_7, q_bx_8, q_pop_0, q_pop_s, ↓reduceIte, Nat.reduceEqDiff, reduceCtorEq, eq_self, Bool.false_eq_true, Nat.reduceAdd, Nat.reduceSub, Nat.reduceMul, Nat.reduceLeDiff, Nat.reduceLT, Nat.le_refl, Nat.zero_le, true_and, and_true, false_and, and_false, or_false, false_or, true_or, or_true, not_true_eq_false, not_false_eq_true, if_true, if_false, List.getElem?_cons_zero, List.getElem?_cons_succ, List.set_cons_zero, List.set_cons_succ, List.length_cons, List.length_nil, ↓tX11_isCost_0, ↓tX11_isCost_1, ↓tX11_isCost_2, ↓tX11_isCost_5, ↓tX11_isCost_6, ↓tX11_isCost_8, ↓tX11_isCost_11, ↓tX11_isCost_12, ↓tX11_isCost_15, ↓tX11_isCost_16, ↓oGo, ↓oIf2gt, ↓oIf2lt, ↓oIl, ↓oK, ↓oZret, q_set_s, q_set_n, z_clamp, z_ltI, z_leI, z_eqI, z_lt0, z_ge0, z_eq0I, z_gt0I, z_le0I, z_m1lt, z_m1ge, z_m1eq, z_m1eq', z_inT, z_add, z_sub, z_mul, z_div, z_rem, n_ltT, n_ltF, n_leT, n_leF, n_eqT, n_eqF, z_11, q_tl_i, q_tl_n, q_ap_n, q_ap_c]
      exact h'
    · by_cases c2 : K ≤ 10
      · have h' := hT K rfl (by omega) c2
        refine q_X.run sX11_isCost [] 20 ?_
        simp (maxSteps := 10000000) (disch := omega) only [↓q_run_s, q_stop_n, q_stop_c, q_lg_c, q_ls_d, q_ld_n, q_ld_c, q_cat_i, q_cat_r, q_cat_n, q_wd_n, q_wd_c, q_bx_1, q_bx_2, q_bx_3, q_bx_4, q_bx_5, q_bx_6, q_bx_7, q_bx_8, q_pop_0, q_pop_s, ↓reduceIte, Nat.reduceEqDiff, reduceCtorEq, eq_self, Bool.false_eq_true, Nat.reduceAdd, Nat.reduceSub, Nat.reduceMul, Nat.reduceLeDiff, Nat.reduceLT, Nat.le_refl, Nat.zero_le, true_and, and_true, false_and, and_false, or_false, false_or, true_or, or_true, not_true_eq_false, not_false_eq_true, if_true, if_false, List.getElem?_cons_zero, List.getElem?_cons_succ, List.set_cons_zero, List.set_cons_succ, List.length_cons, List.length_nil, ↓tX11_isCost_0, ↓tX11_isCost_1, ↓tX11_isCost_2, ↓tX11_isCost_5, ↓tX11_isCost_6, ↓tX11_isCost_8, ↓tX11_isCost_11, ↓tX11_isCost_12, ↓tX11_isCost_15, ↓tX11_isCost_16, ↓oGo, ↓oIf2gt, ↓oIf2lt, ↓oIl, ↓oK, ↓oZret, q_set_s, q_set_n, z_clamp, z_ltI, z_leI, z_eqI, z_lt0, z_ge0, z_eq0I, z_gt0I, z_le0I, z_m1lt, z_m1ge, z_m1eq, z_m1eq', z_inT, z_add, z_sub, z_mul, z_div, z_rem, n_ltT, n_ltF, n_leT, n_leF, n_eqT, n_eqF, z_11, q_tl_i, q_tl_n, q_ap_n, q_ap_c]
        exact h'
      · have h' := hF fun K' e h1 h2 => by have := (nI_eq hK (by omega)).mp e; omega
        refine q_X.run sX11_isCost [] 20 ?_
        simp (maxSteps := 10000000) (disch := omega) only [↓q_run_s, q_stop_n, q_stop_c, q_lg_c, q_ls_d, q_ld_n, q_ld_c, q_cat_i, q_cat_r, q_cat_n, q_wd_n, q_wd_c, q_bx_1, q_bx_2, q_bx_3, q_bx_4, q_bx_5, q_bx_6, q_bx_7, q_bx_8, q_pop_0, q_pop_s, ↓reduceIte, Nat.reduceEqDiff, reduceCtorEq, eq_self, Bool.false_eq_true, Nat.reduceAdd, Nat.reduceSub, Nat.reduceMul, Nat.reduceLeDiff, Nat.reduceLT, Nat.le_refl, Nat.zero_le, true_and, and_true, false_and, and_false, or_false, false_or, true_or, or_true, not_true_eq_false, not_false_eq_true, if_true, if_false, List.getElem?_cons_zero, List.getElem?_cons_succ, List.set_cons_zero, List.set_cons_succ, List.length_cons, List.length_nil, ↓tX11_isCost_0, ↓tX11_isCost_1, ↓tX11_isCost_2, ↓tX11_isCost_5, ↓tX11_isCost_6, ↓tX11_isCost_8, ↓tX11_isCost_11, ↓tX11_isCost_12, ↓tX11_isCost_15, ↓tX11_isCost_16, ↓oGo, ↓oIf2gt, ↓oIf2lt, ↓oIl, ↓oK, ↓oZret, q_set_s, q_set_n, z_clamp, z_ltI, z_leI, z_eqI, z_lt0, z_ge0, z_eq0I, z_gt0I, z_le0I, z_m1lt, z_m1ge, z_m1eq, z_m1eq', z_inT, z_add, z_sub, z_mul, z_div, z_rem, n_ltT, n_ltF, n_leT, n_leF, n_eqT, n_eqF, z_11, q_tl_i, q_tl_n, q_ap_n, q_ap_c]
        exact h'
  · have h' := hF fun K' e h1 h2 => q_neg_ne hu (show K' < 2147483648 by omega) e
    have hlt : u < nI 2 := q_neg_lt hu (by decide)
    refine q_X.run sX11_isCost [] 20 ?_
    simp (maxSteps := 10000000) (disch := omega) only [↓q_run_s, q_stop_n, q_stop_c, q_lg_c, q_ls_d, q_ld_n, q_ld_c, q_cat_i, q_cat_r, q_cat_n, q_wd_n, q_wd_c, q_bx_1, q_bx_2, q_bx_3, q_bx_4, q_bx_5, q_bx_6, q_bx_7, q_bx_8, q_pop_0, q_pop_s, ↓reduceIte, Nat.reduceEqDiff, reduceCtorEq, eq_self, Bool.false_eq_true, Nat.reduceAdd, Nat.reduceSub, Nat.reduceMul, Nat.reduceLeDiff, Nat.reduceLT, Nat.le_refl, Nat.zero_le, true_and, and_true, false_and, and_false, or_false, false_or, true_or, or_true, not_true_eq_false, not_false_eq_true, if_true, if_false, List.getElem?_cons_zero, List.getElem?_cons_succ, List.set_cons_zero, List.set_cons_succ, List.length_cons, List.length_nil, ↓tX11_isCost_0, ↓tX11_isCost_1, ↓tX11_isCost_2, ↓tX11_isCost_5, ↓tX11_isCost_6, ↓tX11_isCost_8, ↓tX11_isCost_11, ↓tX11_isCost_12, ↓tX11_isCost_15, ↓tX11_isCost_16, ↓oGo, ↓oIf2gt, ↓oIf2lt, ↓oIl, ↓oK, ↓oZret, q_set_s, q_set_n, z_clamp, z_ltI, z_leI, z_eqI, z_lt0, z_ge0, z_eq0I, z_gt0I, z_le0I, z_m1lt, z_m1ge, z_m1eq, z_m1eq', z_inT, z_add, z_sub, z_mul, z_div, z_rem, n_ltT, n_ltF, n_leT, n_leF, n_eqT, n_eqF, z_11, q_tl_i, q_tl_n, q_ap_n, q_ap_c, hlt]
    exact h'
end
