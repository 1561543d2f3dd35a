/-! the class's Meanings: words joined -/
def z_hold (f : Nat → Int32) (W : Nat → Nat) : Prop := ∀ j, j < 5 → f j = nI (W j)
theorem z_hold_op {f : Nat → Int32} {W : Nat → Nat} {i V : Nat} (h : z_hold f W) : z_hold (upd f i (nI (W i ||| V))) (fun j => if j = i then W i ||| V else W j) := fun j hj => by
  show upd f i (nI (W i ||| V)) j = nI (if j = i then W i ||| V else W j)
  by_cases c : j = i
  · rw [if_pos c, c, q_ud_s]
  · rw [if_neg c, q_ud_n _ _ c]; exact h j hj
theorem z_tb0 (a : Nat) : nI a &&& nI 1 = nI (z_tn a 0) := by
  rw [z_and, Nat.and_one_is_mod, ← z_tn_eq, Nat.pow_zero, Nat.div_one]
section
variable {G : qC} {L : Launch} {d : Nat} {Q : Option Value → qM → Prop} {M0 : qM} {i : Nat} {s : Nat → Int32} {A : Nat → Nat → Int32}
set_option maxRecDepth 100000 in
set_option maxHeartbeats 8000000 in
theorem c3_wordOf {m j : Nat} (hm : m < 1284) (hj : j < 5) (hQ : Q (some (.int (A 0 (m * 5 + j)))) (q_me M0 i s A)) : q_Call G L d mX3_wordOf 0 0 [.ref i, .int (nI m), .int (nI j)] (q_me M0 i s A) Q := by
  refine q_Call.of [(0, .ref i), (1, .int (nI m)), (2, .int (nI j))] rfl ?_
  refine q_X.run sX3_wordOf [] 30 ?_
  simp (maxSteps := 10000000) (disch := omega) only [↓q_run_s, q_stop_n, q_stop_c, q_lg_c, q_ls_d, q_ld_n, q_ld_c, q_cat_i, q_cat_r, q_cat_n, q_wd_n, q_wd_c, q_bx_1, q_bx_2, q_bx_3, q_bx_4, q_bx_5, q_bx_6, q_bx_7, q_bx_8, q_pop_0, q_pop_s, ↓reduceIte, Nat.reduceEqDiff, reduceCtorEq, eq_self, Bool.false_eq_true, Nat.reduceAdd, Nat.reduceSub, Nat.reduceMul, Nat.reduceLeDiff, Nat.reduceLT, Nat.le_refl, Nat.zero_le, true_and, and_true, false_and, and_false, or_false, false_or, true_or, or_true, not_true_eq_false, not_false_eq_true, if_true, if_false, List.getElem?_cons_zero, List.getElem?_cons_succ, List.set_cons_zero, List.set_cons_succ, List.length_cons, List.length_nil, ↓tX3_wordOf_0, ↓tX3_wordOf_1, ↓tX3_wordOf_2, ↓tX3_wordOf_3, ↓tX3_wordOf_4, ↓tX3_wordOf_5, ↓tX3_wordOf_6, ↓tX3_wordOf_7, ↓tX3_wordOf_10, ↓tX3_wordOf_11, ↓tX3_wordOf_12, ↓tX3_wordOf_15, ↓tX3_wordOf_16, ↓tX3_wordOf_19, ↓tX3_wordOf_20, ↓tX3_wordOf_23, ↓tX3_wordOf_24, ↓tX3_wordOf_25, ↓tX3_wordOf_28, ↓tX3_wordOf_29, ↓oAdd, ↓oAl, ↓oAlen, ↓oGet, ↓oGo, ↓oIald, ↓oIf1lt, ↓oIf2ge, ↓oIl, ↓oIret, ↓oIs, ↓oK, ↓oMul, q_set_s, q_set_n, me_0, meO_len, q_up_a, meO_0, me_a0, z_clamp, z_ltI, z_leI, z_eqI, z_lt0, z_ge0, z_eq0I, z_gt0I, z_le0I, z_m1lt, z_m1ge, z_m1eq, z_m1eq', z_inT, z_add, z_sub, z_mul, z_div, z_rem, n_ltT, n_ltF, n_leT, n_leF, n_eqT, n_eqF, z_11, q_tl_i, q_tl_n, q_ap_n, q_ap_c]
  exact hQ
set_option maxRecDepth 100000 in
set_option maxHeartbeats 8000000 in
theorem c3_load2 {m : Nat} (hm : m < 1284) (hd : 1 ≤ d) (hQ : ∀ g, (∀ j, j < 5 → g j = A 0 (m * 5 + j)) → Q none (q_me M0 i s (va_up A 2 g))) : q_Call G L d mX3_load 0 0 [.ref i, .int (nI m), .ref (i + 3)] (q_me M0 i s A) Q := by
  have loop : ∀ (g j : Nat) (f : Nat → Int32), g + j = 5 → (∀ q, q < j → f q = A 0 (m * 5 + q)) → q_X G L d mX3_load 0 0 Q 2 [(0, .ref i), (1, .int (nI m)), (2, .ref (i + 3)), (3, .int (nI j))] [] (q_me M0 i s (va_up A 2 f)) 0 0 := by
    intro g
    induction g with
    | zero =>
      intro j f hj hf
      have e : j = 5 := by omega
      subst e
      have h' := hQ f hf
      refine q_X.run sX3_load [] 20 ?_
      simp (maxSteps := 10000000) (disch := omega) only [↓q_run_s, q_stop_n, q_stop_c, q_lg_c, q_ls_d, q_ld_n, q_ld_c, q_cat_i, q_cat_r, q_cat_n, q_wd_n, q_wd_c, q_bx_1, q_bx_2, q_bx_3, q_bx_4, q_bx_5, q_bx_6, q_bx_7, q_bx_8, q_pop_0, q_pop_s, ↓reduceIte, Nat.reduceEqDiff, reduceCtorEq, eq_self, Bool.false_eq_true, Nat.reduceAdd, Nat.reduceSub, Nat.reduceMul, Nat.reduceLeDiff, Nat.reduceLT, Nat.le_refl, Nat.zero_le, true_and, and_true, false_and, and_false, or_false, false_or, true_or, or_true, not_true_eq_false, not_false_eq_true, if_true, if_false, List.getElem?_cons_zero, List.getElem?_cons_succ, List.set_cons_zero, List.set_cons_succ, List.length_cons, List.length_nil, ↓tX3_load_0, ↓tX3_load_1, ↓tX3_load_2, ↓tX3_load_3, ↓tX3_load_4, ↓tX3_load_5, ↓tX3_load_8, ↓tX3_load_9, ↓tX3_load_10, ↓tX3_load_11, ↓tX3_load_12, ↓tX3_load_13, ↓tX3_load_16, ↓tX3_load_17, ↓tX3_load_20, ↓tX3_load_23, ↓oAl, ↓oAlen, ↓oCallV, ↓oGo, ↓oIast, ↓oIf2ge, ↓oIl, ↓oInc, ↓oIs, ↓oK, ↓oVret, q_set_s, q_set_n, me_0, meO_len, q_up_a, z_clamp, z_ltI, z_leI, z_eqI, z_lt0, z_ge0, z_eq0I, z_gt0I, z_le0I, z_m1lt, z_m1ge, z_m1eq, z_m1eq', z_inT, z_add, z_sub, z_mul, z_div, z_rem, n_ltT, n_ltF, n_leT, n_leF, n_eqT, n_eqF, z_11, q_tl_i, q_tl_n, q_ap_n, q_ap_c, me_a2]
      exact h'
    | succ g ih =>
      intro j f hj hf
      have h' := ih (j + 1) (upd f j (A 0 (m * 5 + j))) (by omega) (fun q hq => by
        rcases Nat.lt_or_eq_of_le (Nat.le_of_lt_succ hq) with g | g
        · rw [q_ud_n _ _ (by omega)]; exact hf q g
        · rw [g, q_ud_s])
      refine q_X.run sX3_load [] 20 ?_
      simp (maxSteps := 10000000) (disch := omega) only [↓q_run_s, q_stop_n, q_stop_c, q_lg_c, q_ls_d, q_ld_n, q_ld_c, q_cat_i, q_cat_r, q_cat_n, q_wd_n, q_wd_c, q_bx_1, q_bx_2, q_bx_3, q_bx_4, q_bx_5, q_bx_6, q_bx_7, q_bx_8, q_pop_0, q_pop_s, ↓reduceIte, Nat.reduceEqDiff, reduceCtorEq, eq_self, Bool.false_eq_true, Nat.reduceAdd, Nat.reduceSub, Nat.reduceMul, Nat.reduceLeDiff, Nat.reduceLT, Nat.le_refl, Nat.zero_le, true_and, and_true, false_and, and_false, or_false, false_or, true_or, or_true, not_true_eq_false, not_false_eq_true, if_true, if_false, List.getElem?_cons_zero, List.getElem?_cons_succ, List.set_cons_zero, List.set_cons_succ, List.length_cons, List.length_nil, ↓tX3_load_0, ↓tX3_load_1, ↓tX3_load_2, ↓tX3_load_3, ↓tX3_load_4, ↓tX3_load_5, ↓tX3_load_8, ↓tX3_load_9, ↓tX3_load_10, ↓tX3_load_11, ↓tX3_load_12, ↓tX3_load_13, ↓tX3_load_16, ↓tX3_load_17, ↓tX3_load_20, ↓tX3_load_23, ↓oAl, ↓oAlen, ↓oCallV, ↓oGo, ↓oIast, ↓oIf2ge, ↓oIl, ↓oInc, ↓oIs, ↓oK, ↓oVret, q_set_s, q_set_n, me_0, meO_len, q_up_a, z_clamp, z_ltI, z_leI, z_eqI, z_lt0, z_ge0, z_eq0I, z_gt0I, z_le0I, z_m1lt, z_m1ge, z_m1eq, z_m1eq', z_inT, z_add, z_sub, z_mul, z_div, z_rem, n_ltT, n_ltF, n_leT, n_leF, n_eqT, n_eqF, z_11, q_tl_i, q_tl_n, q_ap_n, q_ap_c, me_a2]
      refine c3_wordOf hm (by omega) ?_
      rw [va_up_ne _ _ (by decide)]
      refine q_X.run sX3_load [2] 20 ?_
      simp (maxSteps := 10000000) (disch := omega) only [↓q_run_s, q_stop_n, q_stop_c, q_lg_c, q_ls_d, q_ld_n, q_ld_c, q_cat_i, q_cat_r, q_cat_n, q_wd_n, q_wd_c, q_bx_1, q_bx_2, q_bx_3, q_bx_4, q_bx_5, q_bx_6, q_bx_7, q_bx_8, q_pop_0, q_pop_s, ↓reduceIte, Nat.reduceEqDiff, reduceCtorEq, eq_self, Bool.false_eq_true, Nat.reduceAdd, Nat.reduceSub, Nat.reduceMul, Nat.reduceLeDiff, Nat.reduceLT, Nat.le_refl, Nat.zero_le, true_and, and_true, false_and, and_false, or_false, false_or, true_or, or_true, not_true_eq_false, not_false_eq_true, if_true, if_false, List.getElem?_cons_zero, List.getElem?_cons_succ, List.set_cons_zero, List.set_cons_succ, List.length_cons, List.length_nil, ↓tX3_load_0, ↓tX3_load_1, ↓tX3_load_2, ↓tX3_load_3, ↓tX3_load_4, ↓tX3_load_5, ↓tX3_load_8, ↓tX3_load_9, ↓tX3_load_10, ↓tX3_load_11, ↓tX3_load_12, ↓tX3_load_13, ↓tX3_load_16, ↓tX3_load_17, ↓tX3_load_20, ↓tX3_load_23, ↓oAl, ↓oAlen, ↓oCallV, ↓oGo, ↓oIast, ↓oIf2ge, ↓oIl, ↓oInc, ↓oIs, ↓oK, ↓oVret, q_set_s, q_set_n, me_0, meO_len, q_up_a, z_clamp, z_ltI, z_leI, z_eqI, z_lt0, z_ge0, z_eq0I, z_gt0I, z_le0I, z_m1lt, z_m1ge, z_m1eq, z_m1eq', z_inT, z_add, z_sub, z_mul, z_div, z_rem, n_ltT, n_ltF, n_leT, n_leF, n_eqT, n_eqF, z_11, q_tl_i, q_tl_n, q_ap_n, q_ap_c, me_a2, mes_a2, va_up_self, q_upup]
      refine q_X.lv2 _ ?_ h'
      exact ⟨rfl, rfl, rfl, rfl, trivial⟩
  have h' := loop 5 0 (A 2) (by omega) (fun q hq => absurd hq (by omega))
  rw [q_upid] at h'
  refine q_Call.of [(0, .ref i), (1, .int (nI m)), (2, .ref (i + 3))] rfl ?_
  refine q_X.run sX3_load [2] 20 ?_
  simp (maxSteps := 10000000) (disch := omega) only [↓q_run_s, q_stop_n, q_stop_c, q_lg_c, q_ls_d, q_ld_n, q_ld_c, q_cat_i, q_cat_r, q_cat_n, q_wd_n, q_wd_c, q_bx_1, q_bx_2, q_bx_3, q_bx_4, q_bx_5, q_bx_6, q_bx_7, q_bx_8, q_pop_0, q_pop_s, ↓reduceIte, Nat.reduceEqDiff, reduceCtorEq, eq_self, Bool.false_eq_true, Nat.reduceAdd, Nat.reduceSub, Nat.reduceMul, Nat.reduceLeDiff, Nat.reduceLT, Nat.le_refl, Nat.zero_le, true_and, and_true, false_and, and_false, or_false, false_or, true_or, or_true, not_true_eq_false, not_false_eq_true, if_true, if_false, List.getElem?_cons_zero, List.getElem?_cons_succ, List.set_cons_zero, List.set_cons_succ, List.length_cons, List.length_nil, ↓tX3_load_0, ↓tX3_load_1, ↓tX3_load_2, ↓tX3_load_3, ↓tX3_load_4, ↓tX3_load_5, ↓tX3_load_8, ↓tX3_load_9, ↓tX3_load_10, ↓tX3_load_11, ↓tX3_load_12, ↓tX3_load_13, ↓tX3_load_16, ↓tX3_load_17, ↓tX3_load_20, ↓tX3_load_23, ↓oAl, ↓oAlen, ↓oCallV, ↓oGo, ↓oIast, ↓oIf2ge, ↓oIl, ↓oInc, ↓oIs, ↓oK, ↓oVret, q_set_s, q_set_n, me_0, meO_len, q_up_a, z_clamp, z_ltI, z_leI, z_eqI, z_lt0, z_ge0, z_eq0I, z_gt0I, z_le0I, z_m1lt, z_m1ge, z_m1eq, z_m1eq', z_inT, z_add, z_sub, z_mul, z_div, z_rem, n_ltT, n_ltF, n_leT, n_leF, n_eqT, n_eqF, z_11, q_tl_i, q_tl_n, q_ap_n, q_ap_c]
  refine q_X.lv2 _ ?_ h'
  exact ⟨rfl, rfl, rfl, rfl, trivial⟩
set_option maxRecDepth 100000 in
set_option maxHeartbeats 8000000 in
theorem c3_load3 {m : Nat} (hm : m < 1284) (hd : 1 ≤ d) (hQ : ∀ g, (∀ j, j < 5 → g j = A 0 (m * 5 + j)) → Q none (q_me M0 i s (va_up A 3 g))) : q_Call G L d mX3_load 0 0 [.ref i, .int (nI m), .ref (i + 4)] (q_me M0 i s A) Q := by
  have loop : ∀ (g j : Nat) (f : Nat → Int32), g + j = 5 → (∀ q, q < j → f q = A 0 (m * 5 + q)) → q_X G L d mX3_load 0 0 Q 2 [(0, .ref i), (1, .int (nI m)), (2, .ref (i + 4)), (3, .int (nI j))] [] (q_me M0 i s (va_up A 3 f)) 0 0 := by
    intro g
    induction g with
    | zero =>
      intro j f hj hf
      have e : j = 5 := by omega
      subst e
      have h' := hQ f hf
      refine q_X.run sX3_load [] 20 ?_
      simp (maxSteps := 10000000) (disch := omega) only [↓q_run_s, q_stop_n, q_stop_c, q_lg_c, q_ls_d, q_ld_n, q_ld_c, q_cat_i, q_cat_r, q_cat_n, q_wd_n, q_wd_c, q_bx_1, q_bx_2, q_bx_3, q_bx_4, q_bx_5, q_bx_6, q_bx_7, q_bx_8, q_pop_0, q_pop_s, ↓reduceIte, Nat.reduceEqDiff, reduceCtorEq, eq_self, Bool.false_eq_true, Nat.reduceAdd, Nat.reduceSub, Nat.reduceMul, Nat.reduceLeDiff, Nat.reduceLT, Nat.le_refl, Nat.zero_le, true_and, and_true, false_and, and_false, or_false, false_or, true_or, or_true, not_true_eq_false, not_false_eq_true, if_true, if_false, List.getElem?_cons_zero, List.getElem?_cons_succ, List.set_cons_zero, List.set_cons_succ, List.length_cons, List.length_nil, ↓tX3_load_0, ↓tX3_load_1, ↓tX3_load_2, ↓tX3_load_3, ↓tX3_load_4, ↓tX3_load_5, ↓tX3_load_8, ↓tX3_load_9, ↓tX3_load_10, ↓tX3_load_11, ↓tX3_load_12, ↓tX3_load_13, ↓tX3_load_16, ↓tX3_load_17, ↓tX3_load_20, ↓tX3_load_23, ↓oAl, ↓oAlen, ↓oCallV, ↓oGo, ↓oIast, ↓oIf2ge, ↓oIl, ↓oInc, ↓oIs, ↓oK, ↓oVret, q_set_s, q_set_n, me_0, meO_len, q_up_a, z_clamp, z_ltI, z_leI, z_eqI, z_lt0, z_ge0, z_eq0I, z_gt0I, z_le0I, z_m1lt, z_m1ge, z_m1eq, z_m1eq', z_inT, z_add, z_sub, z_mul, z_div, z_rem, n_ltT, n_ltF, n_leT, n_leF, n_eqT, n_eqF, z_11, q_tl_i, q_tl_n, q_ap_n, q_ap_c, me_a3]
      exact h'
    | succ g ih =>
      intro j f hj hf
      have h' := ih (j + 1) (upd f j (A 0 (m * 5 + j))) (by omega) (fun q hq => by
        rcases Nat.lt_or_eq_of_le (Nat.le_of_lt_succ hq) with g | g
        · rw [q_ud_n _ _ (by omega)]; exact hf q g
        · rw [g, q_ud_s])
      refine q_X.run sX3_load [] 20 ?_
      simp (maxSteps := 10000000) (disch := omega) only [↓q_run_s, q_stop_n, q_stop_c, q_lg_c, q_ls_d, q_ld_n, q_ld_c, q_cat_i, q_cat_r, q_cat_n, q_wd_n, q_wd_c, q_bx_1, q_bx_2, q_bx_3, q_bx_4, q_bx_5, q_bx_6, q_bx_7, q_bx_8, q_pop_0, q_pop_s, ↓reduceIte, Nat.reduceEqDiff, reduceCtorEq, eq_self, Bool.false_eq_true, Nat.reduceAdd, Nat.reduceSub, Nat.reduceMul, Nat.reduceLeDiff, Nat.reduceLT, Nat.le_refl, Nat.zero_le, true_and, and_true, false_and, and_false, or_false, false_or, true_or, or_true, not_true_eq_false, not_false_eq_true, if_true, if_false, List.getElem?_cons_zero, List.getElem?_cons_succ, List.set_cons_zero, List.set_cons_succ, List.length_cons, List.length_nil, ↓tX3_load_0, ↓tX3_load_1, ↓tX3_load_2, ↓tX3_load_3, ↓tX3_load_4, ↓tX3_load_5, ↓tX3_load_8, ↓tX3_load_9, ↓tX3_load_10, ↓tX3_load_11, ↓tX3_load_12, ↓tX3_load_13, ↓tX3_load_16, ↓tX3_load_17, ↓tX3_load_20, ↓tX3_load_23, ↓oAl, ↓oAlen, ↓oCallV, ↓oGo, ↓oIast, ↓oIf2ge, ↓oIl, ↓oInc, ↓oIs, ↓oK, ↓oVret, q_set_s, q_set_n, me_0, meO_len, q_up_a, z_clamp, z_ltI, z_leI, z_eqI, z_lt0, z_ge0, z_eq0I, z_gt0I, z_le0I, z_m1lt, z_m1ge, z_m1eq, z_m1eq', z_inT, z_add, z_sub, z_mul, z_div, z_rem, n_ltT, n_ltF, n_leT, n_leF, n_eqT, n_eqF, z_11, q_tl_i, q_tl_n, q_ap_n, q_ap_c, me_a3]
      refine c3_wordOf hm (by omega) ?_
      rw [va_up_ne _ _ (by decide)]
      refine q_X.run sX3_load [2] 20 ?_
      simp (maxSteps := 10000000) (disch := omega) only [↓q_run_s, q_stop_n, q_stop_c, q_lg_c, q_ls_d, q_ld_n, q_ld_c, q_cat_i, q_cat_r, q_cat_n, q_wd_n, q_wd_c, q_bx_1, q_bx_2, q_bx_3, q_bx_4, q_bx_5, q_bx_6, q_bx_7, q_bx_8, q_pop_0, q_pop_s, ↓reduceIte, Nat.reduceEqDiff, reduceCtorEq, eq_self, Bool.false_eq_true, Nat.reduceAdd, Nat.reduceSub, Nat.reduceMul, Nat.reduceLeDiff, Nat.reduceLT, Nat.le_refl, Nat.zero_le, true_and, and_true, false_and, and_false, or_false, false_or, true_or, or_true, not_true_eq_false, not_false_eq_true, if_true, if_false, List.getElem?_cons_zero, List.getElem?_cons_succ, List.set_cons_zero, List.set_cons_succ, List.length_cons, List.length_nil, ↓tX3_load_0, ↓tX3_load_1, ↓tX3_load_2, ↓tX3_load_3, ↓tX3_load_4, ↓tX3_load_5, ↓tX3_load_8, ↓tX3_load_9, ↓tX3_load_10, ↓tX3_load_11, ↓tX3_load_12, ↓tX3_load_13, ↓tX3_load_16, ↓tX3_load_17, ↓tX3_load_20, ↓tX3_load_23, ↓oAl, ↓oAlen, ↓oCallV, ↓oGo, ↓oIast, ↓oIf2ge, ↓oIl, ↓oInc, ↓oIs, ↓oK, ↓oVret, q_set_s, q_set_n, me_0, meO_len, q_up_a, z_clamp, z_ltI, z_leI, z_eqI, z_lt0, z_ge0, z_eq0I, z_gt0I, z_le0I, z_m1lt, z_m1ge, z_m1eq, z_m1eq', z_inT, z_add, z_sub, z_mul, z_div, z_rem, n_ltT, n_ltF, n_leT, n_leF, n_eqT, n_eqF, z_11, q_tl_i, q_tl_n, q_ap_n, q_ap_c, me_a3, mes_a3, va_up_self, q_upup]
      refine q_X.lv2 _ ?_ h'
      exact ⟨rfl, rfl, rfl, rfl, trivial⟩
  have h' := loop 5 0 (A 3) (by omega) (fun q hq => absurd hq (by omega))
  rw [q_upid] at h'
  refine q_Call.of [(0, .ref i), (1, .int (nI m)), (2, .ref (i + 4))] rfl ?_
  refine q_X.run sX3_load [2] 20 ?_
  simp (maxSteps := 10000000) (disch := omega) only [↓q_run_s, q_stop_n, q_stop_c, q_lg_c, q_ls_d, q_ld_n, q_ld_c, q_cat_i, q_cat_r, q_cat_n, q_wd_n, q_wd_c, q_bx_1, q_bx_2, q_bx_3, q_bx_4, q_bx_5, q_bx_6, q_bx_7, q_bx_8, q_pop_0, q_pop_s, ↓reduceIte, Nat.reduceEqDiff, reduceCtorEq, eq_self, Bool.false_eq_true, Nat.reduceAdd, Nat.reduceSub, Nat.reduceMul, Nat.reduceLeDiff, Nat.reduceLT, Nat.le_refl, Nat.zero_le, true_and, and_true, false_and, and_false, or_false, false_or, true_or, or_true, not_true_eq_false, not_false_eq_true, if_true, if_false, List.getElem?_cons_zero, List.getElem?_cons_succ, List.set_cons_zero, List.set_cons_succ, List.length_cons, List.length_nil, ↓tX3_load_0, ↓tX3_load_1, ↓tX3_load_2, ↓tX3_load_3, ↓tX3_load_4, ↓tX3_load_5, ↓tX3_load_8, ↓tX3_load_9, ↓tX3_load_10, ↓tX3_load_11, ↓tX3_load_12, ↓tX3_load_13, ↓tX3_load_16, ↓tX3_load_17, ↓tX3_load_20, ↓tX3_load_23, ↓oAl, ↓oAlen, ↓oCallV, ↓oGo, ↓oIast, ↓oIf2ge, ↓oIl, ↓oInc, ↓oIs, ↓oK, ↓oVret, q_set_s, q_set_n, me_0, meO_len, q_up_a, z_clamp, z_ltI, z_leI, z_eqI, z_lt0, z_ge0, z_eq0I, z_gt0I, z_le0I, z_m1lt, z_m1ge, z_m1eq, z_m1eq', z_inT, z_add, z_sub, z_mul, z_div, z_rem, n_ltT, n_ltF, n_leT, n_leF, n_eqT, n_eqF, z_11, q_tl_i, q_tl_n, q_ap_n, q_ap_c]
  refine q_X.lv2 _ ?_ h'
  exact ⟨rfl, rfl, rfl, rfl, trivial⟩
set_option maxRecDepth 100000 in
set_option maxHeartbeats 8000000 in
theorem c3_load4 {m : Nat} (hm : m < 1284) (hd : 1 ≤ d) (hQ : ∀ g, (∀ j, j < 5 → g j = A 0 (m * 5 + j)) → Q none (q_me M0 i s (va_up A 4 g))) : q_Call G L d mX3_load 0 0 [.ref i, .int (nI m), .ref (i + 5)] (q_me M0 i s A) Q := by
  have loop : ∀ (g j : Nat) (f : Nat → Int32), g + j = 5 → (∀ q, q < j → f q = A 0 (m * 5 + q)) → q_X G L d mX3_load 0 0 Q 2 [(0, .ref i), (1, .int (nI m)), (2, .ref (i + 5)), (3, .int (nI j))] [] (q_me M0 i s (va_up A 4 f)) 0 0 := by
    intro g
    induction g with
    | zero =>
      intro j f hj hf
      have e : j = 5 := by omega
      subst e
      have h' := hQ f hf
      refine q_X.run sX3_load [] 20 ?_
      simp (maxSteps := 10000000) (disch := omega) only [↓q_run_s, q_stop_n, q_stop_c, q_lg_c, q_ls_d, q_ld_n, q_ld_c, q_cat_i, q_cat_r, q_cat_n, q_wd_n, q_wd_c, q_bx_1, q_bx_2, q_bx_3, q_bx_4, q_bx_5, q_bx_6, q_bx_7, q_bx_8, q_pop_0, q_pop_s, ↓reduceIte, Nat.reduceEqDiff, reduceCtorEq, eq_self, Bool.false_eq_true, Nat.reduceAdd, Nat.reduceSub, Nat.reduceMul, Nat.reduceLeDiff, Nat.reduceLT, Nat.le_refl, Nat.zero_le, true_and, and_true, false_and, and_false, or_false, false_or, true_or, or_true, not_true_eq_false, not_false_eq_true, if_true, if_false, List.getElem?_cons_zero, List.getElem?_cons_succ, List.set_cons_zero, List.set_cons_succ, List.length_cons, List.length_nil, ↓tX3_load_0, ↓tX3_load_1, ↓tX3_load_2, ↓tX3_load_3, ↓tX3_load_4, ↓tX3_load_5, ↓tX3_load_8, ↓tX3_load_9, ↓tX3_load_10, ↓tX3_load_11, ↓tX3_load_12, ↓tX3_load_13, ↓tX3_load_16, ↓tX3_load_17, ↓tX3_load_20, ↓tX3_load_23, ↓oAl, ↓oAlen, ↓oCallV, ↓oGo, ↓oIast, ↓oIf2ge, ↓oIl, ↓oInc, ↓oIs, ↓oK, ↓oVret, q_set_s, q_set_n, me_0, meO_len, q_up_a, z_clamp, z_ltI, z_leI, z_eqI, z_lt0, z_ge0, z_eq0I, z_gt0I, z_le0I, z_m1lt, z_m1ge, z_m1eq, z_m1eq', z_inT, z_add, z_sub, z_mul, z_div, z_rem, n_ltT, n_ltF, n_leT, n_leF, n_eqT, n_eqF, z_11, q_tl_i, q_tl_n, q_ap_n, q_ap_c, me_a4]
      exact h'
    | succ g ih =>
      intro j f hj hf
      have h' := ih (j + 1) (upd f j (A 0 (m * 5 + j))) (by omega) (fun q hq => by
        rcases Nat.lt_or_eq_of_le (Nat.le_of_lt_succ hq) with g | g
        · rw [q_ud_n _ _ (by omega)]; exact hf q g
        · rw [g, q_ud_s])
      refine q_X.run sX3_load [] 20 ?_
      simp (maxSteps := 10000000) (disch := omega) only [↓q_run_s, q_stop_n, q_stop_c, q_lg_c, q_ls_d, q_ld_n, q_ld_c, q_cat_i, q_cat_r, q_cat_n, q_wd_n, q_wd_c, q_bx_1, q_bx_2, q_bx_3, q_bx_4, q_bx_5, q_bx_6, q_bx_7, q_bx_8, q_pop_0, q_pop_s, ↓reduceIte, Nat.reduceEqDiff, reduceCtorEq, eq_self, Bool.false_eq_true, Nat.reduceAdd, Nat.reduceSub, Nat.reduceMul, Nat.reduceLeDiff, Nat.reduceLT, Nat.le_refl, Nat.zero_le, true_and, and_true, false_and, and_false, or_false, false_or, true_or, or_true, not_true_eq_false, not_false_eq_true, if_true, if_false, List.getElem?_cons_zero, List.getElem?_cons_succ, List.set_cons_zero, List.set_cons_succ, List.length_cons, List.length_nil, ↓tX3_load_0, ↓tX3_load_1, ↓tX3_load_2, ↓tX3_load_3, ↓tX3_load_4, ↓tX3_load_5, ↓tX3_load_8, ↓tX3_load_9, ↓tX3_load_10, ↓tX3_load_11, ↓tX3_load_12, ↓tX3_load_13, ↓tX3_load_16, ↓tX3_load_17, ↓tX3_load_20, ↓tX3_load_23, ↓oAl, ↓oAlen, ↓oCallV, ↓oGo, ↓oIast, ↓oIf2ge, ↓oIl, ↓oInc, ↓oIs, ↓oK, ↓oVret, q_set_s, q_set_n, me_0, meO_len, q_up_a, z_clamp, z_ltI, z_leI, z_eqI, z_lt0, z_ge0, z_eq0I, z_gt0I, z_le0I, z_m1lt, z_m1ge, z_m1eq, z_m1eq', z_inT, z_add, z_sub, z_mul, z_div, z_rem, n_ltT, n_ltF, n_leT, n_leF, n_eqT, n_eqF, z_11, q_tl_i, q_tl_n, q_ap_n, q_ap_c, me_a4]
      refine c3_wordOf hm (by omega) ?_
      rw [va_up_ne _ _ (by decide)]
      refine q_X.run sX3_load [2] 20 ?_
      simp (maxSteps := 10000000) (disch := omega) only [↓q_run_s, q_stop_n, q_stop_c, q_lg_c, q_ls_d, q_ld_n, q_ld_c, q_cat_i, q_cat_r, q_cat_n, q_wd_n, q_wd_c, q_bx_1, q_bx_2, q_bx_3, q_bx_4, q_bx_5, q_bx_6, q_bx_7, q_bx_8, q_pop_0, q_pop_s, ↓reduceIte, Nat.reduceEqDiff, reduceCtorEq, eq_self, Bool.false_eq_true, Nat.reduceAdd, Nat.reduceSub, Nat.reduceMul, Nat.reduceLeDiff, Nat.reduceLT, Nat.le_refl, Nat.zero_le, true_and, and_true, false_and, and_false, or_false, false_or, true_or, or_true, not_true_eq_false, not_false_eq_true, if_true, if_false, List.getElem?_cons_zero, List.getElem?_cons_succ, List.set_cons_zero, List.set_cons_succ, List.length_cons, List.length_nil, ↓tX3_load_0, ↓tX3_load_1, ↓tX3_load_2, ↓tX3_load_3, ↓tX3_load_4, ↓tX3_load_5, ↓tX3_load_8, ↓tX3_load_9, ↓tX3_load_10, ↓tX3_load_11, ↓tX3_load_12, ↓tX3_load_13, ↓tX3_load_16, ↓tX3_load_17, ↓tX3_load_20, ↓tX3_load_23, ↓oAl, ↓oAlen, ↓oCallV, ↓oGo, ↓oIast, ↓oIf2ge, ↓oIl, ↓oInc, ↓oIs, ↓oK, ↓oVret, q_set_s, q_set_n, me_0, meO_len, q_up_a, z_clamp, z_ltI, z_leI, z_eqI, z_lt0, z_ge0, z_eq0I, z_gt0I, z_le0I, z_m1lt, z_m1ge, z_m1eq, z_m1eq', z_inT, z_add, z_sub, z_mul, z_div, z_rem, n_ltT, n_ltF, n_leT, n_leF, n_eqT, n_eqF, z_11, q_tl_i, q_tl_n, q_ap_n, q_ap_c, me_a4, mes_a4, va_up_self, q_upup]
      refine q_X.lv2 _ ?_ h'
      exact ⟨rfl, rfl, rfl, rfl, trivial⟩
  have h' := loop 5 0 (A 4) (by omega) (fun q hq => absurd hq (by omega))
  rw [q_upid] at h'
  refine q_Call.of [(0, .ref i), (1, .int (nI m)), (2, .ref (i + 5))] rfl ?_
  refine q_X.run sX3_load [2] 20 ?_
  simp (maxSteps := 10000000) (disch := omega) only [↓q_run_s, q_stop_n, q_stop_c, q_lg_c, q_ls_d, q_ld_n, q_ld_c, q_cat_i, q_cat_r, q_cat_n, q_wd_n, q_wd_c, q_bx_1, q_bx_2, q_bx_3, q_bx_4, q_bx_5, q_bx_6, q_bx_7, q_bx_8, q_pop_0, q_pop_s, ↓reduceIte, Nat.reduceEqDiff, reduceCtorEq, eq_self, Bool.false_eq_true, Nat.reduceAdd, Nat.reduceSub, Nat.reduceMul, Nat.reduceLeDiff, Nat.reduceLT, Nat.le_refl, Nat.zero_le, true_and, and_true, false_and, and_false, or_false, false_or, true_or, or_true, not_true_eq_false, not_false_eq_true, if_true, if_false, List.getElem?_cons_zero, List.getElem?_cons_succ, List.set_cons_zero, List.set_cons_succ, List.length_cons, List.length_nil, ↓tX3_load_0, ↓tX3_load_1, ↓tX3_load_2, ↓tX3_load_3, ↓tX3_load_4, ↓tX3_load_5, ↓tX3_load_8, ↓tX3_load_9, ↓tX3_load_10, ↓tX3_load_11, ↓tX3_load_12, ↓tX3_load_13, ↓tX3_load_16, ↓tX3_load_17, ↓tX3_load_20, ↓tX3_load_23, ↓oAl, ↓oAlen, ↓oCallV, ↓oGo, ↓oIast, ↓oIf2ge, ↓oIl, ↓oInc, ↓oIs, ↓oK, ↓oVret, q_set_s, q_set_n, me_0, meO_len, q_up_a, z_clamp, z_ltI, z_leI, z_eqI, z_lt0, z_ge0, z_eq0I, z_gt0I, z_le0I, z_m1lt, z_m1ge, z_m1eq, z_m1eq', z_inT, z_add, z_sub, z_mul, z_div, z_rem, n_ltT, n_ltF, n_leT, n_leF, n_eqT, n_eqF, z_11, q_tl_i, q_tl_n, q_ap_n, q_ap_c]
  refine q_X.lv2 _ ?_ h'
  exact ⟨rfl, rfl, rfl, rfl, trivial⟩
set_option maxRecDepth 100000 in
set_option maxHeartbeats 8000000 in
theorem c3_addAll3 {W W' : Nat → Nat} (h2 : z_hold (A 2) W) (hf : z_hold (A 3) W') (hQ : ∀ g, z_hold g (fun j => W j ||| W' j) → Q none (q_me M0 i s (va_up A 2 g))) : q_Call G L d mX3_addAll 0 0 [.ref (i + 4), .ref (i + 3)] (q_me M0 i s A) Q := by
  have loop : ∀ (g j : Nat) (f : Nat → Int32), g + j = 5 → (∀ q, q < 5 → f q = if q < j then nI (W q ||| W' q) else nI (W q)) → q_X G L d mX3_addAll 0 0 Q 2 [(0, .ref (i + 4)), (1, .ref (i + 3)), (2, .int (nI j))] [] (q_me M0 i s (va_up A 2 f)) 0 0 := by
    intro g
    induction g with
    | zero =>
      intro j f hj hg
      have e : j = 5 := by omega
      subst e
      have h' := hQ f (fun q hq => by rw [hg q hq, if_pos hq])
      refine q_X.run sX3_addAll [] 20 ?_
      simp (maxSteps := 10000000) (disch := omega) only [↓q_run_s, q_stop_n, q_stop_c, q_lg_c, q_ls_d, q_ld_n, q_ld_c, q_cat_i, q_cat_r, q_cat_n, q_wd_n, q_wd_c, q_bx_1, q_bx_2, q_bx_3, q_bx_4, q_bx_5, q_bx_6, q_bx_7, q_bx_8, q_pop_0, q_pop_s, ↓reduceIte, Nat.reduceEqDiff, reduceCtorEq, eq_self, Bool.false_eq_true, Nat.reduceAdd, Nat.reduceSub, Nat.reduceMul, Nat.reduceLeDiff, Nat.reduceLT, Nat.le_refl, Nat.zero_le, true_and, and_true, false_and, and_false, or_false, false_or, true_or, or_true, not_true_eq_false, not_false_eq_true, if_true, if_false, List.getElem?_cons_zero, List.getElem?_cons_succ, List.set_cons_zero, List.set_cons_succ, List.length_cons, List.length_nil, ↓tX3_addAll_0, ↓tX3_addAll_1, ↓tX3_addAll_2, ↓tX3_addAll_3, ↓tX3_addAll_4, ↓tX3_addAll_5, ↓tX3_addAll_8, ↓tX3_addAll_9, ↓tX3_addAll_10, ↓tX3_addAll_11, ↓tX3_addAll_14, ↓tX3_addAll_15, ↓tX3_addAll_16, ↓tX3_addAll_17, ↓tX3_addAll_18, ↓tX3_addAll_19, ↓tX3_addAll_20, ↓tX3_addAll_21, ↓tX3_addAll_22, ↓tX3_addAll_23, ↓tX3_addAll_26, ↓tX3_addAll_29, ↓oAl, ↓oAlen, ↓oDup2, ↓oGo, ↓oIald, ↓oIast, ↓oIf2ge, ↓oIl, ↓oInc, ↓oIs, ↓oK, ↓oOr, ↓oVret, q_set_s, q_set_n, z_clamp, z_ltI, z_leI, z_eqI, z_lt0, z_ge0, z_eq0I, z_gt0I, z_le0I, z_m1lt, z_m1ge, z_m1eq, z_m1eq', z_inT, z_add, z_sub, z_mul, z_div, z_rem, n_ltT, n_ltF, n_leT, n_leF, n_eqT, n_eqF, z_11, q_tl_i, q_tl_n, q_ap_n, q_ap_c, me_a3, me_a2]
      exact h'
    | succ g ih =>
      intro j f hj hg
      have e1 : f j = nI (W j) := by rw [hg j (by omega), if_neg (by omega)]
      have e2 : A 3 j = nI (W' j) := hf j (by omega)
      have h' := ih (j + 1) (upd f j (nI (W j ||| W' j))) (by omega) (fun q hq => by
        by_cases c : q = j
        · rw [c, q_ud_s, if_pos (by omega)]
        · rw [q_ud_n _ _ c, hg q hq]
          by_cases c2 : q < j
          · rw [if_pos c2, if_pos (by omega)]
          · rw [if_neg c2, if_neg (by omega)])
      refine q_X.run sX3_addAll [2] 40 ?_
      simp (maxSteps := 10000000) (disch := omega) only [↓q_run_s, q_stop_n, q_stop_c, q_lg_c, q_ls_d, q_ld_n, q_ld_c, q_cat_i, q_cat_r, q_cat_n, q_wd_n, q_wd_c, q_bx_1, q_bx_2, q_bx_3, q_bx_4, q_bx_5, q_bx_6, q_bx_7, q_bx_8, q_pop_0, q_pop_s, ↓reduceIte, Nat.reduceEqDiff, reduceCtorEq, eq_self, Bool.false_eq_true, Nat.reduceAdd, Nat.reduceSub, Nat.reduceMul, Nat.reduceLeDiff, Nat.reduceLT, Nat.le_refl, Nat.zero_le, true_and, and_true, false_and, and_false, or_false, false_or, true_or, or_true, not_true_eq_false, not_false_eq_true, if_true, if_false, List.getElem?_cons_zero, List.getElem?_cons_succ, List.set_cons_zero, List.set_cons_succ, List.length_cons, List.length_nil, ↓tX3_addAll_0, ↓tX3_addAll_1, ↓tX3_addAll_2, ↓tX3_addAll_3, ↓tX3_addAll_4, ↓tX3_addAll_5, ↓tX3_addAll_8, ↓tX3_addAll_9, ↓tX3_addAll_10, ↓tX3_addAll_11, ↓tX3_addAll_14, ↓tX3_addAll_15, ↓tX3_addAll_16, ↓tX3_addAll_17, ↓tX3_addAll_18, ↓tX3_addAll_19, ↓tX3_addAll_20, ↓tX3_addAll_21, ↓tX3_addAll_22, ↓tX3_addAll_23, ↓tX3_addAll_26, ↓tX3_addAll_29, ↓oAl, ↓oAlen, ↓oDup2, ↓oGo, ↓oIald, ↓oIast, ↓oIf2ge, ↓oIl, ↓oInc, ↓oIs, ↓oK, ↓oOr, ↓oVret, q_set_s, q_set_n, z_clamp, z_ltI, z_leI, z_eqI, z_lt0, z_ge0, z_eq0I, z_gt0I, z_le0I, z_m1lt, z_m1ge, z_m1eq, z_m1eq', z_inT, z_add, z_sub, z_mul, z_div, z_rem, n_ltT, n_ltF, n_leT, n_leF, n_eqT, n_eqF, z_11, q_tl_i, q_tl_n, q_ap_n, q_ap_c, me_a3, me_a2, mes_a2, va_up_self, va_up_ne, q_upup, e1, e2, z_or]
      refine q_X.lv2 _ ?_ h'
      exact ⟨rfl, rfl, rfl, trivial⟩
  have h' := loop 5 0 (A 2) (by omega) (fun q hq => by rw [if_neg (by omega)]; exact h2 q hq)
  rw [q_upid] at h'
  refine q_Call.of [(0, .ref (i + 4)), (1, .ref (i + 3))] rfl ?_
  refine q_X.run sX3_addAll [2] 20 ?_
  simp (maxSteps := 10000000) (disch := omega) only [↓q_run_s, q_stop_n, q_stop_c, q_lg_c, q_ls_d, q_ld_n, q_ld_c, q_cat_i, q_cat_r, q_cat_n, q_wd_n, q_wd_c, q_bx_1, q_bx_2, q_bx_3, q_bx_4, q_bx_5, q_bx_6, q_bx_7, q_bx_8, q_pop_0, q_pop_s, ↓reduceIte, Nat.reduceEqDiff, reduceCtorEq, eq_self, Bool.false_eq_true, Nat.reduceAdd, Nat.reduceSub, Nat.reduceMul, Nat.reduceLeDiff, Nat.reduceLT, Nat.le_refl, Nat.zero_le, true_and, and_true, false_and, and_false, or_false, false_or, true_or, or_true, not_true_eq_false, not_false_eq_true, if_true, if_false, List.getElem?_cons_zero, List.getElem?_cons_succ, List.set_cons_zero, List.set_cons_succ, List.length_cons, List.length_nil, ↓tX3_addAll_0, ↓tX3_addAll_1, ↓tX3_addAll_2, ↓tX3_addAll_3, ↓tX3_addAll_4, ↓tX3_addAll_5, ↓tX3_addAll_8, ↓tX3_addAll_9, ↓tX3_addAll_10, ↓tX3_addAll_11, ↓tX3_addAll_14, ↓tX3_addAll_15, ↓tX3_addAll_16, ↓tX3_addAll_17, ↓tX3_addAll_18, ↓tX3_addAll_19, ↓tX3_addAll_20, ↓tX3_addAll_21, ↓tX3_addAll_22, ↓tX3_addAll_23, ↓tX3_addAll_26, ↓tX3_addAll_29, ↓oAl, ↓oAlen, ↓oDup2, ↓oGo, ↓oIald, ↓oIast, ↓oIf2ge, ↓oIl, ↓oInc, ↓oIs, ↓oK, ↓oOr, ↓oVret, q_set_s, q_set_n, z_clamp, z_ltI, z_leI, z_eqI, z_lt0, z_ge0, z_eq0I, z_gt0I, z_le0I, z_m1lt, z_m1ge, z_m1eq, z_m1eq', z_inT, z_add, z_sub, z_mul, z_div, z_rem, n_ltT, n_ltF, n_leT, n_leF, n_eqT, n_eqF, z_11, q_tl_i, q_tl_n, q_ap_n, q_ap_c]
  refine q_X.lv2 _ ?_ h'
  exact ⟨rfl, rfl, rfl, trivial⟩
set_option maxRecDepth 100000 in
set_option maxHeartbeats 8000000 in
theorem c3_addAll4 {W W' : Nat → Nat} (h2 : z_hold (A 2) W) (hf : z_hold (A 4) W') (hQ : ∀ g, z_hold g (fun j => W j ||| W' j) → Q none (q_me M0 i s (va_up A 2 g))) : q_Call G L d mX3_addAll 0 0 [.ref (i + 5), .ref (i + 3)] (q_me M0 i s A) Q := by
  have loop : ∀ (g j : Nat) (f : Nat → Int32), g + j = 5 → (∀ q, q < 5 → f q = if q < j then nI (W q ||| W' q) else nI (W q)) → q_X G L d mX3_addAll 0 0 Q 2 [(0, .ref (i + 5)), (1, .ref (i + 3)), (2, .int (nI j))] [] (q_me M0 i s (va_up A 2 f)) 0 0 := by
    intro g
    induction g with
    | zero =>
      intro j f hj hg
      have e : j = 5 := by omega
      subst e
      have h' := hQ f (fun q hq => by rw [hg q hq, if_pos hq])
      refine q_X.run sX3_addAll [] 20 ?_
      simp (maxSteps := 10000000) (disch := omega) only [↓q_run_s, q_stop_n, q_stop_c, q_lg_c, q_ls_d, q_ld_n, q_ld_c, q_cat_i, q_cat_r, q_cat_n, q_wd_n, q_wd_c, q_bx_1, q_bx_2, q_bx_3, q_bx_4, q_bx_5, q_bx_6, q_bx_7, q_bx_8, q_pop_0, q_pop_s, ↓reduceIte, Nat.reduceEqDiff, reduceCtorEq, eq_self, Bool.false_eq_true, Nat.reduceAdd, Nat.reduceSub, Nat.reduceMul, Nat.reduceLeDiff, Nat.reduceLT, Nat.le_refl, Nat.zero_le, true_and, and_true, false_and, and_false, or_false, false_or, true_or, or_true, not_true_eq_false, not_false_eq_true, if_true, if_false, List.getElem?_cons_zero, List.getElem?_cons_succ, List.set_cons_zero, List.set_cons_succ, List.length_cons, List.length_nil, ↓tX3_addAll_0, ↓tX3_addAll_1, ↓tX3_addAll_2, ↓tX3_addAll_3, ↓tX3_addAll_4, ↓tX3_addAll_5, ↓tX3_addAll_8, ↓tX3_addAll_9, ↓tX3_addAll_10, ↓tX3_addAll_11, ↓tX3_addAll_14, ↓tX3_addAll_15, ↓tX3_addAll_16, ↓tX3_addAll_17, ↓tX3_addAll_18, ↓tX3_addAll_19, ↓tX3_addAll_20, ↓tX3_addAll_21, ↓tX3_addAll_22, ↓tX3_addAll_23, ↓tX3_addAll_26, ↓tX3_addAll_29, ↓oAl, ↓oAlen, ↓oDup2, ↓oGo, ↓oIald, ↓oIast, ↓oIf2ge, ↓oIl, ↓oInc, ↓oIs, ↓oK, ↓oOr, ↓oVret, q_set_s, q_set_n, z_clamp, z_ltI, z_leI, z_eqI, z_lt0, z_ge0, z_eq0I, z_gt0I, z_le0I, z_m1lt, z_m1ge, z_m1eq, z_m1eq', z_inT, z_add, z_sub, z_mul, z_div, z_rem, n_ltT, n_ltF, n_leT, n_leF, n_eqT, n_eqF, z_11, q_tl_i, q_tl_n, q_ap_n, q_ap_c, me_a4, me_a2]
      exact h'
    | succ g ih =>
      intro j f hj hg
      have e1 : f j = nI (W j) := by rw [hg j (by omega), if_neg (by omega)]
      have e2 : A 4 j = nI (W' j) := hf j (by omega)
      have h' := ih (j + 1) (upd f j (nI (W j ||| W' j))) (by omega) (fun q hq => by
        by_cases c : q = j
        · rw [c, q_ud_s, if_pos (by omega)]
        · rw [q_ud_n _ _ c, hg q hq]
          by_cases c2 : q < j
          · rw [if_pos c2, if_pos (by omega)]
          · rw [if_neg c2, if_neg (by omega)])
      refine q_X.run sX3_addAll [2] 40 ?_
      simp (maxSteps := 10000000) (disch := omega) only [↓q_run_s, q_stop_n, q_stop_c, q_lg_c, q_ls_d, q_ld_n, q_ld_c, q_cat_i, q_cat_r, q_cat_n, q_wd_n, q_wd_c, q_bx_1, q_bx_2, q_bx_3, q_bx_4, q_bx_5, q_bx_6, q_bx_7, q_bx_8, q_pop_0, q_pop_s, ↓reduceIte, Nat.reduceEqDiff, reduceCtorEq, eq_self, Bool.false_eq_true, Nat.reduceAdd, Nat.reduceSub, Nat.reduceMul, Nat.reduceLeDiff, Nat.reduceLT, Nat.le_refl, Nat.zero_le, true_and, and_true, false_and, and_false, or_false, false_or, true_or, or_true, not_true_eq_false, not_false_eq_true, if_true, if_false, List.getElem?_cons_zero, List.getElem?_cons_succ, List.set_cons_zero, List.set_cons_succ, List.length_cons, List.length_nil, ↓tX3_addAll_0, ↓tX3_addAll_1, ↓tX3_addAll_2, ↓tX3_addAll_3, ↓tX3_addAll_4, ↓tX3_addAll_5, ↓tX3_addAll_8, ↓tX3_addAll_9, ↓tX3_addAll_10, ↓tX3_addAll_11, ↓tX3_addAll_14, ↓tX3_addAll_15, ↓tX3_addAll_16, ↓tX3_addAll_17, ↓tX3_addAll_18, ↓tX3_addAll_19, ↓tX3_addAll_20, ↓tX3_addAll_21, ↓tX3_addAll_22, ↓tX3_addAll_23, ↓tX3_addAll_26, ↓tX3_addAll_29, ↓oAl, ↓oAlen, ↓oDup2, ↓oGo, ↓oIald, ↓oIast, ↓oIf2ge, ↓oIl, ↓oInc, ↓oIs, ↓oK, ↓oOr, ↓oVret, q_set_s, q_set_n, z_clamp, z_ltI, z_leI, z_eqI, z_lt0, z_ge0, z_eq0I, z_gt0I, z_le0I, z_m1lt, z_m1ge, z_m1eq, z_m1eq', z_inT, z_add, z_sub, z_mul, z_div, z_rem, n_ltT, n_ltF, n_leT, n_leF, n_eqT, n_eqF, z_11, q_tl_i, q_tl_n, q_ap_n, q_ap_c, me_a4, me_a2, mes_a2, va_up_self, va_up_ne, q_upup, e1, e2, z_or]
      refine q_X.lv2 _ ?_ h'
      exact ⟨rfl, rfl, rfl, trivial⟩
  have h' := loop 5 0 (A 2) (by omega) (fun q hq => by rw [if_neg (by omega)]; exact h2 q hq)
  rw [q_upid] at h'
  refine q_Call.of [(0, .ref (i + 5)), (1, .ref (i + 3))] rfl ?_
  refine q_X.run sX3_addAll [2] 20 ?_
  simp (maxSteps := 10000000) (disch := omega) only [↓q_run_s, q_stop_n, q_stop_c, q_lg_c, q_ls_d, q_ld_n, q_ld_c, q_cat_i, q_cat_r, q_cat_n, q_wd_n, q_wd_c, q_bx_1, q_bx_2, q_bx_3, q_bx_4, q_bx_5, q_bx_6, q_bx_7, q_bx_8, q_pop_0, q_pop_s, ↓reduceIte, Nat.reduceEqDiff, reduceCtorEq, eq_self, Bool.false_eq_true, Nat.reduceAdd, Nat.reduceSub, Nat.reduceMul, Nat.reduceLeDiff, Nat.reduceLT, Nat.le_refl, Nat.zero_le, true_and, and_true, false_and, and_false, or_false, false_or, true_or, or_true, not_true_eq_false, not_false_eq_true, if_true, if_false, List.getElem?_cons_zero, List.getElem?_cons_succ, List.set_cons_zero, List.set_cons_succ, List.length_cons, List.length_nil, ↓tX3_addAll_0, ↓tX3_addAll_1, ↓tX3_addAll_2, ↓tX3_addAll_3, ↓tX3_addAll_4, ↓tX3_addAll_5, ↓tX3_addAll_8, ↓tX3_addAll_9, ↓tX3_addAll_10, ↓tX3_addAll_11, ↓tX3_addAll_14, ↓tX3_addAll_15, ↓tX3_addAll_16, ↓tX3_addAll_17, ↓tX3_addAll_18, ↓tX3_addAll_19, ↓tX3_addAll_20, ↓tX3_addAll_21, ↓tX3_addAll_22, ↓tX3_addAll_23, ↓tX3_addAll_26, ↓tX3_addAll_29, ↓oAl, ↓oAlen, ↓oDup2, ↓oGo, ↓oIald, ↓oIast, ↓oIf2ge, ↓oIl, ↓oInc, ↓oIs, ↓oK, ↓oOr, ↓oVret, q_set_s, q_set_n, z_clamp, z_ltI, z_leI, z_eqI, z_lt0, z_ge0, z_eq0I, z_gt0I, z_le0I, z_m1lt, z_m1ge, z_m1eq, z_m1eq', z_inT, z_add, z_sub, z_mul, z_div, z_rem, n_ltT, n_ltF, n_leT, n_leF, n_eqT, n_eqF, z_11, q_tl_i, q_tl_n, q_ap_n, q_ap_c]
  refine q_X.lv2 _ ?_ h'
  exact ⟨rfl, rfl, rfl, trivial⟩
end
/-- rows joined behind the first u rows of m letters -/
def z_K (Sa Sb : Nat → Nat → Prop) (m u n v : Nat) : Prop := m + 1 ≤ n ∧ v / 3 ^ (n - m) < u ∧ Sa m (v / 3 ^ (n - m)) ∧ Sb (n - m) (v % 3 ^ (n - m))
theorem z_J_K {Sa Sb : Nat → Nat → Prop} {n v : Nat} (hn : n ≤ 4) (hv : v < 3 ^ n) : z_J Sa Sb n v ↔ (Sa 0 0 ∧ Sb n v) ∨ (Sb 0 0 ∧ Sa n v) ∨ z_K Sa Sb 1 3 n v ∨ z_K Sa Sb 2 9 n v ∨ z_K Sa Sb 3 27 n v := by
  have lt : ∀ m, m ≤ n → v / 3 ^ (n - m) < 3 ^ m := fun m hm => by
    rw [Nat.div_lt_iff_lt_mul (Nat.pow_pos (by decide)), ← Nat.pow_add, show m + (n - m) = n by omega]
    exact hv
  constructor
  · rintro ⟨m, h0, h1, h2⟩
    by_cases c0 : m = 0
    · subst c0
      rw [Nat.sub_zero] at h1 h2
      rw [Nat.div_eq_of_lt hv] at h1
      rw [Nat.mod_eq_of_lt hv] at h2
      exact Or.inl ⟨h1, h2⟩
    · by_cases cn : m = n
      · subst cn
        rw [Nat.sub_self, Nat.pow_zero, Nat.div_one] at h1
        rw [Nat.sub_self, Nat.pow_zero, Nat.mod_one] at h2
        exact Or.inr (Or.inl ⟨h2, h1⟩)
      · right; right
        have hl := lt m h0
        rcases (show m = 1 ∨ m = 2 ∨ m = 3 by omega) with g | g | g <;> subst g
        · exact Or.inl ⟨by omega, hl, h1, h2⟩
        · exact Or.inr (Or.inl ⟨by omega, hl, h1, h2⟩)
        · exact Or.inr (Or.inr ⟨by omega, hl, h1, h2⟩)
  · rintro (⟨h1, h2⟩ | ⟨h1, h2⟩ | ⟨h0, -, h1, h2⟩ | ⟨h0, -, h1, h2⟩ | ⟨h0, -, h1, h2⟩)
    · exact ⟨0, Nat.zero_le _, by rw [Nat.sub_zero, Nat.div_eq_of_lt hv]; exact h1, by rw [Nat.sub_zero, Nat.mod_eq_of_lt hv]; exact h2⟩
    · exact ⟨n, Nat.le_refl _, by rw [Nat.sub_self, Nat.pow_zero, Nat.div_one]; exact h2, by rw [Nat.sub_self, Nat.pow_zero, Nat.mod_one]; exact h1⟩
    · exact ⟨1, by omega, h1, h2⟩
    · exact ⟨2, by omega, h1, h2⟩
    · exact ⟨3, by omega, h1, h2⟩
/-- one row more: what it adds, and nothing, if it isn't there -/
theorem z_K_s {Sa Sb : Nat → Nat → Prop} {m u n v : Nat} (h : Sa m u) : z_K Sa Sb m (u + 1) n v ↔ z_K Sa Sb m u n v ∨ (m + 1 ≤ n ∧ v / 3 ^ (n - m) = u ∧ Sb (n - m) (v % 3 ^ (n - m))) := by
  constructor
  · rintro ⟨h0, h1, h2, h3⟩
    rcases Nat.lt_or_eq_of_le (Nat.le_of_lt_succ h1) with g | g
    · exact Or.inl ⟨h0, g, h2, h3⟩
    · exact Or.inr ⟨h0, g, h3⟩
  · rintro (⟨h0, h1, h2, h3⟩ | ⟨h0, h1, h3⟩)
    · exact ⟨h0, by omega, h2, h3⟩
    · exact ⟨h0, by omega, by rw [h1]; exact h, h3⟩
theorem z_K_n {Sa Sb : Nat → Nat → Prop} {m u n v : Nat} (h : ¬ Sa m u) : z_K Sa Sb m (u + 1) n v ↔ z_K Sa Sb m u n v := by
  constructor
  · rintro ⟨h0, h1, h2, h3⟩
    rcases Nat.lt_or_eq_of_le (Nat.le_of_lt_succ h1) with g | g
    · exact ⟨h0, g, h2, h3⟩
    · rw [g] at h2; exact absurd h2 h
  · rintro ⟨h0, h1, h2, h3⟩
    exact ⟨h0, by omega, h2, h3⟩
theorem z_K_0 {Sa Sb : Nat → Nat → Prop} {m n v : Nat} : ¬ z_K Sa Sb m 0 n v := fun h => Nat.not_lt_zero _ h.2.1
/-- the signs behind: one letter, two letters, three -/
theorem z_one {W : Nat → Nat} {S : Nat → Nat → Prop} (h : z_R W S) : (W 0 / 2 ^ 1 &&& 7) < 2 ^ 3 ^ 1 ∧ ∀ q, q < 3 ^ 1 → ((W 0 / 2 ^ 1 &&& 7).testBit q = true ↔ S 1 q) := by
  refine ⟨Nat.lt_of_le_of_lt Nat.and_le_right (by decide), fun q hq => ?_⟩
  have hq : q < 3 := hq
  have h7 : (7 : Nat).testBit q = true := by
    have g : ∀ q : Nat, q < 3 → (7 : Nat).testBit q = true := by decide
    exact g q hq
  rw [Nat.testBit_and, h7, Bool.and_true, Nat.testBit_div_two_pow]
  have := h.2 1 q (by decide) hq
  rw [Nat.add_comm]
  exact this
theorem z_two {W : Nat → Nat} {S : Nat → Nat → Prop} (h : z_R W S) : (W 0 / 2 ^ 4 &&& 511) < 2 ^ 3 ^ 2 ∧ ∀ q, q < 3 ^ 2 → ((W 0 / 2 ^ 4 &&& 511).testBit q = true ↔ S 2 q) := by
  refine ⟨Nat.lt_of_le_of_lt Nat.and_le_right (by decide), fun q hq => ?_⟩
  have hq : q < 9 := hq
  have h7 : (511 : Nat).testBit q = true := by
    have g : ∀ q : Nat, q < 9 → (511 : Nat).testBit q = true := by decide
    exact g q hq
  rw [Nat.testBit_and, h7, Bool.and_true, Nat.testBit_div_two_pow]
  have := h.2 2 q (by decide) hq
  rw [Nat.add_comm]
  exact this
theorem z_thr {W : Nat → Nat} {S : Nat → Nat → Prop} (h : z_R W S) : W 1 < 2 ^ 3 ^ 3 ∧ ∀ q, q < 3 ^ 3 → ((W 1).testBit q = true ↔ S 3 q) := by
  refine ⟨h.1.2 1 (by decide), fun q hq => ?_⟩
  have hq : q < 27 := hq
  have := h.2 3 q (by decide) hq
  have e : z_b 3 q = q := by show q % 27 = q; omega
  rw [e] at this
  exact this
