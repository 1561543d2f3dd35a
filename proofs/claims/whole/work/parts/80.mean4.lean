/-! the class's Meanings: repeat; kept once -/
theorem cpy_in {f g : Nat → Int32} {sp dp k j : Nat} (h1 : dp ≤ j) (h2 : j < dp + k) : va_cpy f g sp dp k j = f (sp + (j - dp)) := by
  unfold va_cpy
  rw [if_pos ⟨h1, h2⟩]
theorem cpy_out {f g : Nat → Int32} {sp dp k j : Nat} (h : j < dp ∨ dp + k ≤ j) : va_cpy f g sp dp k j = g j := by
  unfold va_cpy
  rw [if_neg (by omega)]
section
variable {G : qC} {L : Launch} {d : Nat} {Q : Option Value → qM → Prop} {M0 : qM} {i : Nat} {s : Nat → Int32} {A : Nat → Nat → Int32}
set_option maxRecDepth 100000 in
set_option maxHeartbeats 8000000 in
theorem c3_repeat {t : qT} {W Wb : Nat → Nat} (h2 : z_hold (A 2) W) (h4 : z_hold (A 4) Wb) (rm : z_R W (z_S t)) (rb : z_R Wb (z_S t)) (hd : 2 ≤ d) (hQ : ∀ g g3 W, z_hold g W → z_R W (z_S (.neg t)) → Q none (q_me M0 i s (va_up (va_up A 3 g3) 2 g))) : q_Call G L d mX3_repeat 0 0 [.ref i] (q_me M0 i s A) Q := by
  have loop : ∀ (g m : Nat) (f f3 : Nat → Int32) (W : Nat → Nat), g + m = 3 → z_hold f W → z_R W (z_C t m) → q_X G L d mX3_repeat 0 0 Q 2 [(0, .ref i), (1, .int (nI m))] [] (q_me M0 i s (va_up (va_up A 3 f3) 2 f)) 0 0 := by
    intro g
    induction g with
    | zero =>
      intro m f f3 W hm hf hR
      have e : m = 3 := by omega
      subst e
      have h' := hQ f f3 W hf (hR.congr fun n v hn hv => (z_S_neg hn hv).symm)
      refine q_X.run sX3_repeat [] 20 ?_
      simp (maxSteps := 10000000) (disch := omega) only [↓q_run_s, q_stop_n, q_stop_c, q_lg_c, q_ls_d, q_ld_n, q_ld_c, q_cat_i, q_cat_r, q_cat_n, q_wd_n, q_wd_c, q_bx_1, q_bx_2, q_bx_3, q_bx_4, q_bx_5, q_bx_6, q_bx_7, q_bx_8, q_pop_0, q_pop_s, ↓reduceIte, Nat.reduceEqDiff, reduceCtorEq, eq_self, Bool.false_eq_true, Nat.reduceAdd, Nat.reduceSub, Nat.reduceMul, Nat.reduceLeDiff, Nat.reduceLT, Nat.le_refl, Nat.zero_le, true_and, and_true, false_and, and_false, or_false, false_or, true_or, or_true, not_true_eq_false, not_false_eq_true, if_true, if_false, List.getElem?_cons_zero, List.getElem?_cons_succ, List.set_cons_zero, List.set_cons_succ, List.length_cons, List.length_nil, ↓tX3_repeat_0, ↓tX3_repeat_1, ↓tX3_repeat_2, ↓tX3_repeat_3, ↓tX3_repeat_4, ↓tX3_repeat_7, ↓tX3_repeat_8, ↓tX3_repeat_11, ↓tX3_repeat_12, ↓tX3_repeat_13, ↓tX3_repeat_16, ↓tX3_repeat_17, ↓tX3_repeat_18, ↓tX3_repeat_21, ↓tX3_repeat_22, ↓tX3_repeat_25, ↓tX3_repeat_28, ↓tX3_repeat_31, ↓oAl, ↓oCallV, ↓oCpy, ↓oGet, ↓oGo, ↓oIf2ge, ↓oIl, ↓oInc, ↓oIs, ↓oK, ↓oVret, q_set_s, q_set_n, me_0, meO_len, q_up_a, meO_2, me_a2, meO_3, me_a3, z_clamp, z_ltI, z_leI, z_eqI, z_lt0, z_ge0, z_eq0I, z_gt0I, z_le0I, z_m1lt, z_m1ge, z_m1eq, z_m1eq', z_inT, z_add, z_sub, z_mul, z_div, z_rem, n_ltT, n_ltF, n_leT, n_leF, n_eqT, n_eqF, z_11, q_tl_i, q_tl_n, q_ap_n, q_ap_c]
      exact h'
    | succ g ih =>
      intro m f f3 W hm hf hR
      refine q_X.run sX3_repeat [] 40 ?_
      simp (maxSteps := 10000000) (disch := omega) only [↓q_run_s, q_stop_n, q_stop_c, q_lg_c, q_ls_d, q_ld_n, q_ld_c, q_cat_i, q_cat_r, q_cat_n, q_wd_n, q_wd_c, q_bx_1, q_bx_2, q_bx_3, q_bx_4, q_bx_5, q_bx_6, q_bx_7, q_bx_8, q_pop_0, q_pop_s, ↓reduceIte, Nat.reduceEqDiff, reduceCtorEq, eq_self, Bool.false_eq_true, Nat.reduceAdd, Nat.reduceSub, Nat.reduceMul, Nat.reduceLeDiff, Nat.reduceLT, Nat.le_refl, Nat.zero_le, true_and, and_true, false_and, and_false, or_false, false_or, true_or, or_true, not_true_eq_false, not_false_eq_true, if_true, if_false, List.getElem?_cons_zero, List.getElem?_cons_succ, List.set_cons_zero, List.set_cons_succ, List.length_cons, List.length_nil, ↓tX3_repeat_0, ↓tX3_repeat_1, ↓tX3_repeat_2, ↓tX3_repeat_3, ↓tX3_repeat_4, ↓tX3_repeat_7, ↓tX3_repeat_8, ↓tX3_repeat_11, ↓tX3_repeat_12, ↓tX3_repeat_13, ↓tX3_repeat_16, ↓tX3_repeat_17, ↓tX3_repeat_18, ↓tX3_repeat_21, ↓tX3_repeat_22, ↓tX3_repeat_25, ↓tX3_repeat_28, ↓tX3_repeat_31, ↓oAl, ↓oCallV, ↓oCpy, ↓oGet, ↓oGo, ↓oIf2ge, ↓oIl, ↓oInc, ↓oIs, ↓oK, ↓oVret, q_set_s, q_set_n, me_0, meO_len, q_up_a, meO_2, me_a2, meO_3, me_a3, z_clamp, z_ltI, z_leI, z_eqI, z_lt0, z_ge0, z_eq0I, z_gt0I, z_le0I, z_m1lt, z_m1ge, z_m1eq, z_m1eq', z_inT, z_add, z_sub, z_mul, z_div, z_rem, n_ltT, n_ltF, n_leT, n_leF, n_eqT, n_eqF, z_11, q_tl_i, q_tl_n, q_ap_n, q_ap_c, mes_a3]
      refine c3_addJoined (Wm := W) (Wa := W) (Wb := Wb) (Sm := z_C t m) (Sa := z_C t m) (Sb := z_S t) ?_ ?_ ?_ hR hR rb (by omega) fun g' W' hg hR' => ?_
      · rw [va_up_ne _ _ (by decide), va_up_self]
        exact hf
      · rw [va_up_self]
        intro j hj
        rw [cpy_in (by omega) (by omega)]
        exact (congrArg f (by omega)).trans (hf j hj)
      · rw [va_up_ne _ _ (by decide), va_up_ne _ _ (by decide), va_up_ne _ _ (by decide)]
        exact h4
      · have h' := fun f3' => ih (m + 1) g' f3' W' (by omega) hg (hR'.congr fun n v hn hv => (z_C_s hn hv).symm)
        have e : ∀ x y z w, va_up (va_up (va_up (va_up A 3 x) 2 y) 3 z) 2 w = va_up (va_up A 3 z) 2 w := fun x y z w => by
          funext q
          unfold va_up
          by_cases c2 : q = 2
          · rw [if_pos c2, if_pos c2]
          · by_cases c3 : q = 3
            · rw [if_neg c2, if_pos c3, if_neg c2, if_pos c3]
            · rw [if_neg c2, if_neg c3, if_neg c2, if_neg c3, if_neg c2, if_neg c3]
        rw [e]
        refine q_X.run sX3_repeat [2] 20 ?_
        simp (maxSteps := 10000000) (disch := omega) only [↓q_run_s, q_stop_n, q_stop_c, q_lg_c, q_ls_d, q_ld_n, q_ld_c, q_cat_i, q_cat_r, q_cat_n, q_wd_n, q_wd_c, q_bx_1, q_bx_2, q_bx_3, q_bx_4, q_bx_5, q_bx_6, q_bx_7, q_bx_8, q_pop_0, q_pop_s, ↓reduceIte, Nat.reduceEqDiff, reduceCtorEq, eq_self, Bool.false_eq_true, Nat.reduceAdd, Nat.reduceSub, Nat.reduceMul, Nat.reduceLeDiff, Nat.reduceLT, Nat.le_refl, Nat.zero_le, true_and, and_true, false_and, and_false, or_false, false_or, true_or, or_true, not_true_eq_false, not_false_eq_true, if_true, if_false, List.getElem?_cons_zero, List.getElem?_cons_succ, List.set_cons_zero, List.set_cons_succ, List.length_cons, List.length_nil, ↓tX3_repeat_0, ↓tX3_repeat_1, ↓tX3_repeat_2, ↓tX3_repeat_3, ↓tX3_repeat_4, ↓tX3_repeat_7, ↓tX3_repeat_8, ↓tX3_repeat_11, ↓tX3_repeat_12, ↓tX3_repeat_13, ↓tX3_repeat_16, ↓tX3_repeat_17, ↓tX3_repeat_18, ↓tX3_repeat_21, ↓tX3_repeat_22, ↓tX3_repeat_25, ↓tX3_repeat_28, ↓tX3_repeat_31, ↓oAl, ↓oCallV, ↓oCpy, ↓oGet, ↓oGo, ↓oIf2ge, ↓oIl, ↓oInc, ↓oIs, ↓oK, ↓oVret, q_set_s, q_set_n, me_0, meO_len, q_up_a, meO_2, me_a2, meO_3, me_a3, z_clamp, z_ltI, z_leI, z_eqI, z_lt0, z_ge0, z_eq0I, z_gt0I, z_le0I, z_m1lt, z_m1ge, z_m1eq, z_m1eq', z_inT, z_add, z_sub, z_mul, z_div, z_rem, n_ltT, n_ltF, n_leT, n_leF, n_eqT, n_eqF, z_11, q_tl_i, q_tl_n, q_ap_n, q_ap_c]
        refine q_X.lv2 _ ?_ (h' _)
        exact ⟨rfl, rfl, trivial⟩
  have h' := loop 3 0 (A 2) (A 3) W rfl h2 (rm.congr fun n v hn hv => z_C_0.symm)
  rw [q_upid, q_upid] at h'
  refine q_Call.of [(0, .ref i)] rfl ?_
  refine q_X.run sX3_repeat [2] 20 ?_
  simp (maxSteps := 10000000) (disch := omega) only [↓q_run_s, q_stop_n, q_stop_c, q_lg_c, q_ls_d, q_ld_n, q_ld_c, q_cat_i, q_cat_r, q_cat_n, q_wd_n, q_wd_c, q_bx_1, q_bx_2, q_bx_3, q_bx_4, q_bx_5, q_bx_6, q_bx_7, q_bx_8, q_pop_0, q_pop_s, ↓reduceIte, Nat.reduceEqDiff, reduceCtorEq, eq_self, Bool.false_eq_true, Nat.reduceAdd, Nat.reduceSub, Nat.reduceMul, Nat.reduceLeDiff, Nat.reduceLT, Nat.le_refl, Nat.zero_le, true_and, and_true, false_and, and_false, or_false, false_or, true_or, or_true, not_true_eq_false, not_false_eq_true, if_true, if_false, List.getElem?_cons_zero, List.getElem?_cons_succ, List.set_cons_zero, List.set_cons_succ, List.length_cons, List.length_nil, ↓tX3_repeat_0, ↓tX3_repeat_1, ↓tX3_repeat_2, ↓tX3_repeat_3, ↓tX3_repeat_4, ↓tX3_repeat_7, ↓tX3_repeat_8, ↓tX3_repeat_11, ↓tX3_repeat_12, ↓tX3_repeat_13, ↓tX3_repeat_16, ↓tX3_repeat_17, ↓tX3_repeat_18, ↓tX3_repeat_21, ↓tX3_repeat_22, ↓tX3_repeat_25, ↓tX3_repeat_28, ↓tX3_repeat_31, ↓oAl, ↓oCallV, ↓oCpy, ↓oGet, ↓oGo, ↓oIf2ge, ↓oIl, ↓oInc, ↓oIs, ↓oK, ↓oVret, q_set_s, q_set_n, me_0, meO_len, q_up_a, meO_2, me_a2, meO_3, me_a3, z_clamp, z_ltI, z_leI, z_eqI, z_lt0, z_ge0, z_eq0I, z_gt0I, z_le0I, z_m1lt, z_m1ge, z_m1eq, z_m1eq', z_inT, z_add, z_sub, z_mul, z_div, z_rem, n_ltT, n_ltF, n_leT, n_leF, n_eqT, n_eqF, z_11, q_tl_i, q_tl_n, q_ap_n, q_ap_c]
  refine q_X.lv2 _ ?_ h'
  exact ⟨rfl, rfl, trivial⟩
set_option maxRecDepth 100000 in
set_option maxHeartbeats 8000000 in
theorem c3_isMade {m : Nat} (hm : m < 1284) (hd : 1 ≤ d) (hT : (∀ j, j < 5 → A 0 (m * 5 + j) = A 2 j) → Q (some (.int (nI 1))) (q_me M0 i s A)) (hF : ¬ (∀ j, j < 5 → A 0 (m * 5 + j) = A 2 j) → Q (some (.int (nI 0))) (q_me M0 i s A)) : q_Call G L d mX3_isMade 0 0 [.ref i, .int (nI m)] (q_me M0 i s A) Q := by
  have loop : ∀ (g j : Nat), g + j = 5 → (∀ q, q < j → A 0 (m * 5 + q) = A 2 q) → q_X G L d mX3_isMade 0 0 Q 2 [(0, .ref i), (1, .int (nI m)), (2, .int (nI j))] [] (q_me M0 i s A) 0 0 := by
    intro g
    induction g with
    | zero =>
      intro j hj hq
      have e : j = 5 := by omega
      subst e
      have h' := hT hq
      refine q_X.run sX3_isMade [] 20 ?_
      simp (maxSteps := 10000000) (disch := omega) only [↓q_run_s, q_stop_n, q_stop_c, q_lg_c, q_ls_d, q_ld_n, q_ld_c, q_cat_i, q_cat_r, q_cat_n, q_wd_n, q_wd_c, q_bx_1, q_bx_2, q_bx_3, q_bx_4, q_bx_5, q_bx_6, q_bx_7, q_bx_8, q_pop_0, q_pop_s, ↓reduceIte, Nat.reduceEqDiff, reduceCtorEq, eq_self, Bool.false_eq_true, Nat.reduceAdd, Nat.reduceSub, Nat.reduceMul, Nat.reduceLeDiff, Nat.reduceLT, Nat.le_refl, Nat.zero_le, true_and, and_true, false_and, and_false, or_false, false_or, true_or, or_true, not_true_eq_false, not_false_eq_true, if_true, if_false, List.getElem?_cons_zero, List.getElem?_cons_succ, List.set_cons_zero, List.set_cons_succ, List.length_cons, List.length_nil, ↓tX3_isMade_0, ↓tX3_isMade_1, ↓tX3_isMade_2, ↓tX3_isMade_3, ↓tX3_isMade_4, ↓tX3_isMade_7, ↓tX3_isMade_8, ↓tX3_isMade_9, ↓tX3_isMade_10, ↓tX3_isMade_13, ↓tX3_isMade_14, ↓tX3_isMade_17, ↓tX3_isMade_18, ↓tX3_isMade_19, ↓tX3_isMade_22, ↓tX3_isMade_23, ↓tX3_isMade_24, ↓tX3_isMade_27, ↓tX3_isMade_30, ↓tX3_isMade_31, ↓oAl, ↓oCallV, ↓oGet, ↓oGo, ↓oIald, ↓oIf2eq, ↓oIf2ge, ↓oIl, ↓oInc, ↓oIs, ↓oK, ↓oZret, q_set_s, q_set_n, me_0, meO_len, q_up_a, meO_2, me_a2, z_clamp, z_ltI, z_leI, z_eqI, z_lt0, z_ge0, z_eq0I, z_gt0I, z_le0I, z_m1lt, z_m1ge, z_m1eq, z_m1eq', z_inT, z_add, z_sub, z_mul, z_div, z_rem, n_ltT, n_ltF, n_leT, n_leF, n_eqT, n_eqF, z_11, q_tl_i, q_tl_n, q_ap_n, q_ap_c]
      exact h'
    | succ g ih =>
      intro j hj hq
      refine q_X.run sX3_isMade [] 20 ?_
      simp (maxSteps := 10000000) (disch := omega) only [↓q_run_s, q_stop_n, q_stop_c, q_lg_c, q_ls_d, q_ld_n, q_ld_c, q_cat_i, q_cat_r, q_cat_n, q_wd_n, q_wd_c, q_bx_1, q_bx_2, q_bx_3, q_bx_4, q_bx_5, q_bx_6, q_bx_7, q_bx_8, q_pop_0, q_pop_s, ↓reduceIte, Nat.reduceEqDiff, reduceCtorEq, eq_self, Bool.false_eq_true, Nat.reduceAdd, Nat.reduceSub, Nat.reduceMul, Nat.reduceLeDiff, Nat.reduceLT, Nat.le_refl, Nat.zero_le, true_and, and_true, false_and, and_false, or_false, false_or, true_or, or_true, not_true_eq_false, not_false_eq_true, if_true, if_false, List.getElem?_cons_zero, List.getElem?_cons_succ, List.set_cons_zero, List.set_cons_succ, List.length_cons, List.length_nil, ↓tX3_isMade_0, ↓tX3_isMade_1, ↓tX3_isMade_2, ↓tX3_isMade_3, ↓tX3_isMade_4, ↓tX3_isMade_7, ↓tX3_isMade_8, ↓tX3_isMade_9, ↓tX3_isMade_10, ↓tX3_isMade_13, ↓tX3_isMade_14, ↓tX3_isMade_17, ↓tX3_isMade_18, ↓tX3_isMade_19, ↓tX3_isMade_22, ↓tX3_isMade_23, ↓tX3_isMade_24, ↓tX3_isMade_27, ↓tX3_isMade_30, ↓tX3_isMade_31, ↓oAl, ↓oCallV, ↓oGet, ↓oGo, ↓oIald, ↓oIf2eq, ↓oIf2ge, ↓oIl, ↓oInc, ↓oIs, ↓oK, ↓oZret, q_set_s, q_set_n, me_0, meO_len, q_up_a, meO_2, me_a2, z_clamp, z_ltI, z_leI, z_eqI, z_lt0, z_ge0, z_eq0I, z_gt0I, z_le0I, z_m1lt, z_m1ge, z_m1eq, z_m1eq', z_inT, z_add, z_sub, z_mul, z_div, z_rem, n_ltT, n_ltF, n_leT, n_leF, n_eqT, n_eqF, z_11, q_tl_i, q_tl_n, q_ap_n, q_ap_c]
      refine c3_wordOf hm (by omega) ?_
      by_cases c : A 0 (m * 5 + j) = A 2 j
      · have h' := ih (j + 1) (by omega) (fun q hq' => (Nat.lt_or_eq_of_le (Nat.le_of_lt_succ hq')).elim (hq q) (fun e => e ▸ c))
        refine q_X.run sX3_isMade [2] 20 ?_
        simp (maxSteps := 10000000) (disch := omega) only [↓q_run_s, q_stop_n, q_stop_c, q_lg_c, q_ls_d, q_ld_n, q_ld_c, q_cat_i, q_cat_r, q_cat_n, q_wd_n, q_wd_c, q_bx_1, q_bx_2, q_bx_3, q_bx_4, q_bx_5, q_bx_6, q_bx_7, q_bx_8, q_pop_0, q_pop_s, ↓reduceIte, Nat.reduceEqDiff, reduceCtorEq, eq_self, Bool.false_eq_true, Nat.reduceAdd, Nat.reduceSub, Nat.reduceMul, Nat.reduceLeDiff, Nat.reduceLT, Nat.le_refl, Nat.zero_le, true_and, and_true, false_and, and_false, or_false, false_or, true_or, or_true, not_true_eq_false, not_false_eq_true, if_true, if_false, List.getElem?_cons_zero, List.getElem?_cons_succ, List.set_cons_zero, List.set_cons_succ, List.length_cons, List.length_nil, ↓tX3_isMade_0, ↓tX3_isMade_1, ↓tX3_isMade_2, ↓tX3_isMade_3, ↓tX3_isMade_4, ↓tX3_isMade_7, ↓tX3_isMade_8, ↓tX3_isMade_9, ↓tX3_isMade_10, ↓tX3_isMade_13, ↓tX3_isMade_14, ↓tX3_isMade_17, ↓tX3_isMade_18, ↓tX3_isMade_19, ↓tX3_isMade_22, ↓tX3_isMade_23, ↓tX3_isMade_24, ↓tX3_isMade_27, ↓tX3_isMade_30, ↓tX3_isMade_31, ↓oAl, ↓oCallV, ↓oGet, ↓oGo, ↓oIald, ↓oIf2eq, ↓oIf2ge, ↓oIl, ↓oInc, ↓oIs, ↓oK, ↓oZret, q_set_s, q_set_n, me_0, meO_len, q_up_a, meO_2, me_a2, z_clamp, z_ltI, z_leI, z_eqI, z_lt0, z_ge0, z_eq0I, z_gt0I, z_le0I, z_m1lt, z_m1ge, z_m1eq, z_m1eq', z_inT, z_add, z_sub, z_mul, z_div, z_rem, n_ltT, n_ltF, n_leT, n_leF, n_eqT, n_eqF, z_11, q_tl_i, q_tl_n, q_ap_n, q_ap_c, c]
        refine q_X.lv2 _ ?_ h'
        exact ⟨rfl, rfl, rfl, trivial⟩
      · have h' := hF fun h => c (h j (by omega))
        refine q_X.run sX3_isMade [2] 20 ?_
        simp (maxSteps := 10000000) (disch := omega) only [↓q_run_s, q_stop_n, q_stop_c, q_lg_c, q_ls_d, q_ld_n, q_ld_c, q_cat_i, q_cat_r, q_cat_n, q_wd_n, q_wd_c, q_bx_1, q_bx_2, q_bx_3, q_bx_4, q_bx_5, q_bx_6, q_bx_7, q_bx_8, q_pop_0, q_pop_s, ↓reduceIte, Nat.reduceEqDiff, reduceCtorEq, eq_self, Bool.false_eq_true, Nat.reduceAdd, Nat.reduceSub, Nat.reduceMul, Nat.reduceLeDiff, Nat.reduceLT, Nat.le_refl, Nat.zero_le, true_and, and_true, false_and, and_false, or_false, false_or, true_or, or_true, not_true_eq_false, not_false_eq_true, if_true, if_false, List.getElem?_cons_zero, List.getElem?_cons_succ, List.set_cons_zero, List.set_cons_succ, List.length_cons, List.length_nil, ↓tX3_isMade_0, ↓tX3_isMade_1, ↓tX3_isMade_2, ↓tX3_isMade_3, ↓tX3_isMade_4, ↓tX3_isMade_7, ↓tX3_isMade_8, ↓tX3_isMade_9, ↓tX3_isMade_10, ↓tX3_isMade_13, ↓tX3_isMade_14, ↓tX3_isMade_17, ↓tX3_isMade_18, ↓tX3_isMade_19, ↓tX3_isMade_22, ↓tX3_isMade_23, ↓tX3_isMade_24, ↓tX3_isMade_27, ↓tX3_isMade_30, ↓tX3_isMade_31, ↓oAl, ↓oCallV, ↓oGet, ↓oGo, ↓oIald, ↓oIf2eq, ↓oIf2ge, ↓oIl, ↓oInc, ↓oIs, ↓oK, ↓oZret, q_set_s, q_set_n, me_0, meO_len, q_up_a, meO_2, me_a2, z_clamp, z_ltI, z_leI, z_eqI, z_lt0, z_ge0, z_eq0I, z_gt0I, z_le0I, z_m1lt, z_m1ge, z_m1eq, z_m1eq', z_inT, z_add, z_sub, z_mul, z_div, z_rem, n_ltT, n_ltF, n_leT, n_leF, n_eqT, n_eqF, z_11, q_tl_i, q_tl_n, q_ap_n, q_ap_c, c]
        exact h'
  have h' := loop 5 0 rfl (fun q hq => absurd hq (by omega))
  refine q_Call.of [(0, .ref i), (1, .int (nI m))] rfl ?_
  refine q_X.run sX3_isMade [2] 20 ?_
  simp (maxSteps := 10000000) (disch := omega) only [↓q_run_s, q_stop_n, q_stop_c, q_lg_c, q_ls_d, q_ld_n, q_ld_c, q_cat_i, q_cat_r, q_cat_n, q_wd_n, q_wd_c, q_bx_1, q_bx_2, q_bx_3, q_bx_4, q_bx_5, q_bx_6, q_bx_7, q_bx_8, q_pop_0, q_pop_s, ↓reduceIte, Nat.reduceEqDiff, reduceCtorEq, eq_self, Bool.false_eq_true, Nat.reduceAdd, Nat.reduceSub, Nat.reduceMul, Nat.reduceLeDiff, Nat.reduceLT, Nat.le_refl, Nat.zero_le, true_and, and_true, false_and, and_false, or_false, false_or, true_or, or_true, not_true_eq_false, not_false_eq_true, if_true, if_false, List.getElem?_cons_zero, List.getElem?_cons_succ, List.set_cons_zero, List.set_cons_succ, List.length_cons, List.length_nil, ↓tX3_isMade_0, ↓tX3_isMade_1, ↓tX3_isMade_2, ↓tX3_isMade_3, ↓tX3_isMade_4, ↓tX3_isMade_7, ↓tX3_isMade_8, ↓tX3_isMade_9, ↓tX3_isMade_10, ↓tX3_isMade_13, ↓tX3_isMade_14, ↓tX3_isMade_17, ↓tX3_isMade_18, ↓tX3_isMade_19, ↓tX3_isMade_22, ↓tX3_isMade_23, ↓tX3_isMade_24, ↓tX3_isMade_27, ↓tX3_isMade_30, ↓tX3_isMade_31, ↓oAl, ↓oCallV, ↓oGet, ↓oGo, ↓oIald, ↓oIf2eq, ↓oIf2ge, ↓oIl, ↓oInc, ↓oIs, ↓oK, ↓oZret, q_set_s, q_set_n, me_0, meO_len, q_up_a, meO_2, me_a2, z_clamp, z_ltI, z_leI, z_eqI, z_lt0, z_ge0, z_eq0I, z_gt0I, z_le0I, z_m1lt, z_m1ge, z_m1eq, z_m1eq', z_inT, z_add, z_sub, z_mul, z_div, z_rem, n_ltT, n_ltF, n_leT, n_leF, n_eqT, n_eqF, z_11, q_tl_i, q_tl_n, q_ap_n, q_ap_c]
  refine q_X.lv2 _ ?_ h'
  exact ⟨rfl, rfl, rfl, trivial⟩
set_option maxRecDepth 100000 in
set_option maxHeartbeats 8000000 in
theorem c3_keepNew {n : Nat} (h5 : s 5 = nI n) (hn : n < 1284) (hd : 1 ≤ d) (hQ : ∀ g : Nat → Int32, (∀ j, j < n * 5 → g j = A 0 j) → (∀ j, j < 5 → g (n * 5 + j) = A 2 j) → Q (some (.int (nI n))) (q_me M0 i (va_up s 5 (nI (n + 1))) (va_up A 0 g))) : q_Call G L d mX3_keepNew 0 0 [.ref i] (q_me M0 i s A) Q := by
  have h' := hQ (va_cpy (A 2) (A 0) 0 (n * 5) 5) (fun j hj => cpy_out (by omega)) (fun j hj => by rw [cpy_in (by omega) (by omega)]; congr 1; omega)
  refine q_Call.of [(0, .ref i)] rfl ?_
  refine q_X.run sX3_keepNew [] 60 ?_
  simp (maxSteps := 10000000) (disch := omega) only [↓q_run_s, q_stop_n, q_stop_c, q_lg_c, q_ls_d, q_ld_n, q_ld_c, q_cat_i, q_cat_r, q_cat_n, q_wd_n, q_wd_c, q_bx_1, q_bx_2, q_bx_3, q_bx_4, q_bx_5, q_bx_6, q_bx_7, q_bx_8, q_pop_0, q_pop_s, ↓reduceIte, Nat.reduceEqDiff, reduceCtorEq, eq_self, Bool.false_eq_true, Nat.reduceAdd, Nat.reduceSub, Nat.reduceMul, Nat.reduceLeDiff, Nat.reduceLT, Nat.le_refl, Nat.zero_le, true_and, and_true, false_and, and_false, or_false, false_or, true_or, or_true, not_true_eq_false, not_false_eq_true, if_true, if_false, List.getElem?_cons_zero, List.getElem?_cons_succ, List.set_cons_zero, List.set_cons_succ, List.length_cons, List.length_nil, ↓tX3_keepNew_0, ↓tX3_keepNew_1, ↓tX3_keepNew_4, ↓tX3_keepNew_7, ↓tX3_keepNew_10, ↓tX3_keepNew_11, ↓tX3_keepNew_12, ↓tX3_keepNew_13, ↓tX3_keepNew_16, ↓tX3_keepNew_17, ↓tX3_keepNew_18, ↓tX3_keepNew_21, ↓tX3_keepNew_22, ↓tX3_keepNew_25, ↓tX3_keepNew_26, ↓tX3_keepNew_27, ↓tX3_keepNew_28, ↓tX3_keepNew_31, ↓tX3_keepNew_32, ↓tX3_keepNew_33, ↓tX3_keepNew_36, ↓tX3_keepNew_37, ↓tX3_keepNew_38, ↓tX3_keepNew_41, ↓tX3_keepNew_42, ↓tX3_keepNew_45, ↓tX3_keepNew_46, ↓tX3_keepNew_47, ↓oAdd, ↓oAl, ↓oCpy, ↓oDup, ↓oGet, ↓oIf2lt, ↓oIret, ↓oK, ↓oMul, ↓oPutI, ↓oSub, q_set_s, q_set_n, me_0, meO_len, q_up_a, meO_5, meO_2, me_a2, meO_0, me_a0, meOs_5, z_clamp, z_ltI, z_leI, z_eqI, z_lt0, z_ge0, z_eq0I, z_gt0I, z_le0I, z_m1lt, z_m1ge, z_m1eq, z_m1eq', z_inT, z_add, z_sub, z_mul, z_div, z_rem, n_ltT, n_ltF, n_leT, n_leF, n_eqT, n_eqF, z_11, q_tl_i, q_tl_n, q_ap_n, q_ap_c, h5, mes_a0, Nat.add_sub_cancel]
  exact h'
end
