/-! the automaton of the class -/
theorem z_mmin {a b : Nat} (ha : a < 2147483648) (hb : b < 2147483648) : (if nI a ≤ nI b then nI a else nI b) = nI (if a ≤ b then a else b) := by
  by_cases h : a ≤ b
  · rw [if_pos h, if_pos ((nI_leI ha hb).mpr h)]
  · rw [if_neg h, if_neg (fun g => h ((nI_leI ha hb).mp g))]
section
variable {G : qC} {L : Launch} {d : Nat} {M : qM} {Q : Option Value → qM → Prop} {M0 : qM} {i : Nat} {s : Nat → Int32} {A : Nat → Nat → Int32}
set_option maxRecDepth 100000 in
set_option maxHeartbeats 4000000 in
theorem c0_follow {F T : Nat} {fo : Nat → Nat} (hF : F < 64) (hfo : ∀ q, q < 6 → A 3 q = nI (fo q)) (hQ : ∀ f, (∀ q, q < 6 → f q = nI (fo q ||| (if F.testBit q = true then T else 0))) → Q none (q_au M0 i s (va_up A 3 f))) : q_Call G L d mX0_follow 0 0 [.ref i, .int (nI F), .int (nI T)] (q_au M0 i s A) Q := by
  have loop : ∀ (g j : Nat) (f : Nat → Int32), g + j = 6 → (∀ q, q < 6 → f q = nI (fo q ||| (if q < j ∧ F.testBit q = true then T else 0))) → q_X G L d mX0_follow 0 0 Q 2 [(0, .ref i), (1, .int (nI F)), (2, .int (nI T)), (3, .int (nI j))] [] (q_au M0 i s (va_up A 3 f)) 0 0 := by
    intro g
    induction g with
    | zero =>
      intro j f hj hf
      have e : j = 6 := by omega
      subst e
      refine q_X.run sX0_follow [] 20 ?_
      simp (maxSteps := 10000000) (disch := omega) only [↓q_run_s, q_stop_n, q_stop_c, q_lg_c, q_ls_d, q_ld_n, q_ld_c, q_cat_i, q_cat_r, q_cat_n, q_wd_n, q_wd_c, q_bx_1, q_bx_2, q_bx_3, q_bx_4, q_bx_5, q_bx_6, q_bx_7, q_bx_8, q_pop_0, q_pop_s, ↓reduceIte, Nat.reduceEqDiff, reduceCtorEq, eq_self, Bool.false_eq_true, Nat.reduceAdd, Nat.reduceSub, Nat.reduceMul, Nat.reduceLeDiff, Nat.reduceLT, Nat.le_refl, Nat.zero_le, true_and, and_true, false_and, and_false, or_false, false_or, true_or, or_true, not_true_eq_false, not_false_eq_true, if_true, if_false, List.getElem?_cons_zero, List.getElem?_cons_succ, List.set_cons_zero, List.set_cons_succ, List.length_cons, List.length_nil, ↓tX0_follow_0, ↓tX0_follow_1, ↓tX0_follow_2, ↓tX0_follow_3, ↓tX0_follow_5, ↓tX0_follow_8, ↓tX0_follow_9, ↓tX0_follow_10, ↓tX0_follow_11, ↓tX0_follow_12, ↓tX0_follow_13, ↓tX0_follow_14, ↓tX0_follow_17, ↓tX0_follow_18, ↓tX0_follow_21, ↓tX0_follow_22, ↓tX0_follow_23, ↓tX0_follow_24, ↓tX0_follow_25, ↓tX0_follow_26, ↓tX0_follow_27, ↓tX0_follow_30, ↓tX0_follow_33, ↓oAl, ↓oAnd, ↓oDup2, ↓oGet, ↓oGo, ↓oIald, ↓oIast, ↓oIf2ge, ↓oIf2ne, ↓oIl, ↓oInc, ↓oIs, ↓oK, ↓oOr, ↓oShr, ↓oVret, q_set_s, q_set_n, au_0, auO_len, q_up_a, auO_3, au_a3, aus_a3, z_clamp, z_ltI, z_leI, z_eqI, z_lt0, z_ge0, z_eq0I, z_gt0I, z_le0I, z_m1lt, z_m1ge, z_m1eq, z_m1eq', z_inT, z_add, z_sub, z_mul, z_div, z_rem, n_ltT, n_ltF, n_leT, n_leF, n_eqT, n_eqF, q_tl_i, q_tl_n, q_ap_n, q_ap_c]
      refine hQ f fun q hq => ?_
      rw [hf q hq]
      by_cases c : F.testBit q = true
      · rw [if_pos ⟨hq, c⟩, if_pos c]
      · rw [if_neg (fun h => c h.2), if_neg c]
    | succ g ih =>
      intro j f hj hf
      by_cases c : F.testBit j = true
      · have hfj := hf j (by omega)
        rw [if_neg (by omega)] at hfj
        refine q_X.run sX0_follow [2] 40 ?_
        simp (maxSteps := 10000000) (disch := omega) only [↓q_run_s, q_stop_n, q_stop_c, q_lg_c, q_ls_d, q_ld_n, q_ld_c, q_cat_i, q_cat_r, q_cat_n, q_wd_n, q_wd_c, q_bx_1, q_bx_2, q_bx_3, q_bx_4, q_bx_5, q_bx_6, q_bx_7, q_bx_8, q_pop_0, q_pop_s, ↓reduceIte, Nat.reduceEqDiff, reduceCtorEq, eq_self, Bool.false_eq_true, Nat.reduceAdd, Nat.reduceSub, Nat.reduceMul, Nat.reduceLeDiff, Nat.reduceLT, Nat.le_refl, Nat.zero_le, true_and, and_true, false_and, and_false, or_false, false_or, true_or, or_true, not_true_eq_false, not_false_eq_true, if_true, if_false, List.getElem?_cons_zero, List.getElem?_cons_succ, List.set_cons_zero, List.set_cons_succ, List.length_cons, List.length_nil, ↓tX0_follow_0, ↓tX0_follow_1, ↓tX0_follow_2, ↓tX0_follow_3, ↓tX0_follow_5, ↓tX0_follow_8, ↓tX0_follow_9, ↓tX0_follow_10, ↓tX0_follow_11, ↓tX0_follow_12, ↓tX0_follow_13, ↓tX0_follow_14, ↓tX0_follow_17, ↓tX0_follow_18, ↓tX0_follow_21, ↓tX0_follow_22, ↓tX0_follow_23, ↓tX0_follow_24, ↓tX0_follow_25, ↓tX0_follow_26, ↓tX0_follow_27, ↓tX0_follow_30, ↓tX0_follow_33, ↓oAl, ↓oAnd, ↓oDup2, ↓oGet, ↓oGo, ↓oIald, ↓oIast, ↓oIf2ge, ↓oIf2ne, ↓oIl, ↓oInc, ↓oIs, ↓oK, ↓oOr, ↓oShr, ↓oVret, q_set_s, q_set_n, au_0, auO_len, q_up_a, auO_3, au_a3, aus_a3, z_clamp, z_ltI, z_leI, z_eqI, z_lt0, z_ge0, z_eq0I, z_gt0I, z_le0I, z_m1lt, z_m1ge, z_m1eq, z_m1eq', z_inT, z_add, z_sub, z_mul, z_div, z_rem, n_ltT, n_ltF, n_leT, n_leF, n_eqT, n_eqF, q_tl_i, q_tl_n, q_ap_n, q_ap_c, z_tb, z_tb1, c, hfj, z_or, q_upup]
        refine q_X.lv2 _ ?_ (ih (j + 1) (upd f j (nI ((fo j ||| 0) ||| T))) (by omega) ?_)
        · exact ⟨rfl, rfl, rfl, rfl, trivial⟩
        · intro q hq
          rw [q_ud_a]
          by_cases c2 : q = j
          · rw [if_pos c2, c2, if_pos ⟨by omega, c⟩, Nat.or_zero]
          · rw [if_neg c2, hf q hq]
            by_cases c3 : q < j ∧ F.testBit q = true
            · rw [if_pos c3, if_pos ⟨by omega, c3.2⟩]
            · rw [if_neg c3, if_neg (fun h => c3 ⟨by omega, h.2⟩)]
      · refine q_X.run sX0_follow [2] 40 ?_
        simp (maxSteps := 10000000) (disch := omega) only [↓q_run_s, q_stop_n, q_stop_c, q_lg_c, q_ls_d, q_ld_n, q_ld_c, q_cat_i, q_cat_r, q_cat_n, q_wd_n, q_wd_c, q_bx_1, q_bx_2, q_bx_3, q_bx_4, q_bx_5, q_bx_6, q_bx_7, q_bx_8, q_pop_0, q_pop_s, ↓reduceIte, Nat.reduceEqDiff, reduceCtorEq, eq_self, Bool.false_eq_true, Nat.reduceAdd, Nat.reduceSub, Nat.reduceMul, Nat.reduceLeDiff, Nat.reduceLT, Nat.le_refl, Nat.zero_le, true_and, and_true, false_and, and_false, or_false, false_or, true_or, or_true, not_true_eq_false, not_false_eq_true, if_true, if_false, List.getElem?_cons_zero, List.getElem?_cons_succ, List.set_cons_zero, List.set_cons_succ, List.length_cons, List.length_nil, ↓tX0_follow_0, ↓tX0_follow_1, ↓tX0_follow_2, ↓tX0_follow_3, ↓tX0_follow_5, ↓tX0_follow_8, ↓tX0_follow_9, ↓tX0_follow_10, ↓tX0_follow_11, ↓tX0_follow_12, ↓tX0_follow_13, ↓tX0_follow_14, ↓tX0_follow_17, ↓tX0_follow_18, ↓tX0_follow_21, ↓tX0_follow_22, ↓tX0_follow_23, ↓tX0_follow_24, ↓tX0_follow_25, ↓tX0_follow_26, ↓tX0_follow_27, ↓tX0_follow_30, ↓tX0_follow_33, ↓oAl, ↓oAnd, ↓oDup2, ↓oGet, ↓oGo, ↓oIald, ↓oIast, ↓oIf2ge, ↓oIf2ne, ↓oIl, ↓oInc, ↓oIs, ↓oK, ↓oOr, ↓oShr, ↓oVret, q_set_s, q_set_n, au_0, auO_len, q_up_a, auO_3, au_a3, aus_a3, z_clamp, z_ltI, z_leI, z_eqI, z_lt0, z_ge0, z_eq0I, z_gt0I, z_le0I, z_m1lt, z_m1ge, z_m1eq, z_m1eq', z_inT, z_add, z_sub, z_mul, z_div, z_rem, n_ltT, n_ltF, n_leT, n_leF, n_eqT, n_eqF, q_tl_i, q_tl_n, q_ap_n, q_ap_c, z_tb, z_tb1, c]
        refine q_X.lv2 _ ?_ (ih (j + 1) f (by omega) ?_)
        · exact ⟨rfl, rfl, rfl, rfl, trivial⟩
        · intro q hq
          rw [hf q hq]
          by_cases c3 : q < j ∧ F.testBit q = true
          · rw [if_pos c3, if_pos ⟨by omega, c3.2⟩]
          · rw [if_neg c3, if_neg (fun h => c3 ⟨by
              rcases Nat.lt_or_eq_of_le (Nat.le_of_lt_succ h.1) with g' | g'
              · exact g'
              · exact absurd h.2 (g' ▸ c), h.2⟩)]
  refine q_Call.of [(0, .ref i), (1, .int (nI F)), (2, .int (nI T))] rfl ?_
  refine q_X.run sX0_follow [2] 20 ?_
  simp (maxSteps := 10000000) (disch := omega) only [↓q_run_s, q_stop_n, q_stop_c, q_lg_c, q_ls_d, q_ld_n, q_ld_c, q_cat_i, q_cat_r, q_cat_n, q_wd_n, q_wd_c, q_bx_1, q_bx_2, q_bx_3, q_bx_4, q_bx_5, q_bx_6, q_bx_7, q_bx_8, q_pop_0, q_pop_s, ↓reduceIte, Nat.reduceEqDiff, reduceCtorEq, eq_self, Bool.false_eq_true, Nat.reduceAdd, Nat.reduceSub, Nat.reduceMul, Nat.reduceLeDiff, Nat.reduceLT, Nat.le_refl, Nat.zero_le, true_and, and_true, false_and, and_false, or_false, false_or, true_or, or_true, not_true_eq_false, not_false_eq_true, if_true, if_false, List.getElem?_cons_zero, List.getElem?_cons_succ, List.set_cons_zero, List.set_cons_succ, List.length_cons, List.length_nil, ↓tX0_follow_0, ↓tX0_follow_1, ↓tX0_follow_2, ↓tX0_follow_3, ↓tX0_follow_5, ↓tX0_follow_8, ↓tX0_follow_9, ↓tX0_follow_10, ↓tX0_follow_11, ↓tX0_follow_12, ↓tX0_follow_13, ↓tX0_follow_14, ↓tX0_follow_17, ↓tX0_follow_18, ↓tX0_follow_21, ↓tX0_follow_22, ↓tX0_follow_23, ↓tX0_follow_24, ↓tX0_follow_25, ↓tX0_follow_26, ↓tX0_follow_27, ↓tX0_follow_30, ↓tX0_follow_33, ↓oAl, ↓oAnd, ↓oDup2, ↓oGet, ↓oGo, ↓oIald, ↓oIast, ↓oIf2ge, ↓oIf2ne, ↓oIl, ↓oInc, ↓oIs, ↓oK, ↓oOr, ↓oShr, ↓oVret, q_set_s, q_set_n, au_0, auO_len, q_up_a, auO_3, au_a3, aus_a3, z_clamp, z_ltI, z_leI, z_eqI, z_lt0, z_ge0, z_eq0I, z_gt0I, z_le0I, z_m1lt, z_m1ge, z_m1eq, z_m1eq', z_inT, z_add, z_sub, z_mul, z_div, z_rem, n_ltT, n_ltF, n_leT, n_leF, n_eqT, n_eqF, q_tl_i, q_tl_n, q_ap_n, q_ap_c]
  have h := loop 6 0 (A 3) (by omega) (fun q hq => by
    rw [if_neg (by omega), Nat.or_zero]
    exact hfo q hq)
  rw [q_upid] at h
  refine q_X.lv2 _ ?_ h
  exact ⟨rfl, rfl, rfl, rfl, trivial⟩
set_option maxRecDepth 100000 in
set_option maxHeartbeats 4000000 in
theorem c0_addLeaf {j a v : Nat} {tk : Nat → Nat} (hj : j < 12) (h6 : s 6 = nI a) (ha : a < 6) (hv : v < 8) (htk : ∀ c, c < 3 → A 4 c = nI (tk c)) (hQ : ∀ f, (∀ c, c < 3 → f c = nI (tk c ||| (if v.testBit c = true then 2 ^ a else 0))) → Q none (q_au M0 i (va_up s 6 (nI (a + 1))) (va_up (va_up (va_up (va_up A 4 f) 0 (upd (A 0) j (nI 0))) 1 (upd (A 1) j (nI (2 ^ a)))) 2 (upd (A 2) j (nI (2 ^ a)))))) : q_Call G L d mX0_addLeaf 0 0 [.ref i, .int (nI j), .int (nI v)] (q_au M0 i s A) Q := by
  have loop : ∀ (g c : Nat) (f : Nat → Int32), g + c = 3 → (∀ q, q < 3 → f q = nI (tk q ||| (if q < c ∧ v.testBit q = true then 2 ^ a else 0))) → q_X G L d mX0_addLeaf 0 0 Q 22 [(0, .ref i), (1, .int (nI j)), (2, .int (nI v)), (3, .int (nI c))] [] (q_au M0 i s (va_up A 4 f)) 0 0 := by
    intro g
    induction g with
    | zero =>
      intro c f hc hf
      have e : c = 3 := by omega
      subst e
      refine q_X.run sX0_addLeaf [] 60 ?_
      simp (maxSteps := 10000000) (disch := omega) only [↓q_run_s, q_stop_n, q_stop_c, q_lg_c, q_ls_d, q_ld_n, q_ld_c, q_cat_i, q_cat_r, q_cat_n, q_wd_n, q_wd_c, q_bx_1, q_bx_2, q_bx_3, q_bx_4, q_bx_5, q_bx_6, q_bx_7, q_bx_8, q_pop_0, q_pop_s, ↓reduceIte, Nat.reduceEqDiff, reduceCtorEq, eq_self, Bool.false_eq_true, Nat.reduceAdd, Nat.reduceSub, Nat.reduceMul, Nat.reduceLeDiff, Nat.reduceLT, Nat.le_refl, Nat.zero_le, true_and, and_true, false_and, and_false, or_false, false_or, true_or, or_true, not_true_eq_false, not_false_eq_true, if_true, if_false, List.getElem?_cons_zero, List.getElem?_cons_succ, List.set_cons_zero, List.set_cons_succ, List.length_cons, List.length_nil, ↓tX0_addLeaf_0, ↓tX0_addLeaf_1, ↓tX0_addLeaf_4, ↓tX0_addLeaf_5, ↓tX0_addLeaf_7, ↓tX0_addLeaf_10, ↓tX0_addLeaf_11, ↓tX0_addLeaf_14, ↓tX0_addLeaf_16, ↓tX0_addLeaf_19, ↓tX0_addLeaf_20, ↓tX0_addLeaf_21, ↓tX0_addLeaf_22, ↓tX0_addLeaf_23, ↓tX0_addLeaf_24, ↓tX0_addLeaf_27, ↓tX0_addLeaf_28, ↓tX0_addLeaf_29, ↓tX0_addLeaf_30, ↓tX0_addLeaf_31, ↓tX0_addLeaf_32, ↓tX0_addLeaf_33, ↓tX0_addLeaf_36, ↓tX0_addLeaf_37, ↓tX0_addLeaf_40, ↓tX0_addLeaf_41, ↓tX0_addLeaf_42, ↓tX0_addLeaf_43, ↓tX0_addLeaf_44, ↓tX0_addLeaf_45, ↓tX0_addLeaf_48, ↓tX0_addLeaf_49, ↓tX0_addLeaf_50, ↓tX0_addLeaf_51, ↓tX0_addLeaf_54, ↓tX0_addLeaf_57, ↓tX0_addLeaf_58, ↓tX0_addLeaf_61, ↓tX0_addLeaf_62, ↓tX0_addLeaf_63, ↓tX0_addLeaf_64, ↓tX0_addLeaf_65, ↓tX0_addLeaf_68, ↓tX0_addLeaf_69, ↓tX0_addLeaf_70, ↓tX0_addLeaf_71, ↓tX0_addLeaf_74, ↓tX0_addLeaf_75, ↓tX0_addLeaf_76, ↓tX0_addLeaf_77, ↓tX0_addLeaf_80, ↓tX0_addLeaf_81, ↓tX0_addLeaf_82, ↓tX0_addLeaf_83, ↓tX0_addLeaf_86, ↓tX0_addLeaf_87, ↓tX0_addLeaf_88, ↓tX0_addLeaf_89, ↓tX0_addLeaf_90, ↓tX0_addLeaf_93, ↓tX0_addLeaf_94, ↓tX0_addLeaf_95, ↓tX0_addLeaf_98, ↓oAdd, ↓oAl, ↓oAnd, ↓oDup, ↓oDup2, ↓oGet, ↓oGo, ↓oIald, ↓oIast, ↓oIf1lt, ↓oIf2ge, ↓oIf2lt, ↓oIf2ne, ↓oIl, ↓oInc, ↓oIs, ↓oK, ↓oOr, ↓oPutI, ↓oShl, ↓oShr, ↓oVret, ↓oZast, q_set_s, q_set_n, au_0, auO_len, q_up_a, auO_6, auO_4, au_a4, aus_a4, auO_0, au_a0, aus_a0, auO_1, au_a1, aus_a1, auO_2, au_a2, aus_a2, auOs_6, z_clamp, z_ltI, z_leI, z_eqI, z_lt0, z_ge0, z_eq0I, z_gt0I, z_le0I, z_m1lt, z_m1ge, z_m1eq, z_m1eq', z_inT, z_add, z_sub, z_mul, z_div, z_rem, n_ltT, n_ltF, n_leT, n_leF, n_eqT, n_eqF, q_tl_i, q_tl_n, q_ap_n, q_ap_c, h6, z_shl1, z_11]
      refine hQ f fun q hq => ?_
      rw [hf q hq]
      by_cases c : v.testBit q = true
      · rw [if_pos ⟨hq, c⟩, if_pos c]
      · rw [if_neg (fun h => c h.2), if_neg c]
    | succ g ih =>
      intro c f hc hf
      by_cases b : v.testBit c = true
      · have hfj := hf c (by omega)
        rw [if_neg (by omega)] at hfj
        refine q_X.run sX0_addLeaf [22] 60 ?_
        simp (maxSteps := 10000000) (disch := omega) only [↓q_run_s, q_stop_n, q_stop_c, q_lg_c, q_ls_d, q_ld_n, q_ld_c, q_cat_i, q_cat_r, q_cat_n, q_wd_n, q_wd_c, q_bx_1, q_bx_2, q_bx_3, q_bx_4, q_bx_5, q_bx_6, q_bx_7, q_bx_8, q_pop_0, q_pop_s, ↓reduceIte, Nat.reduceEqDiff, reduceCtorEq, eq_self, Bool.false_eq_true, Nat.reduceAdd, Nat.reduceSub, Nat.reduceMul, Nat.reduceLeDiff, Nat.reduceLT, Nat.le_refl, Nat.zero_le, true_and, and_true, false_and, and_false, or_false, false_or, true_or, or_true, not_true_eq_false, not_false_eq_true, if_true, if_false, List.getElem?_cons_zero, List.getElem?_cons_succ, List.set_cons_zero, List.set_cons_succ, List.length_cons, List.length_nil, ↓tX0_addLeaf_0, ↓tX0_addLeaf_1, ↓tX0_addLeaf_4, ↓tX0_addLeaf_5, ↓tX0_addLeaf_7, ↓tX0_addLeaf_10, ↓tX0_addLeaf_11, ↓tX0_addLeaf_14, ↓tX0_addLeaf_16, ↓tX0_addLeaf_19, ↓tX0_addLeaf_20, ↓tX0_addLeaf_21, ↓tX0_addLeaf_22, ↓tX0_addLeaf_23, ↓tX0_addLeaf_24, ↓tX0_addLeaf_27, ↓tX0_addLeaf_28, ↓tX0_addLeaf_29, ↓tX0_addLeaf_30, ↓tX0_addLeaf_31, ↓tX0_addLeaf_32, ↓tX0_addLeaf_33, ↓tX0_addLeaf_36, ↓tX0_addLeaf_37, ↓tX0_addLeaf_40, ↓tX0_addLeaf_41, ↓tX0_addLeaf_42, ↓tX0_addLeaf_43, ↓tX0_addLeaf_44, ↓tX0_addLeaf_45, ↓tX0_addLeaf_48, ↓tX0_addLeaf_49, ↓tX0_addLeaf_50, ↓tX0_addLeaf_51, ↓tX0_addLeaf_54, ↓tX0_addLeaf_57, ↓tX0_addLeaf_58, ↓tX0_addLeaf_61, ↓tX0_addLeaf_62, ↓tX0_addLeaf_63, ↓tX0_addLeaf_64, ↓tX0_addLeaf_65, ↓tX0_addLeaf_68, ↓tX0_addLeaf_69, ↓tX0_addLeaf_70, ↓tX0_addLeaf_71, ↓tX0_addLeaf_74, ↓tX0_addLeaf_75, ↓tX0_addLeaf_76, ↓tX0_addLeaf_77, ↓tX0_addLeaf_80, ↓tX0_addLeaf_81, ↓tX0_addLeaf_82, ↓tX0_addLeaf_83, ↓tX0_addLeaf_86, ↓tX0_addLeaf_87, ↓tX0_addLeaf_88, ↓tX0_addLeaf_89, ↓tX0_addLeaf_90, ↓tX0_addLeaf_93, ↓tX0_addLeaf_94, ↓tX0_addLeaf_95, ↓tX0_addLeaf_98, ↓oAdd, ↓oAl, ↓oAnd, ↓oDup, ↓oDup2, ↓oGet, ↓oGo, ↓oIald, ↓oIast, ↓oIf1lt, ↓oIf2ge, ↓oIf2lt, ↓oIf2ne, ↓oIl, ↓oInc, ↓oIs, ↓oK, ↓oOr, ↓oPutI, ↓oShl, ↓oShr, ↓oVret, ↓oZast, q_set_s, q_set_n, au_0, auO_len, q_up_a, auO_6, auO_4, au_a4, aus_a4, auO_0, au_a0, aus_a0, auO_1, au_a1, aus_a1, auO_2, au_a2, aus_a2, auOs_6, z_clamp, z_ltI, z_leI, z_eqI, z_lt0, z_ge0, z_eq0I, z_gt0I, z_le0I, z_m1lt, z_m1ge, z_m1eq, z_m1eq', z_inT, z_add, z_sub, z_mul, z_div, z_rem, n_ltT, n_ltF, n_leT, n_leF, n_eqT, n_eqF, q_tl_i, q_tl_n, q_ap_n, q_ap_c, h6, z_tb, z_tb1, b, hfj, z_or, q_upup, z_shl1]
        refine q_X.lv2 _ ?_ (ih (c + 1) (upd f c (nI ((tk c ||| 0) ||| 2 ^ a))) (by omega) ?_)
        · exact ⟨rfl, rfl, rfl, rfl, trivial⟩
        · intro q hq
          rw [q_ud_a]
          by_cases c2 : q = c
          · rw [if_pos c2, c2, if_pos ⟨by omega, b⟩, Nat.or_zero]
          · rw [if_neg c2, hf q hq]
            by_cases c3 : q < c ∧ v.testBit q = true
            · rw [if_pos c3, if_pos ⟨by omega, c3.2⟩]
            · rw [if_neg c3, if_neg (fun h => c3 ⟨by omega, h.2⟩)]
      · refine q_X.run sX0_addLeaf [22] 60 ?_
        simp (maxSteps := 10000000) (disch := omega) only [↓q_run_s, q_stop_n, q_stop_c, q_lg_c, q_ls_d, q_ld_n, q_ld_c, q_cat_i, q_cat_r, q_cat_n, q_wd_n, q_wd_c, q_bx_1, q_bx_2, q_bx_3, q_bx_4, q_bx_5, q_bx_6, q_bx_7, q_bx_8, q_pop_0, q_pop_s, ↓reduceIte, Nat.reduceEqDiff, reduceCtorEq, eq_self, Bool.false_eq_true, Nat.reduceAdd, Nat.reduceSub, Nat.reduceMul, Nat.reduceLeDiff, Nat.reduceLT, Nat.le_refl, Nat.zero_le, true_and, and_true, false_and, and_false, or_false, false_or, true_or, or_true, not_true_eq_false, not_false_eq_true, if_true, if_false, List.getElem?_cons_zero, List.getElem?_cons_succ, List.set_cons_zero, List.set_cons_succ, List.length_cons, List.length_nil, ↓tX0_addLeaf_0, ↓tX0_addLeaf_1, ↓tX0_addLeaf_4, ↓tX0_addLeaf_5, ↓tX0_addLeaf_7, ↓tX0_addLeaf_10, ↓tX0_addLeaf_11, ↓tX0_addLeaf_14, ↓tX0_addLeaf_16, ↓tX0_addLeaf_19, ↓tX0_addLeaf_20, ↓tX0_addLeaf_21, ↓tX0_addLeaf_22, ↓tX0_addLeaf_23, ↓tX0_addLeaf_24, ↓tX0_addLeaf_27, ↓tX0_addLeaf_28, ↓tX0_addLeaf_29, ↓tX0_addLeaf_30, ↓tX0_addLeaf_31, ↓tX0_addLeaf_32, ↓tX0_addLeaf_33, ↓tX0_addLeaf_36, ↓tX0_addLeaf_37, ↓tX0_addLeaf_40, ↓tX0_addLeaf_41, ↓tX0_addLeaf_42, ↓tX0_addLeaf_43, ↓tX0_addLeaf_44, ↓tX0_addLeaf_45, ↓tX0_addLeaf_48, ↓tX0_addLeaf_49, ↓tX0_addLeaf_50, ↓tX0_addLeaf_51, ↓tX0_addLeaf_54, ↓tX0_addLeaf_57, ↓tX0_addLeaf_58, ↓tX0_addLeaf_61, ↓tX0_addLeaf_62, ↓tX0_addLeaf_63, ↓tX0_addLeaf_64, ↓tX0_addLeaf_65, ↓tX0_addLeaf_68, ↓tX0_addLeaf_69, ↓tX0_addLeaf_70, ↓tX0_addLeaf_71, ↓tX0_addLeaf_74, ↓tX0_addLeaf_75, ↓tX0_addLeaf_76, ↓tX0_addLeaf_77, ↓tX0_addLeaf_80, ↓tX0_addLeaf_81, ↓tX0_addLeaf_82, ↓tX0_addLeaf_83, ↓tX0_addLeaf_86, ↓tX0_addLeaf_87, ↓tX0_addLeaf_88, ↓tX0_addLeaf_89, ↓tX0_addLeaf_90, ↓tX0_addLeaf_93, ↓tX0_addLeaf_94, ↓tX0_addLeaf_95, ↓tX0_addLeaf_98, ↓oAdd, ↓oAl, ↓oAnd, ↓oDup, ↓oDup2, ↓oGet, ↓oGo, ↓oIald, ↓oIast, ↓oIf1lt, ↓oIf2ge, ↓oIf2lt, ↓oIf2ne, ↓oIl, ↓oInc, ↓oIs, ↓oK, ↓oOr, ↓oPutI, ↓oShl, ↓oShr, ↓oVret, ↓oZast, q_set_s, q_set_n, au_0, auO_len, q_up_a, auO_6, auO_4, au_a4, aus_a4, auO_0, au_a0, aus_a0, auO_1, au_a1, aus_a1, auO_2, au_a2, aus_a2, auOs_6, z_clamp, z_ltI, z_leI, z_eqI, z_lt0, z_ge0, z_eq0I, z_gt0I, z_le0I, z_m1lt, z_m1ge, z_m1eq, z_m1eq', z_inT, z_add, z_sub, z_mul, z_div, z_rem, n_ltT, n_ltF, n_leT, n_leF, n_eqT, n_eqF, q_tl_i, q_tl_n, q_ap_n, q_ap_c, h6, z_tb, z_tb1, b]
        refine q_X.lv2 _ ?_ (ih (c + 1) f (by omega) ?_)
        · exact ⟨rfl, rfl, rfl, rfl, trivial⟩
        · intro q hq
          rw [hf q hq]
          by_cases c3 : q < c ∧ v.testBit q = true
          · rw [if_pos c3, if_pos ⟨by omega, c3.2⟩]
          · rw [if_neg c3, if_neg (fun h => c3 ⟨by
              rcases Nat.lt_or_eq_of_le (Nat.le_of_lt_succ h.1) with g' | g'
              · exact g'
              · exact absurd h.2 (g' ▸ b), h.2⟩)]
  refine q_Call.of [(0, .ref i), (1, .int (nI j)), (2, .int (nI v))] rfl ?_
  refine q_X.run sX0_addLeaf [22] 20 ?_
  simp (maxSteps := 10000000) (disch := omega) only [↓q_run_s, q_stop_n, q_stop_c, q_lg_c, q_ls_d, q_ld_n, q_ld_c, q_cat_i, q_cat_r, q_cat_n, q_wd_n, q_wd_c, q_bx_1, q_bx_2, q_bx_3, q_bx_4, q_bx_5, q_bx_6, q_bx_7, q_bx_8, q_pop_0, q_pop_s, ↓reduceIte, Nat.reduceEqDiff, reduceCtorEq, eq_self, Bool.false_eq_true, Nat.reduceAdd, Nat.reduceSub, Nat.reduceMul, Nat.reduceLeDiff, Nat.reduceLT, Nat.le_refl, Nat.zero_le, true_and, and_true, false_and, and_false, or_false, false_or, true_or, or_true, not_true_eq_false, not_false_eq_true, if_true, if_false, List.getElem?_cons_zero, List.getElem?_cons_succ, List.set_cons_zero, List.set_cons_succ, List.length_cons, List.length_nil, ↓tX0_addLeaf_0, ↓tX0_addLeaf_1, ↓tX0_addLeaf_4, ↓tX0_addLeaf_5, ↓tX0_addLeaf_7, ↓tX0_addLeaf_10, ↓tX0_addLeaf_11, ↓tX0_addLeaf_14, ↓tX0_addLeaf_16, ↓tX0_addLeaf_19, ↓tX0_addLeaf_20, ↓tX0_addLeaf_21, ↓tX0_addLeaf_22, ↓tX0_addLeaf_23, ↓tX0_addLeaf_24, ↓tX0_addLeaf_27, ↓tX0_addLeaf_28, ↓tX0_addLeaf_29, ↓tX0_addLeaf_30, ↓tX0_addLeaf_31, ↓tX0_addLeaf_32, ↓tX0_addLeaf_33, ↓tX0_addLeaf_36, ↓tX0_addLeaf_37, ↓tX0_addLeaf_40, ↓tX0_addLeaf_41, ↓tX0_addLeaf_42, ↓tX0_addLeaf_43, ↓tX0_addLeaf_44, ↓tX0_addLeaf_45, ↓tX0_addLeaf_48, ↓tX0_addLeaf_49, ↓tX0_addLeaf_50, ↓tX0_addLeaf_51, ↓tX0_addLeaf_54, ↓tX0_addLeaf_57, ↓tX0_addLeaf_58, ↓tX0_addLeaf_61, ↓tX0_addLeaf_62, ↓tX0_addLeaf_63, ↓tX0_addLeaf_64, ↓tX0_addLeaf_65, ↓tX0_addLeaf_68, ↓tX0_addLeaf_69, ↓tX0_addLeaf_70, ↓tX0_addLeaf_71, ↓tX0_addLeaf_74, ↓tX0_addLeaf_75, ↓tX0_addLeaf_76, ↓tX0_addLeaf_77, ↓tX0_addLeaf_80, ↓tX0_addLeaf_81, ↓tX0_addLeaf_82, ↓tX0_addLeaf_83, ↓tX0_addLeaf_86, ↓tX0_addLeaf_87, ↓tX0_addLeaf_88, ↓tX0_addLeaf_89, ↓tX0_addLeaf_90, ↓tX0_addLeaf_93, ↓tX0_addLeaf_94, ↓tX0_addLeaf_95, ↓tX0_addLeaf_98, ↓oAdd, ↓oAl, ↓oAnd, ↓oDup, ↓oDup2, ↓oGet, ↓oGo, ↓oIald, ↓oIast, ↓oIf1lt, ↓oIf2ge, ↓oIf2lt, ↓oIf2ne, ↓oIl, ↓oInc, ↓oIs, ↓oK, ↓oOr, ↓oPutI, ↓oShl, ↓oShr, ↓oVret, ↓oZast, q_set_s, q_set_n, au_0, auO_len, q_up_a, auO_6, auO_4, au_a4, aus_a4, auO_0, au_a0, aus_a0, auO_1, au_a1, aus_a1, auO_2, au_a2, aus_a2, auOs_6, z_clamp, z_ltI, z_leI, z_eqI, z_lt0, z_ge0, z_eq0I, z_gt0I, z_le0I, z_m1lt, z_m1ge, z_m1eq, z_m1eq', z_inT, z_add, z_sub, z_mul, z_div, z_rem, n_ltT, n_ltF, n_leT, n_leF, n_eqT, n_eqF, q_tl_i, q_tl_n, q_ap_n, q_ap_c, h6]
  have h := loop 3 0 (A 4) (by omega) (fun q hq => by
    rw [if_neg (by omega), Nat.or_zero]
    exact htk q hq)
  rw [q_upid] at h
  refine q_X.lv2 _ ?_ h
  exact ⟨rfl, rfl, rfl, rfl, trivial⟩
set_option maxRecDepth 100000 in
set_option maxHeartbeats 4000000 in
theorem c0_after {S c : Nat} (hS : S < 65) (hc : c < 3) (hQ : Q (some (.int (A 5 (S * 3 + c)))) (q_au M0 i s A)) : q_Call G L d mX0_after 0 0 [.ref i, .int (nI S), .int (nI c)] (q_au M0 i s A) Q := by
  refine q_Call.of [(0, .ref i), (1, .int (nI S)), (2, .int (nI c))] rfl ?_
  refine q_X.run sX0_after [] 30 ?_
  simp (maxSteps := 10000000) (disch := omega) only [↓q_run_s, q_stop_n, q_stop_c, q_lg_c, q_ls_d, q_ld_n, q_ld_c, q_cat_i, q_cat_r, q_cat_n, q_wd_n, q_wd_c, q_bx_1, q_bx_2, q_bx_3, q_bx_4, q_bx_5, q_bx_6, q_bx_7, q_bx_8, q_pop_0, q_pop_s, ↓reduceIte, Nat.reduceEqDiff, reduceCtorEq, eq_self, Bool.false_eq_true, Nat.reduceAdd, Nat.reduceSub, Nat.reduceMul, Nat.reduceLeDiff, Nat.reduceLT, Nat.le_refl, Nat.zero_le, true_and, and_true, false_and, and_false, or_false, false_or, true_or, or_true, not_true_eq_false, not_false_eq_true, if_true, if_false, List.getElem?_cons_zero, List.getElem?_cons_succ, List.set_cons_zero, List.set_cons_succ, List.length_cons, List.length_nil, ↓tX0_after_0, ↓tX0_after_1, ↓tX0_after_2, ↓tX0_after_3, ↓tX0_after_4, ↓tX0_after_5, ↓tX0_after_6, ↓tX0_after_7, ↓tX0_after_10, ↓tX0_after_11, ↓tX0_after_12, ↓tX0_after_15, ↓tX0_after_16, ↓tX0_after_19, ↓tX0_after_20, ↓tX0_after_23, ↓tX0_after_24, ↓tX0_after_25, ↓tX0_after_28, ↓tX0_after_29, ↓oAdd, ↓oAl, ↓oAlen, ↓oGet, ↓oGo, ↓oIald, ↓oIf1lt, ↓oIf2ge, ↓oIl, ↓oIret, ↓oIs, ↓oK, ↓oMul, q_set_s, q_set_n, au_0, auO_len, q_up_a, auO_5, au_a5, z_clamp, z_ltI, z_leI, z_eqI, z_lt0, z_ge0, z_eq0I, z_gt0I, z_le0I, z_m1lt, z_m1ge, z_m1eq, z_m1eq', z_inT, z_add, z_sub, z_mul, z_div, z_rem, n_ltT, n_ltF, n_leT, n_leF, n_eqT, n_eqF, q_tl_i, q_tl_n, q_ap_n, q_ap_c]
  exact hQ
set_option maxRecDepth 100000 in
set_option maxHeartbeats 4000000 in
theorem c0_endsAt {S E : Nat} {b : Bool} (hS : S < 65) (h7 : s 7 = nI E) (hE : E < 64) (h8 : s 8 = if b = true then nI 1 else nI 0) (hT : (if S = 64 then b = true else S &&& E ≠ 0) → Q (some (.int (nI 1))) (q_au M0 i s A)) (hF : ¬ (if S = 64 then b = true else S &&& E ≠ 0) → Q (some (.int (nI 0))) (q_au M0 i s A)) : q_Call G L d mX0_endsAt 0 0 [.ref i, .int (nI S)] (q_au M0 i s A) Q := by
  refine q_Call.of [(0, .ref i), (1, .int (nI S))] rfl ?_
  have hl : S &&& E < 2147483648 := Nat.lt_of_le_of_lt Nat.and_le_right (by omega)
  by_cases c : S = 64
  · rw [if_pos c] at hT hF
    cases b with
    | true =>
      rw [if_pos rfl] at h8
      refine q_X.run sX0_endsAt [] 20 ?_
      simp (maxSteps := 10000000) (disch := omega) only [↓q_run_s, q_stop_n, q_stop_c, q_lg_c, q_ls_d, q_ld_n, q_ld_c, q_cat_i, q_cat_r, q_cat_n, q_wd_n, q_wd_c, q_bx_1, q_bx_2, q_bx_3, q_bx_4, q_bx_5, q_bx_6, q_bx_7, q_bx_8, q_pop_0, q_pop_s, ↓reduceIte, Nat.reduceEqDiff, reduceCtorEq, eq_self, Bool.false_eq_true, Nat.reduceAdd, Nat.reduceSub, Nat.reduceMul, Nat.reduceLeDiff, Nat.reduceLT, Nat.le_refl, Nat.zero_le, true_and, and_true, false_and, and_false, or_false, false_or, true_or, or_true, not_true_eq_false, not_false_eq_true, if_true, if_false, List.getElem?_cons_zero, List.getElem?_cons_succ, List.set_cons_zero, List.set_cons_succ, List.length_cons, List.length_nil, ↓tX0_endsAt_0, ↓tX0_endsAt_1, ↓tX0_endsAt_3, ↓tX0_endsAt_6, ↓tX0_endsAt_7, ↓tX0_endsAt_10, ↓tX0_endsAt_13, ↓tX0_endsAt_14, ↓tX0_endsAt_15, ↓tX0_endsAt_18, ↓tX0_endsAt_19, ↓tX0_endsAt_22, ↓tX0_endsAt_23, ↓tX0_endsAt_26, ↓tX0_endsAt_27, ↓oAl, ↓oAnd, ↓oGet, ↓oGo, ↓oIf1eq, ↓oIf2ne, ↓oIl, ↓oK, ↓oZret, q_set_s, q_set_n, au_0, auO_len, q_up_a, auO_8, auO_7, z_clamp, z_ltI, z_leI, z_eqI, z_lt0, z_ge0, z_eq0I, z_gt0I, z_le0I, z_m1lt, z_m1ge, z_m1eq, z_m1eq', z_inT, z_add, z_sub, z_mul, z_div, z_rem, n_ltT, n_ltF, n_leT, n_leF, n_eqT, n_eqF, q_tl_i, q_tl_n, q_ap_n, q_ap_c, c, h8, z_11]
      exact hT rfl
    | false =>
      rw [if_neg (by decide)] at h8
      refine q_X.run sX0_endsAt [] 20 ?_
      simp (maxSteps := 10000000) (disch := omega) only [↓q_run_s, q_stop_n, q_stop_c, q_lg_c, q_ls_d, q_ld_n, q_ld_c, q_cat_i, q_cat_r, q_cat_n, q_wd_n, q_wd_c, q_bx_1, q_bx_2, q_bx_3, q_bx_4, q_bx_5, q_bx_6, q_bx_7, q_bx_8, q_pop_0, q_pop_s, ↓reduceIte, Nat.reduceEqDiff, reduceCtorEq, eq_self, Bool.false_eq_true, Nat.reduceAdd, Nat.reduceSub, Nat.reduceMul, Nat.reduceLeDiff, Nat.reduceLT, Nat.le_refl, Nat.zero_le, true_and, and_true, false_and, and_false, or_false, false_or, true_or, or_true, not_true_eq_false, not_false_eq_true, if_true, if_false, List.getElem?_cons_zero, List.getElem?_cons_succ, List.set_cons_zero, List.set_cons_succ, List.length_cons, List.length_nil, ↓tX0_endsAt_0, ↓tX0_endsAt_1, ↓tX0_endsAt_3, ↓tX0_endsAt_6, ↓tX0_endsAt_7, ↓tX0_endsAt_10, ↓tX0_endsAt_13, ↓tX0_endsAt_14, ↓tX0_endsAt_15, ↓tX0_endsAt_18, ↓tX0_endsAt_19, ↓tX0_endsAt_22, ↓tX0_endsAt_23, ↓tX0_endsAt_26, ↓tX0_endsAt_27, ↓oAl, ↓oAnd, ↓oGet, ↓oGo, ↓oIf1eq, ↓oIf2ne, ↓oIl, ↓oK, ↓oZret, q_set_s, q_set_n, au_0, auO_len, q_up_a, auO_8, auO_7, z_clamp, z_ltI, z_leI, z_eqI, z_lt0, z_ge0, z_eq0I, z_gt0I, z_le0I, z_m1lt, z_m1ge, z_m1eq, z_m1eq', z_inT, z_add, z_sub, z_mul, z_div, z_rem, n_ltT, n_ltF, n_leT, n_leF, n_eqT, n_eqF, q_tl_i, q_tl_n, q_ap_n, q_ap_c, c, h8, z_11]
      exact hF (by decide)
  · rw [if_neg c] at hT hF
    by_cases e : S &&& E = 0
    · refine q_X.run sX0_endsAt [] 20 ?_
      simp (maxSteps := 10000000) (disch := omega) only [↓q_run_s, q_stop_n, q_stop_c, q_lg_c, q_ls_d, q_ld_n, q_ld_c, q_cat_i, q_cat_r, q_cat_n, q_wd_n, q_wd_c, q_bx_1, q_bx_2, q_bx_3, q_bx_4, q_bx_5, q_bx_6, q_bx_7, q_bx_8, q_pop_0, q_pop_s, ↓reduceIte, Nat.reduceEqDiff, reduceCtorEq, eq_self, Bool.false_eq_true, Nat.reduceAdd, Nat.reduceSub, Nat.reduceMul, Nat.reduceLeDiff, Nat.reduceLT, Nat.le_refl, Nat.zero_le, true_and, and_true, false_and, and_false, or_false, false_or, true_or, or_true, not_true_eq_false, not_false_eq_true, if_true, if_false, List.getElem?_cons_zero, List.getElem?_cons_succ, List.set_cons_zero, List.set_cons_succ, List.length_cons, List.length_nil, ↓tX0_endsAt_0, ↓tX0_endsAt_1, ↓tX0_endsAt_3, ↓tX0_endsAt_6, ↓tX0_endsAt_7, ↓tX0_endsAt_10, ↓tX0_endsAt_13, ↓tX0_endsAt_14, ↓tX0_endsAt_15, ↓tX0_endsAt_18, ↓tX0_endsAt_19, ↓tX0_endsAt_22, ↓tX0_endsAt_23, ↓tX0_endsAt_26, ↓tX0_endsAt_27, ↓oAl, ↓oAnd, ↓oGet, ↓oGo, ↓oIf1eq, ↓oIf2ne, ↓oIl, ↓oK, ↓oZret, q_set_s, q_set_n, au_0, auO_len, q_up_a, auO_8, auO_7, z_clamp, z_ltI, z_leI, z_eqI, z_lt0, z_ge0, z_eq0I, z_gt0I, z_le0I, z_m1lt, z_m1ge, z_m1eq, z_m1eq', z_inT, z_add, z_sub, z_mul, z_div, z_rem, n_ltT, n_ltF, n_leT, n_leF, n_eqT, n_eqF, q_tl_i, q_tl_n, q_ap_n, q_ap_c, c, h7, z_and, e, z_11]
      exact hF (fun h => h e)
    · refine q_X.run sX0_endsAt [] 20 ?_
      simp (maxSteps := 10000000) (disch := omega) only [↓q_run_s, q_stop_n, q_stop_c, q_lg_c, q_ls_d, q_ld_n, q_ld_c, q_cat_i, q_cat_r, q_cat_n, q_wd_n, q_wd_c, q_bx_1, q_bx_2, q_bx_3, q_bx_4, q_bx_5, q_bx_6, q_bx_7, q_bx_8, q_pop_0, q_pop_s, ↓reduceIte, Nat.reduceEqDiff, reduceCtorEq, eq_self, Bool.false_eq_true, Nat.reduceAdd, Nat.reduceSub, Nat.reduceMul, Nat.reduceLeDiff, Nat.reduceLT, Nat.le_refl, Nat.zero_le, true_and, and_true, false_and, and_false, or_false, false_or, true_or, or_true, not_true_eq_false, not_false_eq_true, if_true, if_false, List.getElem?_cons_zero, List.getElem?_cons_succ, List.set_cons_zero, List.set_cons_succ, List.length_cons, List.length_nil, ↓tX0_endsAt_0, ↓tX0_endsAt_1, ↓tX0_endsAt_3, ↓tX0_endsAt_6, ↓tX0_endsAt_7, ↓tX0_endsAt_10, ↓tX0_endsAt_13, ↓tX0_endsAt_14, ↓tX0_endsAt_15, ↓tX0_endsAt_18, ↓tX0_endsAt_19, ↓tX0_endsAt_22, ↓tX0_endsAt_23, ↓tX0_endsAt_26, ↓tX0_endsAt_27, ↓oAl, ↓oAnd, ↓oGet, ↓oGo, ↓oIf1eq, ↓oIf2ne, ↓oIl, ↓oK, ↓oZret, q_set_s, q_set_n, au_0, auO_len, q_up_a, auO_8, auO_7, z_clamp, z_ltI, z_leI, z_eqI, z_lt0, z_ge0, z_eq0I, z_gt0I, z_le0I, z_m1lt, z_m1ge, z_m1eq, z_m1eq', z_inT, z_add, z_sub, z_mul, z_div, z_rem, n_ltT, n_ltF, n_leT, n_leF, n_eqT, n_eqF, q_tl_i, q_tl_n, q_ap_n, q_ap_c, c, h7, z_and, e, z_11]
      exact hT e
end
