/-! the class's Spans: a row laid, nodes filled -/
theorem spE_none {i n : Nat} {B : Nat → Nat → Int64} {q : Nat} (h : 3 ≤ q) : spE i n B q = none := by
  obtain ⟨q, rfl⟩ : ∃ k, q = k + 3 := ⟨q - 3, by omega⟩
  rfl
theorem sp_isN {M : qM} {i n j nn sz : Nat} {B : Nat → Nat → Int64} {k l r : Nat → Int32} (h : q_isN M j nn k l r sz) (hd : j + 4 ≤ i ∨ i + 3 ≤ j) : q_isN (q_sp M i n B) j nn k l r sz := h.og fun q hq => by
  by_cases c : j + q < i
  · exact Or.inl c
  · exact Or.inr (spE_none (by omega))
theorem lu_s (f : Nat → Int64) (k : Nat) (v : Int64) : vp_updL f k v k = v := by simp [vp_updL]
theorem lu_n (f : Nat → Int64) {k j : Nat} (v : Int64) (h : j ≠ k) : vp_updL f k v j = f j := by simp [vp_updL, h]
section
variable {G : qC} {L : Launch} {d : Nat} {M : qM} {Q : Option Value → qM → Prop}
set_option maxRecDepth 100000 in
set_option maxHeartbeats 8000000 in
theorem cJ_fillL {p n : Nat} {f : Nat → Int64} {v : Int64} (hn : n < 1000000) (hM : M.2 p = some (.inl (2, n, .inr (.inl f)))) (hQ : ∀ g : Nat → Int64, (∀ q, q < n → g q = v) → Q none (q_set M p (.inl (2, n, .inr (.inl g))))) : q_Call G L d mJ7_fill_d0a16 0 0 [.ref p, .long v] M Q := by
  have loop : ∀ (g j : Nat) (f : Nat → Int64), g + j = n → (∀ q, q < j → f q = v) → q_X G L d mJ7_fill_d0a16 0 0 Q 6 [(0, .ref p), (1, .long v), (3, .int (nI j)), (4, .int (nI n))] [] (q_set M p (.inl (2, n, .inr (.inl f)))) 0 0 := by
    intro g
    induction g with
    | zero =>
      intro j f hj hf
      have e : j = n := by omega
      subst e
      have h' := hQ f hf
      refine q_X.run sJ7_fill_d0a16 [] 20 ?_
      simp (maxSteps := 10000000) (disch := omega) only [↓q_run_s, q_stop_n, q_stop_c, q_lg_c, q_ls_d, q_ld_n, q_ld_c, q_cat_i, q_cat_r, q_cat_n, q_wd_n, q_wd_c, q_bx_1, q_bx_2, q_bx_3, q_bx_4, q_bx_5, q_bx_6, q_bx_7, q_bx_8, q_pop_0, q_pop_s, ↓reduceIte, Nat.reduceEqDiff, reduceCtorEq, eq_self, Bool.false_eq_true, Nat.reduceAdd, Nat.reduceSub, Nat.reduceMul, Nat.reduceLeDiff, Nat.reduceLT, Nat.le_refl, Nat.zero_le, true_and, and_true, false_and, and_false, or_false, false_or, true_or, or_true, not_true_eq_false, not_false_eq_true, if_true, if_false, List.getElem?_cons_zero, List.getElem?_cons_succ, List.set_cons_zero, List.set_cons_succ, List.length_cons, List.length_nil, ↓tJ7_fill_d0a16_0, ↓tJ7_fill_d0a16_1, ↓tJ7_fill_d0a16_2, ↓tJ7_fill_d0a16_3, ↓tJ7_fill_d0a16_4, ↓tJ7_fill_d0a16_6, ↓tJ7_fill_d0a16_7, ↓tJ7_fill_d0a16_9, ↓tJ7_fill_d0a16_12, ↓tJ7_fill_d0a16_13, ↓tJ7_fill_d0a16_14, ↓tJ7_fill_d0a16_15, ↓tJ7_fill_d0a16_16, ↓tJ7_fill_d0a16_19, ↓tJ7_fill_d0a16_22, ↓oAl, ↓oAlen, ↓oGo, ↓oIf2ge, ↓oIl, ↓oInc, ↓oIs, ↓oK, ↓oLast, ↓oLl, ↓oVret, q_ls2_d, q_ld1_n, q_ld1_c, q_cat_l, q_set_s, q_set_n, z_clamp, z_ltI, z_leI, z_eqI, z_lt0, z_ge0, z_eq0I, z_gt0I, z_le0I, z_m1lt, z_m1ge, z_m1eq, z_m1eq', z_inT, z_add, z_sub, z_mul, z_div, z_rem, n_ltT, n_ltF, n_leT, n_leF, n_eqT, n_eqF, z_11, q_tl_i, q_tl_n, q_ap_n, q_ap_c]
      exact h'
    | succ g ih =>
      intro j f hj hf
      have h' := fun f' => ih (j + 1) f' (by omega)
      refine q_X.run sJ7_fill_d0a16 [6] 20 ?_
      simp (maxSteps := 10000000) (disch := omega) only [↓q_run_s, q_stop_n, q_stop_c, q_lg_c, q_ls_d, q_ld_n, q_ld_c, q_cat_i, q_cat_r, q_cat_n, q_wd_n, q_wd_c, q_bx_1, q_bx_2, q_bx_3, q_bx_4, q_bx_5, q_bx_6, q_bx_7, q_bx_8, q_pop_0, q_pop_s, ↓reduceIte, Nat.reduceEqDiff, reduceCtorEq, eq_self, Bool.false_eq_true, Nat.reduceAdd, Nat.reduceSub, Nat.reduceMul, Nat.reduceLeDiff, Nat.reduceLT, Nat.le_refl, Nat.zero_le, true_and, and_true, false_and, and_false, or_false, false_or, true_or, or_true, not_true_eq_false, not_false_eq_true, if_true, if_false, List.getElem?_cons_zero, List.getElem?_cons_succ, List.set_cons_zero, List.set_cons_succ, List.length_cons, List.length_nil, ↓tJ7_fill_d0a16_0, ↓tJ7_fill_d0a16_1, ↓tJ7_fill_d0a16_2, ↓tJ7_fill_d0a16_3, ↓tJ7_fill_d0a16_4, ↓tJ7_fill_d0a16_6, ↓tJ7_fill_d0a16_7, ↓tJ7_fill_d0a16_9, ↓tJ7_fill_d0a16_12, ↓tJ7_fill_d0a16_13, ↓tJ7_fill_d0a16_14, ↓tJ7_fill_d0a16_15, ↓tJ7_fill_d0a16_16, ↓tJ7_fill_d0a16_19, ↓tJ7_fill_d0a16_22, ↓oAl, ↓oAlen, ↓oGo, ↓oIf2ge, ↓oIl, ↓oInc, ↓oIs, ↓oK, ↓oLast, ↓oLl, ↓oVret, q_ls2_d, q_ld1_n, q_ld1_c, q_cat_l, q_set_s, q_set_n, z_clamp, z_ltI, z_leI, z_eqI, z_lt0, z_ge0, z_eq0I, z_gt0I, z_le0I, z_m1lt, z_m1ge, z_m1eq, z_m1eq', z_inT, z_add, z_sub, z_mul, z_div, z_rem, n_ltT, n_ltF, n_leT, n_leF, n_eqT, n_eqF, z_11, q_tl_i, q_tl_n, q_ap_n, q_ap_c, q_set_set]
      refine q_X.lv2 [(0, .ref p), (1, .long v), (3, .int (nI (j + 1))), (4, .int (nI n))] ⟨rfl, rfl, rfl, rfl, trivial⟩ (h' _ ?_)
      intro q hq
      rcases Nat.lt_or_eq_of_le (Nat.le_of_lt_succ hq) with g | g
      · rw [lu_n _ _ (by omega)]; exact hf q g
      · rw [g, lu_s]
  have h' := loop n 0 f (by omega) (fun q hq => absurd hq (by omega))
  rw [q_set_id hM] at h'
  refine q_Call.of [(0, .ref p), (1, .long v)] rfl ?_
  refine q_X.run sJ7_fill_d0a16 [6] 20 ?_
  simp (maxSteps := 10000000) (disch := omega) only [↓q_run_s, q_stop_n, q_stop_c, q_lg_c, q_ls_d, q_ld_n, q_ld_c, q_cat_i, q_cat_r, q_cat_n, q_wd_n, q_wd_c, q_bx_1, q_bx_2, q_bx_3, q_bx_4, q_bx_5, q_bx_6, q_bx_7, q_bx_8, q_pop_0, q_pop_s, ↓reduceIte, Nat.reduceEqDiff, reduceCtorEq, eq_self, Bool.false_eq_true, Nat.reduceAdd, Nat.reduceSub, Nat.reduceMul, Nat.reduceLeDiff, Nat.reduceLT, Nat.le_refl, Nat.zero_le, true_and, and_true, false_and, and_false, or_false, false_or, true_or, or_true, not_true_eq_false, not_false_eq_true, if_true, if_false, List.getElem?_cons_zero, List.getElem?_cons_succ, List.set_cons_zero, List.set_cons_succ, List.length_cons, List.length_nil, ↓tJ7_fill_d0a16_0, ↓tJ7_fill_d0a16_1, ↓tJ7_fill_d0a16_2, ↓tJ7_fill_d0a16_3, ↓tJ7_fill_d0a16_4, ↓tJ7_fill_d0a16_6, ↓tJ7_fill_d0a16_7, ↓tJ7_fill_d0a16_9, ↓tJ7_fill_d0a16_12, ↓tJ7_fill_d0a16_13, ↓tJ7_fill_d0a16_14, ↓tJ7_fill_d0a16_15, ↓tJ7_fill_d0a16_16, ↓tJ7_fill_d0a16_19, ↓tJ7_fill_d0a16_22, ↓oAl, ↓oAlen, ↓oGo, ↓oIf2ge, ↓oIl, ↓oInc, ↓oIs, ↓oK, ↓oLast, ↓oLl, ↓oVret, q_ls2_d, q_ld1_n, q_ld1_c, q_cat_l, q_set_s, q_set_n, z_clamp, z_ltI, z_leI, z_eqI, z_lt0, z_ge0, z_eq0I, z_gt0I, z_le0I, z_m1lt, z_m1ge, z_m1eq, z_m1eq', z_inT, z_add, z_sub, z_mul, z_div, z_rem, n_ltT, n_ltF, n_leT, n_leF, n_eqT, n_eqF, z_11, q_tl_i, q_tl_n, q_ap_n, q_ap_c, hM]
  refine q_X.lv2 _ ?_ h'
  exact ⟨rfl, rfl, rfl, rfl, trivial⟩
variable {M0 : qM} {i n : Nat} {B : Nat → Nat → Int64} {w : Nat → Nat} {len : Nat}
/-- the letters of a row, laid up to a place -/
def s_Lt (w : Nat → Nat) (at' : Nat) (B : Nat → Nat → Int64) : Prop := ∀ c, c < 3 → ∃ X, B 1 c = nL X ∧ X < 18446744073709551616 ∧ ∀ j, X.testBit j = true ↔ ∃ b, b < at' ∧ w b = c ∧ j = 9 * b + 1
theorem s_Lt_W {w : Nat → Nat} {len : Nat} {B : Nat → Nat → Int64} (hl : len ≤ 6) (h : s_Lt w len B) {c : Nat} (hc : c < 3) : ∃ X, B 1 c = nL X ∧ s_W len X (fun b e => b < len ∧ e = b + 1 ∧ w b = c) := by
  obtain ⟨X, h1, h2, h3⟩ := h c hc
  refine ⟨X, h1, h2, fun b e hb he => ?_⟩
  rw [h3]
  constructor
  · rintro ⟨b', g1, g2, g3⟩
    have e1 : b' = b := by omega
    subst e1
    exact ⟨g1, by omega, g2⟩
  · rintro ⟨g1, g2, g3⟩
    exact ⟨b, g1, g3, by omega⟩
set_option maxRecDepth 100000 in
set_option maxHeartbeats 8000000 in
theorem c8_lay {N : Nat} (hN : N < 2147483648) (hl : len ≤ 6) (hd : 1 ≤ d) (hQ : ∀ B', B' 0 = B 0 → s_Lt (w_at N len) len B' → Q none (q_sp M0 i n B')) : q_Call G L d mX8_lay 0 0 [.ref i, .int (nI N), .int (nI len)] (q_sp M0 i n B) Q := by
  have loop : ∀ (g a : Nat) (B' : Nat → Nat → Int64), g + a = len → B' 0 = B 0 → s_Lt (w_at N len) a B' → q_X G L d mX8_lay 0 0 Q 10 [(0, .ref i), (1, .int (nI N)), (2, .int (nI len)), (3, .int (nI a))] [] (q_sp M0 i n B') 0 0 := by
    intro g
    induction g with
    | zero =>
      intro a B' ha hB hL
      have e : a = len := by omega
      subst e
      have h' := hQ B' hB hL
      refine q_X.run sX8_lay [] 20 ?_
      simp (maxSteps := 10000000) (disch := omega) only [↓q_run_s, q_stop_n, q_stop_c, q_lg_c, q_ls_d, q_ld_n, q_ld_c, q_cat_i, q_cat_r, q_cat_n, q_wd_n, q_wd_c, q_bx_1, q_bx_2, q_bx_3, q_bx_4, q_bx_5, q_bx_6, q_bx_7, q_bx_8, q_pop_0, q_pop_s, ↓reduceIte, Nat.reduceEqDiff, reduceCtorEq, eq_self, Bool.false_eq_true, Nat.reduceAdd, Nat.reduceSub, Nat.reduceMul, Nat.reduceLeDiff, Nat.reduceLT, Nat.le_refl, Nat.zero_le, true_and, and_true, false_and, and_false, or_false, false_or, true_or, or_true, not_true_eq_false, not_false_eq_true, if_true, if_false, List.getElem?_cons_zero, List.getElem?_cons_succ, List.set_cons_zero, List.set_cons_succ, List.length_cons, List.length_nil, ↓tX8_lay_0, ↓tX8_lay_1, ↓tX8_lay_4, ↓tX8_lay_5, ↓tX8_lay_8, ↓tX8_lay_9, ↓tX8_lay_10, ↓tX8_lay_11, ↓tX8_lay_12, ↓tX8_lay_15, ↓tX8_lay_16, ↓tX8_lay_18, ↓tX8_lay_21, ↓tX8_lay_22, ↓tX8_lay_23, ↓tX8_lay_24, ↓tX8_lay_27, ↓tX8_lay_29, ↓tX8_lay_31, ↓tX8_lay_34, ↓tX8_lay_36, ↓tX8_lay_37, ↓tX8_lay_40, ↓tX8_lay_41, ↓tX8_lay_44, ↓tX8_lay_46, ↓tX8_lay_47, ↓tX8_lay_48, ↓tX8_lay_49, ↓tX8_lay_51, ↓tX8_lay_52, ↓tX8_lay_53, ↓tX8_lay_54, ↓tX8_lay_55, ↓tX8_lay_56, ↓tX8_lay_57, ↓tX8_lay_58, ↓tX8_lay_59, ↓tX8_lay_60, ↓tX8_lay_63, ↓tX8_lay_66, ↓oAdd, ↓oAl, ↓oCallS, ↓oDup2, ↓oGet, ↓oGo, ↓oIf1lt, ↓oIf2ge, ↓oIl, ↓oInc, ↓oIs, ↓oK, ↓oLald, ↓oLast, ↓oLor, ↓oLshl, ↓oMul, ↓oVret, q_set_s, q_set_n, sp_0, spO_len, q_up_a, spO_1, sp_a1, sps_a1, z_clamp, z_ltI, z_leI, z_eqI, z_lt0, z_ge0, z_eq0I, z_gt0I, z_le0I, z_m1lt, z_m1ge, z_m1eq, z_m1eq', z_inT, z_add, z_sub, z_mul, z_div, z_rem, n_ltT, n_ltF, n_leT, n_leF, n_eqT, n_eqF, z_11, q_tl_i, q_tl_n, q_ap_n, q_ap_c]
      exact h'
    | succ g ih =>
      intro a B' ha hB hL
      have hw := w_at_lt N len a
      obtain ⟨X, x1, x2, x3⟩ := hL (w_at N len a) hw
      have e9 : 8 * a + a + 1 = 9 * a + 1 := by omega
      have h' := ih (a + 1) (va_up B' 1 (vp_updL (B' 1) (w_at N len a) (nL (X ||| 2 ^ (8 * a + a + 1))))) (by omega) (by rw [va_up_ne _ _ (by decide)]; exact hB) (fun c hc => by
        rw [va_up_self]
        by_cases cc : c = w_at N len a
        · subst cc
          refine ⟨X ||| 2 ^ (8 * a + a + 1), lu_s _ _ _, Nat.or_lt_two_pow (n := 64) x2 (Nat.pow_lt_pow_right (by decide) (by omega)), fun j => ?_⟩
          rw [Nat.testBit_or, Bool.or_eq_true, x3, Nat.testBit_two_pow, decide_eq_true_iff, e9]
          constructor
          · rintro (⟨b, g1, g2, g3⟩ | g)
            · exact ⟨b, by omega, g2, g3⟩
            · exact ⟨a, by omega, rfl, g.symm⟩
          · rintro ⟨b, g1, g2, g3⟩
            rcases Nat.lt_or_eq_of_le (Nat.le_of_lt_succ g1) with g | g
            · exact Or.inl ⟨b, g, g2, g3⟩
            · subst g; exact Or.inr g3.symm
        · obtain ⟨Y, y1, y2, y3⟩ := hL c hc
          refine ⟨Y, by rw [lu_n _ _ cc]; exact y1, y2, fun j => ?_⟩
          rw [y3]
          constructor
          · rintro ⟨b, g1, g2, g3⟩
            exact ⟨b, by omega, g2, g3⟩
          · rintro ⟨b, g1, g2, g3⟩
            rcases Nat.lt_or_eq_of_le (Nat.le_of_lt_succ g1) with g | g
            · exact ⟨b, g, g2, g3⟩
            · subst g; exact absurd g2.symm cc)
      refine q_X.run sX8_lay [] 20 ?_
      simp (maxSteps := 10000000) (disch := omega) only [↓q_run_s, q_stop_n, q_stop_c, q_lg_c, q_ls_d, q_ld_n, q_ld_c, q_cat_i, q_cat_r, q_cat_n, q_wd_n, q_wd_c, q_bx_1, q_bx_2, q_bx_3, q_bx_4, q_bx_5, q_bx_6, q_bx_7, q_bx_8, q_pop_0, q_pop_s, ↓reduceIte, Nat.reduceEqDiff, reduceCtorEq, eq_self, Bool.false_eq_true, Nat.reduceAdd, Nat.reduceSub, Nat.reduceMul, Nat.reduceLeDiff, Nat.reduceLT, Nat.le_refl, Nat.zero_le, true_and, and_true, false_and, and_false, or_false, false_or, true_or, or_true, not_true_eq_false, not_false_eq_true, if_true, if_false, List.getElem?_cons_zero, List.getElem?_cons_succ, List.set_cons_zero, List.set_cons_succ, List.length_cons, List.length_nil, ↓tX8_lay_0, ↓tX8_lay_1, ↓tX8_lay_4, ↓tX8_lay_5, ↓tX8_lay_8, ↓tX8_lay_9, ↓tX8_lay_10, ↓tX8_lay_11, ↓tX8_lay_12, ↓tX8_lay_15, ↓tX8_lay_16, ↓tX8_lay_18, ↓tX8_lay_21, ↓tX8_lay_22, ↓tX8_lay_23, ↓tX8_lay_24, ↓tX8_lay_27, ↓tX8_lay_29, ↓tX8_lay_31, ↓tX8_lay_34, ↓tX8_lay_36, ↓tX8_lay_37, ↓tX8_lay_40, ↓tX8_lay_41, ↓tX8_lay_44, ↓tX8_lay_46, ↓tX8_lay_47, ↓tX8_lay_48, ↓tX8_lay_49, ↓tX8_lay_51, ↓tX8_lay_52, ↓tX8_lay_53, ↓tX8_lay_54, ↓tX8_lay_55, ↓tX8_lay_56, ↓tX8_lay_57, ↓tX8_lay_58, ↓tX8_lay_59, ↓tX8_lay_60, ↓tX8_lay_63, ↓tX8_lay_66, ↓oAdd, ↓oAl, ↓oCallS, ↓oDup2, ↓oGet, ↓oGo, ↓oIf1lt, ↓oIf2ge, ↓oIl, ↓oInc, ↓oIs, ↓oK, ↓oLald, ↓oLast, ↓oLor, ↓oLshl, ↓oMul, ↓oVret, q_set_s, q_set_n, sp_0, spO_len, q_up_a, spO_1, sp_a1, sps_a1, z_clamp, z_ltI, z_leI, z_eqI, z_lt0, z_ge0, z_eq0I, z_gt0I, z_le0I, z_m1lt, z_m1ge, z_m1eq, z_m1eq', z_inT, z_add, z_sub, z_mul, z_div, z_rem, n_ltT, n_ltF, n_leT, n_leF, n_eqT, n_eqF, z_11, q_tl_i, q_tl_n, q_ap_n, q_ap_c]
      refine c11_letterAt hN (by omega) (by omega) ?_
      generalize w_at N len a = wa at *
      refine q_X.run sX8_lay [10] 60 ?_
      simp (maxSteps := 10000000) (disch := omega) only [↓q_run_s, q_stop_n, q_stop_c, q_lg_c, q_ls_d, q_ld_n, q_ld_c, q_cat_i, q_cat_r, q_cat_n, q_wd_n, q_wd_c, q_bx_1, q_bx_2, q_bx_3, q_bx_4, q_bx_5, q_bx_6, q_bx_7, q_bx_8, q_pop_0, q_pop_s, ↓reduceIte, Nat.reduceEqDiff, reduceCtorEq, eq_self, Bool.false_eq_true, Nat.reduceAdd, Nat.reduceSub, Nat.reduceMul, Nat.reduceLeDiff, Nat.reduceLT, Nat.le_refl, Nat.zero_le, true_and, and_true, false_and, and_false, or_false, false_or, true_or, or_true, not_true_eq_false, not_false_eq_true, if_true, if_false, List.getElem?_cons_zero, List.getElem?_cons_succ, List.set_cons_zero, List.set_cons_succ, List.length_cons, List.length_nil, ↓tX8_lay_0, ↓tX8_lay_1, ↓tX8_lay_4, ↓tX8_lay_5, ↓tX8_lay_8, ↓tX8_lay_9, ↓tX8_lay_10, ↓tX8_lay_11, ↓tX8_lay_12, ↓tX8_lay_15, ↓tX8_lay_16, ↓tX8_lay_18, ↓tX8_lay_21, ↓tX8_lay_22, ↓tX8_lay_23, ↓tX8_lay_24, ↓tX8_lay_27, ↓tX8_lay_29, ↓tX8_lay_31, ↓tX8_lay_34, ↓tX8_lay_36, ↓tX8_lay_37, ↓tX8_lay_40, ↓tX8_lay_41, ↓tX8_lay_44, ↓tX8_lay_46, ↓tX8_lay_47, ↓tX8_lay_48, ↓tX8_lay_49, ↓tX8_lay_51, ↓tX8_lay_52, ↓tX8_lay_53, ↓tX8_lay_54, ↓tX8_lay_55, ↓tX8_lay_56, ↓tX8_lay_57, ↓tX8_lay_58, ↓tX8_lay_59, ↓tX8_lay_60, ↓tX8_lay_63, ↓tX8_lay_66, ↓oAdd, ↓oAl, ↓oCallS, ↓oDup2, ↓oGet, ↓oGo, ↓oIf1lt, ↓oIf2ge, ↓oIl, ↓oInc, ↓oIs, ↓oK, ↓oLald, ↓oLast, ↓oLor, ↓oLshl, ↓oMul, ↓oVret, q_set_s, q_set_n, sp_0, spO_len, q_up_a, spO_1, sp_a1, sps_a1, z_clamp, z_ltI, z_leI, z_eqI, z_lt0, z_ge0, z_eq0I, z_gt0I, z_le0I, z_m1lt, z_m1ge, z_m1eq, z_m1eq', z_inT, z_add, z_sub, z_mul, z_div, z_rem, n_ltT, n_ltF, n_leT, n_leF, n_eqT, n_eqF, z_11, q_tl_i, q_tl_n, q_ap_n, q_ap_c, x1, l_shl1, l_or]
      refine q_X.lv2 _ ?_ h'
      exact ⟨rfl, rfl, rfl, rfl, trivial⟩
  refine q_Call.of [(0, .ref i), (1, .int (nI N)), (2, .int (nI len))] rfl ?_
  refine q_X.run sX8_lay [] 20 ?_
  simp (maxSteps := 10000000) (disch := omega) only [↓q_run_s, q_stop_n, q_stop_c, q_lg_c, q_ls_d, q_ld_n, q_ld_c, q_cat_i, q_cat_r, q_cat_n, q_wd_n, q_wd_c, q_bx_1, q_bx_2, q_bx_3, q_bx_4, q_bx_5, q_bx_6, q_bx_7, q_bx_8, q_pop_0, q_pop_s, ↓reduceIte, Nat.reduceEqDiff, reduceCtorEq, eq_self, Bool.false_eq_true, Nat.reduceAdd, Nat.reduceSub, Nat.reduceMul, Nat.reduceLeDiff, Nat.reduceLT, Nat.le_refl, Nat.zero_le, true_and, and_true, false_and, and_false, or_false, false_or, true_or, or_true, not_true_eq_false, not_false_eq_true, if_true, if_false, List.getElem?_cons_zero, List.getElem?_cons_succ, List.set_cons_zero, List.set_cons_succ, List.length_cons, List.length_nil, ↓tX8_lay_0, ↓tX8_lay_1, ↓tX8_lay_4, ↓tX8_lay_5, ↓tX8_lay_8, ↓tX8_lay_9, ↓tX8_lay_10, ↓tX8_lay_11, ↓tX8_lay_12, ↓tX8_lay_15, ↓tX8_lay_16, ↓tX8_lay_18, ↓tX8_lay_21, ↓tX8_lay_22, ↓tX8_lay_23, ↓tX8_lay_24, ↓tX8_lay_27, ↓tX8_lay_29, ↓tX8_lay_31, ↓tX8_lay_34, ↓tX8_lay_36, ↓tX8_lay_37, ↓tX8_lay_40, ↓tX8_lay_41, ↓tX8_lay_44, ↓tX8_lay_46, ↓tX8_lay_47, ↓tX8_lay_48, ↓tX8_lay_49, ↓tX8_lay_51, ↓tX8_lay_52, ↓tX8_lay_53, ↓tX8_lay_54, ↓tX8_lay_55, ↓tX8_lay_56, ↓tX8_lay_57, ↓tX8_lay_58, ↓tX8_lay_59, ↓tX8_lay_60, ↓tX8_lay_63, ↓tX8_lay_66, ↓oAdd, ↓oAl, ↓oCallS, ↓oDup2, ↓oGet, ↓oGo, ↓oIf1lt, ↓oIf2ge, ↓oIl, ↓oInc, ↓oIs, ↓oK, ↓oLald, ↓oLast, ↓oLor, ↓oLshl, ↓oMul, ↓oVret, q_set_s, q_set_n, sp_0, spO_len, q_up_a, spO_1, sp_a1, sps_a1, z_clamp, z_ltI, z_leI, z_eqI, z_lt0, z_ge0, z_eq0I, z_gt0I, z_le0I, z_m1lt, z_m1ge, z_m1eq, z_m1eq', z_inT, z_add, z_sub, z_mul, z_div, z_rem, n_ltT, n_ltF, n_leT, n_leF, n_eqT, n_eqF, z_11, q_tl_i, q_tl_n, q_ap_n, q_ap_c]
  refine ⟨by decide, ?_⟩
  refine cJ_fillL (by decide) sp_a1 fun g hg => ?_
  rw [sps_a1]
  have h' := loop len 0 (va_up B 1 g) (by omega) (va_up_ne _ _ (by decide)) (fun c hc => ⟨0, by rw [va_up_self, hg c hc]; rfl, by decide, fun j => by
    rw [Nat.zero_testBit]
    exact ⟨fun h => (by cases h), fun ⟨b, h, _⟩ => absurd h (by omega)⟩⟩)
  refine q_X.run sX8_lay [10] 20 ?_
  simp (maxSteps := 10000000) (disch := omega) only [↓q_run_s, q_stop_n, q_stop_c, q_lg_c, q_ls_d, q_ld_n, q_ld_c, q_cat_i, q_cat_r, q_cat_n, q_wd_n, q_wd_c, q_bx_1, q_bx_2, q_bx_3, q_bx_4, q_bx_5, q_bx_6, q_bx_7, q_bx_8, q_pop_0, q_pop_s, ↓reduceIte, Nat.reduceEqDiff, reduceCtorEq, eq_self, Bool.false_eq_true, Nat.reduceAdd, Nat.reduceSub, Nat.reduceMul, Nat.reduceLeDiff, Nat.reduceLT, Nat.le_refl, Nat.zero_le, true_and, and_true, false_and, and_false, or_false, false_or, true_or, or_true, not_true_eq_false, not_false_eq_true, if_true, if_false, List.getElem?_cons_zero, List.getElem?_cons_succ, List.set_cons_zero, List.set_cons_succ, List.length_cons, List.length_nil, ↓tX8_lay_0, ↓tX8_lay_1, ↓tX8_lay_4, ↓tX8_lay_5, ↓tX8_lay_8, ↓tX8_lay_9, ↓tX8_lay_10, ↓tX8_lay_11, ↓tX8_lay_12, ↓tX8_lay_15, ↓tX8_lay_16, ↓tX8_lay_18, ↓tX8_lay_21, ↓tX8_lay_22, ↓tX8_lay_23, ↓tX8_lay_24, ↓tX8_lay_27, ↓tX8_lay_29, ↓tX8_lay_31, ↓tX8_lay_34, ↓tX8_lay_36, ↓tX8_lay_37, ↓tX8_lay_40, ↓tX8_lay_41, ↓tX8_lay_44, ↓tX8_lay_46, ↓tX8_lay_47, ↓tX8_lay_48, ↓tX8_lay_49, ↓tX8_lay_51, ↓tX8_lay_52, ↓tX8_lay_53, ↓tX8_lay_54, ↓tX8_lay_55, ↓tX8_lay_56, ↓tX8_lay_57, ↓tX8_lay_58, ↓tX8_lay_59, ↓tX8_lay_60, ↓tX8_lay_63, ↓tX8_lay_66, ↓oAdd, ↓oAl, ↓oCallS, ↓oDup2, ↓oGet, ↓oGo, ↓oIf1lt, ↓oIf2ge, ↓oIl, ↓oInc, ↓oIs, ↓oK, ↓oLald, ↓oLast, ↓oLor, ↓oLshl, ↓oMul, ↓oVret, q_set_s, q_set_n, sp_0, spO_len, q_up_a, spO_1, sp_a1, sps_a1, z_clamp, z_ltI, z_leI, z_eqI, z_lt0, z_ge0, z_eq0I, z_gt0I, z_le0I, z_m1lt, z_m1ge, z_m1eq, z_m1eq', z_inT, z_add, z_sub, z_mul, z_div, z_rem, n_ltT, n_ltF, n_leT, n_leF, n_eqT, n_eqF, z_11, q_tl_i, q_tl_n, q_ap_n, q_ap_c]
  refine q_X.lv2 _ ?_ h'
  exact ⟨rfl, rfl, rfl, rfl, trivial⟩
set_option maxRecDepth 100000 in
set_option maxHeartbeats 8000000 in
theorem c8_of {q : Nat} (hq : q < n) (hn : n < 100000) (hQ : Q (some (.long (B 0 q))) (q_sp M0 i n B)) : q_Call G L d mX8_of 0 0 [.ref i, .int (nI q)] (q_sp M0 i n B) Q := by
  refine q_Call.of [(0, .ref i), (1, .int (nI q))] rfl ?_
  refine q_X.run sX8_of [] 20 ?_
  simp (maxSteps := 10000000) (disch := omega) only [↓q_run_s, q_stop_n, q_stop_c, q_lg_c, q_ls_d, q_ld_n, q_ld_c, q_cat_i, q_cat_r, q_cat_n, q_wd_n, q_wd_c, q_bx_1, q_bx_2, q_bx_3, q_bx_4, q_bx_5, q_bx_6, q_bx_7, q_bx_8, q_pop_0, q_pop_s, ↓reduceIte, Nat.reduceEqDiff, reduceCtorEq, eq_self, Bool.false_eq_true, Nat.reduceAdd, Nat.reduceSub, Nat.reduceMul, Nat.reduceLeDiff, Nat.reduceLT, Nat.le_refl, Nat.zero_le, true_and, and_true, false_and, and_false, or_false, false_or, true_or, or_true, not_true_eq_false, not_false_eq_true, if_true, if_false, List.getElem?_cons_zero, List.getElem?_cons_succ, List.set_cons_zero, List.set_cons_succ, List.length_cons, List.length_nil, ↓tX8_of_0, ↓tX8_of_1, ↓tX8_of_4, ↓tX8_of_5, ↓tX8_of_6, ↓tX8_of_9, ↓tX8_of_10, ↓tX8_of_13, ↓tX8_of_14, ↓tX8_of_17, ↓tX8_of_18, ↓tX8_of_19, ↓tX8_of_22, ↓tX8_of_23, ↓oAl, ↓oAlen, ↓oGet, ↓oGo, ↓oIf1lt, ↓oIf2ge, ↓oIl, ↓oK, ↓oLald, ↓oLret, q_set_s, q_set_n, sp_0, spO_len, q_up_a, spO_0, sp_a0, z_clamp, z_ltI, z_leI, z_eqI, z_lt0, z_ge0, z_eq0I, z_gt0I, z_le0I, z_m1lt, z_m1ge, z_m1eq, z_m1eq', z_inT, z_add, z_sub, z_mul, z_div, z_rem, n_ltT, n_ltF, n_leT, n_leF, n_eqT, n_eqF, z_11, q_tl_i, q_tl_n, q_ap_n, q_ap_c]
  exact hQ
set_option maxRecDepth 100000 in
set_option maxHeartbeats 8000000 in
theorem c8_ofClass {v : Nat} (hv : v < 8) (hl : len ≤ 6) (hw : ∀ b, b < len → w b < 3) (hL : s_Lt w len B) (hQ : ∀ X, s_W len X (fun b e => b < len ∧ e = b + 1 ∧ v.testBit (w b) = true) → Q (some (.long (nL X))) (q_sp M0 i n B)) : q_Call G L d mX8_ofClass 0 0 [.ref i, .int (nI v)] (q_sp M0 i n B) Q := by
  have loop : ∀ (g c X : Nat), g + c = 3 → s_W len X (fun b e => b < len ∧ e = b + 1 ∧ w b < c ∧ v.testBit (w b) = true) → q_X G L d mX8_ofClass 0 0 Q 5 [(0, .ref i), (1, .int (nI v)), (2, .long (nL X)), (4, .int (nI c))] [] (q_sp M0 i n B) 0 0 := by
    intro g
    induction g with
    | zero =>
      intro c X hc hX
      have e : c = 3 := by omega
      subst e
      have h' := hQ X (hX.congr fun b e _ => ⟨fun h => ⟨h.1, h.2.1, h.2.2.2⟩, fun h => ⟨h.1, h.2.1, hw b h.1, h.2.2⟩⟩)
      refine q_X.run sX8_ofClass [] 20 ?_
      simp (maxSteps := 10000000) (disch := omega) only [↓q_run_s, q_stop_n, q_stop_c, q_lg_c, q_ls_d, q_ld_n, q_ld_c, q_cat_i, q_cat_r, q_cat_n, q_wd_n, q_wd_c, q_bx_1, q_bx_2, q_bx_3, q_bx_4, q_bx_5, q_bx_6, q_bx_7, q_bx_8, q_pop_0, q_pop_s, ↓reduceIte, Nat.reduceEqDiff, reduceCtorEq, eq_self, Bool.false_eq_true, Nat.reduceAdd, Nat.reduceSub, Nat.reduceMul, Nat.reduceLeDiff, Nat.reduceLT, Nat.le_refl, Nat.zero_le, true_and, and_true, false_and, and_false, or_false, false_or, true_or, or_true, not_true_eq_false, not_false_eq_true, if_true, if_false, List.getElem?_cons_zero, List.getElem?_cons_succ, List.set_cons_zero, List.set_cons_succ, List.length_cons, List.length_nil, ↓tX8_ofClass_0, ↓tX8_ofClass_1, ↓tX8_ofClass_2, ↓tX8_ofClass_3, ↓tX8_ofClass_5, ↓tX8_ofClass_7, ↓tX8_ofClass_8, ↓tX8_ofClass_11, ↓tX8_ofClass_12, ↓tX8_ofClass_14, ↓tX8_ofClass_15, ↓tX8_ofClass_16, ↓tX8_ofClass_17, ↓tX8_ofClass_18, ↓tX8_ofClass_21, ↓tX8_ofClass_22, ↓tX8_ofClass_23, ↓tX8_ofClass_26, ↓tX8_ofClass_28, ↓tX8_ofClass_29, ↓tX8_ofClass_30, ↓tX8_ofClass_31, ↓tX8_ofClass_34, ↓tX8_ofClass_37, ↓tX8_ofClass_38, ↓oAl, ↓oAnd, ↓oGet, ↓oGo, ↓oIf2ge, ↓oIf2ne, ↓oIl, ↓oInc, ↓oIs, ↓oK, ↓oLald, ↓oLl, ↓oLor, ↓oLret, ↓oLs, ↓oShr, q_ls2_d, q_ld1_n, q_ld1_c, q_cat_l, q_set_s, q_set_n, sp_0, spO_len, q_up_a, spO_1, sp_a1, z_clamp, z_ltI, z_leI, z_eqI, z_lt0, z_ge0, z_eq0I, z_gt0I, z_le0I, z_m1lt, z_m1ge, z_m1eq, z_m1eq', z_inT, z_add, z_sub, z_mul, z_div, z_rem, n_ltT, n_ltF, n_leT, n_leF, n_eqT, n_eqF, z_11, q_tl_i, q_tl_n, q_ap_n, q_ap_c]
      exact h'
    | succ g ih =>
      intro c X hc hX
      obtain ⟨Y, y1, y2⟩ := s_Lt_W hl hL (c := c) (by omega)
      by_cases hb : v.testBit c = true
      · have h' := ih (c + 1) (X ||| Y) (by omega) ((s_W_or hX y2).congr fun b e _ => by
          constructor
          · rintro (⟨g1, g2, g3, g4⟩ | ⟨g1, g2, g3⟩)
            · exact ⟨g1, g2, by omega, g4⟩
            · exact ⟨g1, g2, by omega, by rw [g3]; exact hb⟩
          · rintro ⟨g1, g2, g3, g4⟩
            rcases Nat.lt_or_eq_of_le (Nat.le_of_lt_succ g3) with g | g
            · exact Or.inl ⟨g1, g2, g, g4⟩
            · exact Or.inr ⟨g1, g2, g⟩)
        refine q_X.run sX8_ofClass [5] 40 ?_
        simp (maxSteps := 10000000) (disch := omega) only [↓q_run_s, q_stop_n, q_stop_c, q_lg_c, q_ls_d, q_ld_n, q_ld_c, q_cat_i, q_cat_r, q_cat_n, q_wd_n, q_wd_c, q_bx_1, q_bx_2, q_bx_3, q_bx_4, q_bx_5, q_bx_6, q_bx_7, q_bx_8, q_pop_0, q_pop_s, ↓reduceIte, Nat.reduceEqDiff, reduceCtorEq, eq_self, Bool.false_eq_true, Nat.reduceAdd, Nat.reduceSub, Nat.reduceMul, Nat.reduceLeDiff, Nat.reduceLT, Nat.le_refl, Nat.zero_le, true_and, and_true, false_and, and_false, or_false, false_or, true_or, or_true, not_true_eq_false, not_false_eq_true, if_true, if_false, List.getElem?_cons_zero, List.getElem?_cons_succ, List.set_cons_zero, List.set_cons_succ, List.length_cons, List.length_nil, ↓tX8_ofClass_0, ↓tX8_ofClass_1, ↓tX8_ofClass_2, ↓tX8_ofClass_3, ↓tX8_ofClass_5, ↓tX8_ofClass_7, ↓tX8_ofClass_8, ↓tX8_ofClass_11, ↓tX8_ofClass_12, ↓tX8_ofClass_14, ↓tX8_ofClass_15, ↓tX8_ofClass_16, ↓tX8_ofClass_17, ↓tX8_ofClass_18, ↓tX8_ofClass_21, ↓tX8_ofClass_22, ↓tX8_ofClass_23, ↓tX8_ofClass_26, ↓tX8_ofClass_28, ↓tX8_ofClass_29, ↓tX8_ofClass_30, ↓tX8_ofClass_31, ↓tX8_ofClass_34, ↓tX8_ofClass_37, ↓tX8_ofClass_38, ↓oAl, ↓oAnd, ↓oGet, ↓oGo, ↓oIf2ge, ↓oIf2ne, ↓oIl, ↓oInc, ↓oIs, ↓oK, ↓oLald, ↓oLl, ↓oLor, ↓oLret, ↓oLs, ↓oShr, q_ls2_d, q_ld1_n, q_ld1_c, q_cat_l, q_set_s, q_set_n, sp_0, spO_len, q_up_a, spO_1, sp_a1, z_clamp, z_ltI, z_leI, z_eqI, z_lt0, z_ge0, z_eq0I, z_gt0I, z_le0I, z_m1lt, z_m1ge, z_m1eq, z_m1eq', z_inT, z_add, z_sub, z_mul, z_div, z_rem, n_ltT, n_ltF, n_leT, n_leF, n_eqT, n_eqF, z_11, q_tl_i, q_tl_n, q_ap_n, q_ap_c, z_tb, z_tb1, hb, y1, l_or]
        refine q_X.lv2 _ ?_ h'
        exact ⟨rfl, rfl, rfl, rfl, trivial⟩
      · have h' := ih (c + 1) X (by omega) (hX.congr fun b e _ => by
          constructor
          · rintro ⟨g1, g2, g3, g4⟩
            exact ⟨g1, g2, by omega, g4⟩
          · rintro ⟨g1, g2, g3, g4⟩
            rcases Nat.lt_or_eq_of_le (Nat.le_of_lt_succ g3) with g | g
            · exact ⟨g1, g2, g, g4⟩
            · exact absurd (g ▸ g4) hb)
        refine q_X.run sX8_ofClass [5] 40 ?_
        simp (maxSteps := 10000000) (disch := omega) only [↓q_run_s, q_stop_n, q_stop_c, q_lg_c, q_ls_d, q_ld_n, q_ld_c, q_cat_i, q_cat_r, q_cat_n, q_wd_n, q_wd_c, q_bx_1, q_bx_2, q_bx_3, q_bx_4, q_bx_5, q_bx_6, q_bx_7, q_bx_8, q_pop_0, q_pop_s, ↓reduceIte, Nat.reduceEqDiff, reduceCtorEq, eq_self, Bool.false_eq_true, Nat.reduceAdd, Nat.reduceSub, Nat.reduceMul, Nat.reduceLeDiff, Nat.reduceLT, Nat.le_refl, Nat.zero_le, true_and, and_true, false_and, and_false, or_false, false_or, true_or, or_true, not_true_eq_false, not_false_eq_true, if_true, if_false, List.getElem?_cons_zero, List.getElem?_cons_succ, List.set_cons_zero, List.set_cons_succ, List.length_cons, List.length_nil, ↓tX8_ofClass_0, ↓tX8_ofClass_1, ↓tX8_ofClass_2, ↓tX8_ofClass_3, ↓tX8_ofClass_5, ↓tX8_ofClass_7, ↓tX8_ofClass_8, ↓tX8_ofClass_11, ↓tX8_ofClass_12, ↓tX8_ofClass_14, ↓tX8_ofClass_15, ↓tX8_ofClass_16, ↓tX8_ofClass_17, ↓tX8_ofClass_18, ↓tX8_ofClass_21, ↓tX8_ofClass_22, ↓tX8_ofClass_23, ↓tX8_ofClass_26, ↓tX8_ofClass_28, ↓tX8_ofClass_29, ↓tX8_ofClass_30, ↓tX8_ofClass_31, ↓tX8_ofClass_34, ↓tX8_ofClass_37, ↓tX8_ofClass_38, ↓oAl, ↓oAnd, ↓oGet, ↓oGo, ↓oIf2ge, ↓oIf2ne, ↓oIl, ↓oInc, ↓oIs, ↓oK, ↓oLald, ↓oLl, ↓oLor, ↓oLret, ↓oLs, ↓oShr, q_ls2_d, q_ld1_n, q_ld1_c, q_cat_l, q_set_s, q_set_n, sp_0, spO_len, q_up_a, spO_1, sp_a1, z_clamp, z_ltI, z_leI, z_eqI, z_lt0, z_ge0, z_eq0I, z_gt0I, z_le0I, z_m1lt, z_m1ge, z_m1eq, z_m1eq', z_inT, z_add, z_sub, z_mul, z_div, z_rem, n_ltT, n_ltF, n_leT, n_leF, n_eqT, n_eqF, z_11, q_tl_i, q_tl_n, q_ap_n, q_ap_c, z_tb, z_tb1, hb]
        refine q_X.lv2 _ ?_ h'
        exact ⟨rfl, rfl, rfl, rfl, trivial⟩
  have h' := loop 3 0 0 rfl ⟨by decide, fun b e _ _ => by
    rw [Nat.zero_testBit]
    exact ⟨fun h => (by cases h), fun h => absurd h.2.2.1 (by omega)⟩⟩
  refine q_Call.of [(0, .ref i), (1, .int (nI v))] rfl ?_
  refine q_X.run sX8_ofClass [5] 20 ?_
  simp (maxSteps := 10000000) (disch := omega) only [↓q_run_s, q_stop_n, q_stop_c, q_lg_c, q_ls_d, q_ld_n, q_ld_c, q_cat_i, q_cat_r, q_cat_n, q_wd_n, q_wd_c, q_bx_1, q_bx_2, q_bx_3, q_bx_4, q_bx_5, q_bx_6, q_bx_7, q_bx_8, q_pop_0, q_pop_s, ↓reduceIte, Nat.reduceEqDiff, reduceCtorEq, eq_self, Bool.false_eq_true, Nat.reduceAdd, Nat.reduceSub, Nat.reduceMul, Nat.reduceLeDiff, Nat.reduceLT, Nat.le_refl, Nat.zero_le, true_and, and_true, false_and, and_false, or_false, false_or, true_or, or_true, not_true_eq_false, not_false_eq_true, if_true, if_false, List.getElem?_cons_zero, List.getElem?_cons_succ, List.set_cons_zero, List.set_cons_succ, List.length_cons, List.length_nil, ↓tX8_ofClass_0, ↓tX8_ofClass_1, ↓tX8_ofClass_2, ↓tX8_ofClass_3, ↓tX8_ofClass_5, ↓tX8_ofClass_7, ↓tX8_ofClass_8, ↓tX8_ofClass_11, ↓tX8_ofClass_12, ↓tX8_ofClass_14, ↓tX8_ofClass_15, ↓tX8_ofClass_16, ↓tX8_ofClass_17, ↓tX8_ofClass_18, ↓tX8_ofClass_21, ↓tX8_ofClass_22, ↓tX8_ofClass_23, ↓tX8_ofClass_26, ↓tX8_ofClass_28, ↓tX8_ofClass_29, ↓tX8_ofClass_30, ↓tX8_ofClass_31, ↓tX8_ofClass_34, ↓tX8_ofClass_37, ↓tX8_ofClass_38, ↓oAl, ↓oAnd, ↓oGet, ↓oGo, ↓oIf2ge, ↓oIf2ne, ↓oIl, ↓oInc, ↓oIs, ↓oK, ↓oLald, ↓oLl, ↓oLor, ↓oLret, ↓oLs, ↓oShr, q_ls2_d, q_ld1_n, q_ld1_c, q_cat_l, q_set_s, q_set_n, sp_0, spO_len, q_up_a, spO_1, sp_a1, z_clamp, z_ltI, z_leI, z_eqI, z_lt0, z_ge0, z_eq0I, z_gt0I, z_le0I, z_m1lt, z_m1ge, z_m1eq, z_m1eq', z_inT, z_add, z_sub, z_mul, z_div, z_rem, n_ltT, n_ltF, n_leT, n_leF, n_eqT, n_eqF, z_11, q_tl_i, q_tl_n, q_ap_n, q_ap_c]
  refine q_X.lv2 _ ?_ h'
  exact ⟨rfl, rfl, rfl, rfl, trivial⟩
end
