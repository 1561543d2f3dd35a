/-! the automaton of the class: its table of steps, its building, its run -/
theorem u_or_fr {base S S' : Nat} {fo fo' : Nat → Nat} : ∀ n, (∀ q, q < n → S'.testBit q = S.testBit q ∧ (S.testBit q = true → fo' q = fo q)) → u_or base fo' S' n = u_or base fo S n
  | 0, _ => rfl
  | n + 1, h => by
    obtain ⟨h1, h2⟩ := h n (by omega)
    show u_or base fo' S' n ||| _ = u_or base fo S n ||| _
    rw [u_or_fr n (fun q hq => h q (by omega)), h1]
    by_cases c : S.testBit n = true
    · rw [if_pos c, if_pos c, h2 c]
    · rw [if_neg c, if_neg c]
theorem u_tb_add {q t : Nat} (h : t < 2 ^ q) : t ||| 2 ^ q = t + 2 ^ q := by
  have := Nat.two_pow_add_eq_or_of_lt h 1
  rw [Nat.mul_one] at this
  rw [Nat.or_comm, ← this, Nat.add_comm]
theorem u_tb_lo {q t c : Nat} (h : c < q) : (t + 2 ^ q).testBit c = t.testBit c := by
  rw [Nat.add_comm, Nat.testBit_two_pow_add_gt h]
theorem u_tb_hi {q t : Nat} (h : t < 2 ^ q) : (t + 2 ^ q).testBit q = true := by
  rw [← u_tb_add h, Nat.testBit_or, Nat.testBit_two_pow_self, Bool.or_true]
section
variable {G : qC} {L : Launch} {d : Nat} {Q : Option Value → qM → Prop} {M0 : qM} {i : Nat} {s : Nat → Int32} {A : Nat → Nat → Int32}
/-- the table of steps, of the letters below c -/
def au_tb (g : Nat → Int32) (F n : Nat) (fo tk : Nat → Nat) (c : Nat) : Prop := g (192 + c) = nI (F &&& tk c) ∧ ∀ S, S < 2 ^ n → g (S * 3 + c) = nI (u_or 0 fo S n &&& tk c)
set_option maxRecDepth 100000 in
set_option maxHeartbeats 8000000 in
theorem c0_fillSteps {F n : Nat} {fo tk : Nat → Nat} (h6 : s 6 = nI n) (hn : n ≤ 6) (hfo : ∀ q, q < 6 → A 3 q = nI (fo q)) (htk : ∀ c, c < 3 → A 4 c = nI (tk c)) (hQ : ∀ g, (∀ c, c < 3 → au_tb g F n fo tk c) → Q none (q_au M0 i s (va_up A 5 g))) : q_Call G L d mX0_fillSteps 0 0 [.ref i, .int (nI F)] (q_au M0 i s A) Q := by
  have l3 : ∀ c q, c < 3 → q < n → ∀ (g1 t : Nat) (g : Nat → Int32), g1 + t = 2 ^ q → (∀ c', c' < c → au_tb g F n fo tk c') → g (192 + c) = nI (F &&& tk c) → (∀ S, S < 2 ^ q → g (S * 3 + c) = nI (u_or 0 fo S q &&& tk c)) → (∀ S, S < t → g ((S + 2 ^ q) * 3 + c) = nI (u_or 0 fo (S + 2 ^ q) (q + 1) &&& tk c)) → (∀ g : Nat → Int32, (∀ c', c' < c → au_tb g F n fo tk c') → g (192 + c) = nI (F &&& tk c) → (∀ S, S < 2 ^ (q + 1) → g (S * 3 + c) = nI (u_or 0 fo S (q + 1) &&& tk c)) → q_X G L d mX0_fillSteps 0 0 Q 34 [(0, .ref i), (1, .int (nI F)), (2, .int (nI c)), (3, .int (nI (q + 1)))] [] (q_au M0 i s (va_up A 5 g)) 0 0) → q_X G L d mX0_fillSteps 0 0 Q 66 [(0, .ref i), (1, .int (nI F)), (2, .int (nI c)), (3, .int (nI q)), (4, .int (nI (fo q &&& tk c))), (5, .int (nI t))] [] (q_au M0 i s (va_up A 5 g)) 0 0 := by
    intro c q hc hq g1
    have hp : 2 ^ q ≤ 32 := Nat.pow_le_pow_right (n := 2) (j := 5) (by decide) (by omega)
    have hp2 : 2 ^ (q + 1) = 2 * 2 ^ q := by rw [Nat.pow_succ, Nat.mul_comm]
    have hpn : 2 ^ (q + 1) ≤ 2 ^ n := Nat.pow_le_pow_right (by decide) hq
    induction g1 with
    | zero =>
      intro t g ht ho h1 h2 h3 hk
      have e : t = 2 ^ q := by omega
      refine q_X.run sX0_fillSteps [34] 30 ?_
      simp (maxSteps := 10000000) (disch := omega) only [↓q_run_s, q_stop_n, q_stop_c, q_lg_c, q_ls_d, q_ld_n, q_ld_c, q_cat_i, q_cat_r, q_cat_n, q_wd_n, q_wd_c, q_bx_1, q_bx_2, q_bx_3, q_bx_4, q_bx_5, q_bx_6, q_bx_7, q_bx_8, q_pop_0, q_pop_s, ↓reduceIte, Nat.reduceEqDiff, reduceCtorEq, eq_self, Bool.false_eq_true, Nat.reduceAdd, Nat.reduceSub, Nat.reduceMul, Nat.reduceLeDiff, Nat.reduceLT, Nat.le_refl, Nat.zero_le, true_and, and_true, false_and, and_false, or_false, false_or, true_or, or_true, not_true_eq_false, not_false_eq_true, if_true, if_false, List.getElem?_cons_zero, List.getElem?_cons_succ, List.set_cons_zero, List.set_cons_succ, List.length_cons, List.length_nil, ↓tX0_fillSteps_0, ↓tX0_fillSteps_1, ↓tX0_fillSteps_2, ↓tX0_fillSteps_3, ↓tX0_fillSteps_4, ↓tX0_fillSteps_7, ↓tX0_fillSteps_8, ↓tX0_fillSteps_11, ↓tX0_fillSteps_14, ↓tX0_fillSteps_15, ↓tX0_fillSteps_16, ↓tX0_fillSteps_17, ↓tX0_fillSteps_18, ↓tX0_fillSteps_21, ↓tX0_fillSteps_22, ↓tX0_fillSteps_23, ↓tX0_fillSteps_24, ↓tX0_fillSteps_25, ↓tX0_fillSteps_26, ↓tX0_fillSteps_29, ↓tX0_fillSteps_30, ↓tX0_fillSteps_31, ↓tX0_fillSteps_32, ↓tX0_fillSteps_33, ↓tX0_fillSteps_34, ↓tX0_fillSteps_35, ↓tX0_fillSteps_36, ↓tX0_fillSteps_39, ↓tX0_fillSteps_42, ↓tX0_fillSteps_43, ↓tX0_fillSteps_45, ↓tX0_fillSteps_48, ↓tX0_fillSteps_49, ↓tX0_fillSteps_52, ↓tX0_fillSteps_53, ↓tX0_fillSteps_54, ↓tX0_fillSteps_55, ↓tX0_fillSteps_58, ↓tX0_fillSteps_59, ↓tX0_fillSteps_60, ↓tX0_fillSteps_61, ↓tX0_fillSteps_63, ↓tX0_fillSteps_64, ↓tX0_fillSteps_66, ↓tX0_fillSteps_68, ↓tX0_fillSteps_69, ↓tX0_fillSteps_70, ↓tX0_fillSteps_71, ↓tX0_fillSteps_74, ↓tX0_fillSteps_75, ↓tX0_fillSteps_78, ↓tX0_fillSteps_80, ↓tX0_fillSteps_81, ↓tX0_fillSteps_82, ↓tX0_fillSteps_83, ↓tX0_fillSteps_84, ↓tX0_fillSteps_85, ↓tX0_fillSteps_86, ↓tX0_fillSteps_87, ↓tX0_fillSteps_88, ↓tX0_fillSteps_89, ↓tX0_fillSteps_92, ↓tX0_fillSteps_94, ↓tX0_fillSteps_95, ↓tX0_fillSteps_96, ↓tX0_fillSteps_97, ↓tX0_fillSteps_98, ↓tX0_fillSteps_99, ↓tX0_fillSteps_101, ↓tX0_fillSteps_102, ↓tX0_fillSteps_103, ↓tX0_fillSteps_106, ↓tX0_fillSteps_109, ↓tX0_fillSteps_112, ↓tX0_fillSteps_115, ↓tX0_fillSteps_118, ↓tX0_fillSteps_121, ↓oAdd, ↓oAl, ↓oAnd, ↓oGet, ↓oGo, ↓oIald, ↓oIast, ↓oIf2ge, ↓oIl, ↓oInc, ↓oIs, ↓oK, ↓oMul, ↓oOr, ↓oShl, ↓oVret, q_set_s, q_set_n, au_0, auO_len, q_up_a, auO_5, au_a5, aus_a5, auO_4, au_a4, aus_a4, auO_6, auO_3, au_a3, aus_a3, z_clamp, z_ltI, z_leI, z_eqI, z_lt0, z_ge0, z_eq0I, z_gt0I, z_le0I, z_m1lt, z_m1ge, z_m1eq, z_m1eq', z_inT, z_add, z_sub, z_mul, z_div, z_rem, n_ltT, n_ltF, n_leT, n_leF, n_eqT, n_eqF, q_tl_i, q_tl_n, q_ap_n, q_ap_c, h6, z_shl1]
      refine q_X.lv2 _ ?_ (hk g ho h1 fun S hS => ?_)
      · exact ⟨rfl, rfl, rfl, rfl, trivial⟩
      · by_cases c1 : S < 2 ^ q
        · rw [h2 S c1]
          have hb : ¬ S.testBit q = true := by rw [Nat.testBit_lt_two_pow c1]; decide
          show _ = nI ((u_or 0 fo S q ||| (if S.testBit q = true then fo q else 0)) &&& tk c)
          rw [if_neg hb, Nat.or_zero]
        · have h := h3 (S - 2 ^ q) (by omega)
          rw [show S - 2 ^ q + 2 ^ q = S by omega] at h
          exact h
    | succ g1 ih =>
      intro t g ht ho h1 h2 h3 hk
      have htq : t < 2 ^ q := by omega
      have hor := u_tb_add htq
      have hv := h2 t htq
      refine q_X.run sX0_fillSteps [66] 60 ?_
      simp (maxSteps := 10000000) (disch := omega) only [↓q_run_s, q_stop_n, q_stop_c, q_lg_c, q_ls_d, q_ld_n, q_ld_c, q_cat_i, q_cat_r, q_cat_n, q_wd_n, q_wd_c, q_bx_1, q_bx_2, q_bx_3, q_bx_4, q_bx_5, q_bx_6, q_bx_7, q_bx_8, q_pop_0, q_pop_s, ↓reduceIte, Nat.reduceEqDiff, reduceCtorEq, eq_self, Bool.false_eq_true, Nat.reduceAdd, Nat.reduceSub, Nat.reduceMul, Nat.reduceLeDiff, Nat.reduceLT, Nat.le_refl, Nat.zero_le, true_and, and_true, false_and, and_false, or_false, false_or, true_or, or_true, not_true_eq_false, not_false_eq_true, if_true, if_false, List.getElem?_cons_zero, List.getElem?_cons_succ, List.set_cons_zero, List.set_cons_succ, List.length_cons, List.length_nil, ↓tX0_fillSteps_0, ↓tX0_fillSteps_1, ↓tX0_fillSteps_2, ↓tX0_fillSteps_3, ↓tX0_fillSteps_4, ↓tX0_fillSteps_7, ↓tX0_fillSteps_8, ↓tX0_fillSteps_11, ↓tX0_fillSteps_14, ↓tX0_fillSteps_15, ↓tX0_fillSteps_16, ↓tX0_fillSteps_17, ↓tX0_fillSteps_18, ↓tX0_fillSteps_21, ↓tX0_fillSteps_22, ↓tX0_fillSteps_23, ↓tX0_fillSteps_24, ↓tX0_fillSteps_25, ↓tX0_fillSteps_26, ↓tX0_fillSteps_29, ↓tX0_fillSteps_30, ↓tX0_fillSteps_31, ↓tX0_fillSteps_32, ↓tX0_fillSteps_33, ↓tX0_fillSteps_34, ↓tX0_fillSteps_35, ↓tX0_fillSteps_36, ↓tX0_fillSteps_39, ↓tX0_fillSteps_42, ↓tX0_fillSteps_43, ↓tX0_fillSteps_45, ↓tX0_fillSteps_48, ↓tX0_fillSteps_49, ↓tX0_fillSteps_52, ↓tX0_fillSteps_53, ↓tX0_fillSteps_54, ↓tX0_fillSteps_55, ↓tX0_fillSteps_58, ↓tX0_fillSteps_59, ↓tX0_fillSteps_60, ↓tX0_fillSteps_61, ↓tX0_fillSteps_63, ↓tX0_fillSteps_64, ↓tX0_fillSteps_66, ↓tX0_fillSteps_68, ↓tX0_fillSteps_69, ↓tX0_fillSteps_70, ↓tX0_fillSteps_71, ↓tX0_fillSteps_74, ↓tX0_fillSteps_75, ↓tX0_fillSteps_78, ↓tX0_fillSteps_80, ↓tX0_fillSteps_81, ↓tX0_fillSteps_82, ↓tX0_fillSteps_83, ↓tX0_fillSteps_84, ↓tX0_fillSteps_85, ↓tX0_fillSteps_86, ↓tX0_fillSteps_87, ↓tX0_fillSteps_88, ↓tX0_fillSteps_89, ↓tX0_fillSteps_92, ↓tX0_fillSteps_94, ↓tX0_fillSteps_95, ↓tX0_fillSteps_96, ↓tX0_fillSteps_97, ↓tX0_fillSteps_98, ↓tX0_fillSteps_99, ↓tX0_fillSteps_101, ↓tX0_fillSteps_102, ↓tX0_fillSteps_103, ↓tX0_fillSteps_106, ↓tX0_fillSteps_109, ↓tX0_fillSteps_112, ↓tX0_fillSteps_115, ↓tX0_fillSteps_118, ↓tX0_fillSteps_121, ↓oAdd, ↓oAl, ↓oAnd, ↓oGet, ↓oGo, ↓oIald, ↓oIast, ↓oIf2ge, ↓oIl, ↓oInc, ↓oIs, ↓oK, ↓oMul, ↓oOr, ↓oShl, ↓oVret, q_set_s, q_set_n, au_0, auO_len, q_up_a, auO_5, au_a5, aus_a5, auO_4, au_a4, aus_a4, auO_6, auO_3, au_a3, aus_a3, z_clamp, z_ltI, z_leI, z_eqI, z_lt0, z_ge0, z_eq0I, z_gt0I, z_le0I, z_m1lt, z_m1ge, z_m1eq, z_m1eq', z_inT, z_add, z_sub, z_mul, z_div, z_rem, n_ltT, n_ltF, n_leT, n_leF, n_eqT, n_eqF, q_tl_i, q_tl_n, q_ap_n, q_ap_c, h6, z_shl1, z_or, hor, hv, q_upup]
      have hne : ∀ S c', c' < 3 → (S ≠ t + 2 ^ q ∨ c' ≠ c) → S * 3 + c' ≠ (t + 2 ^ q) * 3 + c := by
        intro S c' h4 h5
        omega
      refine q_X.lv2 _ ?_ (ih (t + 1) (upd g ((t + 2 ^ q) * 3 + c) (nI ((u_or 0 fo t q &&& tk c) ||| (fo q &&& tk c)))) (by omega) ?_ ?_ ?_ ?_ hk)
      · exact ⟨rfl, rfl, rfl, rfl, rfl, rfl, trivial⟩
      · intro c' hc'
        obtain ⟨o1, o2⟩ := ho c' hc'
        refine ⟨?_, fun S hS => ?_⟩
        · rw [q_ud_n _ _ (by omega)]; exact o1
        · rw [q_ud_n _ _ (hne S c' (by omega) (Or.inr (by omega)))]; exact o2 S hS
      · rw [q_ud_n _ _ (by omega)]; exact h1
      · intro S hS
        rw [q_ud_n _ _ (hne S c hc (Or.inl (by omega)))]; exact h2 S hS
      · intro S hS
        rw [q_ud_a]
        by_cases c2 : S = t
        · rw [if_pos (by rw [c2]), c2]
          show _ = nI ((u_or 0 fo (t + 2 ^ q) q ||| (if (t + 2 ^ q).testBit q = true then fo q else 0)) &&& tk c)
          rw [if_pos (u_tb_hi htq), u_or_fr (S := t) (fo := fo) q (fun c' hc' => ⟨u_tb_lo hc', fun _ => rfl⟩), Nat.and_or_distrib_right]
        · rw [if_neg (hne (S + 2 ^ q) c hc (Or.inl (by omega)))]
          exact h3 S (by omega)
  have l2 : ∀ c, c < 3 → ∀ (g1 q : Nat) (g : Nat → Int32), g1 + q = n → (∀ c', c' < c → au_tb g F n fo tk c') → g (192 + c) = nI (F &&& tk c) → (∀ S, S < 2 ^ q → g (S * 3 + c) = nI (u_or 0 fo S q &&& tk c)) → (∀ g : Nat → Int32, (∀ c', c' < c + 1 → au_tb g F n fo tk c') → q_X G L d mX0_fillSteps 0 0 Q 2 [(0, .ref i), (1, .int (nI F)), (2, .int (nI (c + 1)))] [] (q_au M0 i s (va_up A 5 g)) 0 0) → q_X G L d mX0_fillSteps 0 0 Q 34 [(0, .ref i), (1, .int (nI F)), (2, .int (nI c)), (3, .int (nI q))] [] (q_au M0 i s (va_up A 5 g)) 0 0 := by
    intro c hc g1
    induction g1 with
    | zero =>
      intro q g hq ho h1 h2 hk
      have e : q = n := by omega
      subst e
      refine q_X.run sX0_fillSteps [2] 30 ?_
      simp (maxSteps := 10000000) (disch := omega) only [↓q_run_s, q_stop_n, q_stop_c, q_lg_c, q_ls_d, q_ld_n, q_ld_c, q_cat_i, q_cat_r, q_cat_n, q_wd_n, q_wd_c, q_bx_1, q_bx_2, q_bx_3, q_bx_4, q_bx_5, q_bx_6, q_bx_7, q_bx_8, q_pop_0, q_pop_s, ↓reduceIte, Nat.reduceEqDiff, reduceCtorEq, eq_self, Bool.false_eq_true, Nat.reduceAdd, Nat.reduceSub, Nat.reduceMul, Nat.reduceLeDiff, Nat.reduceLT, Nat.le_refl, Nat.zero_le, true_and, and_true, false_and, and_false, or_false, false_or, true_or, or_true, not_true_eq_false, not_false_eq_true, if_true, if_false, List.getElem?_cons_zero, List.getElem?_cons_succ, List.set_cons_zero, List.set_cons_succ, List.length_cons, List.length_nil, ↓tX0_fillSteps_0, ↓tX0_fillSteps_1, ↓tX0_fillSteps_2, ↓tX0_fillSteps_3, ↓tX0_fillSteps_4, ↓tX0_fillSteps_7, ↓tX0_fillSteps_8, ↓tX0_fillSteps_11, ↓tX0_fillSteps_14, ↓tX0_fillSteps_15, ↓tX0_fillSteps_16, ↓tX0_fillSteps_17, ↓tX0_fillSteps_18, ↓tX0_fillSteps_21, ↓tX0_fillSteps_22, ↓tX0_fillSteps_23, ↓tX0_fillSteps_24, ↓tX0_fillSteps_25, ↓tX0_fillSteps_26, ↓tX0_fillSteps_29, ↓tX0_fillSteps_30, ↓tX0_fillSteps_31, ↓tX0_fillSteps_32, ↓tX0_fillSteps_33, ↓tX0_fillSteps_34, ↓tX0_fillSteps_35, ↓tX0_fillSteps_36, ↓tX0_fillSteps_39, ↓tX0_fillSteps_42, ↓tX0_fillSteps_43, ↓tX0_fillSteps_45, ↓tX0_fillSteps_48, ↓tX0_fillSteps_49, ↓tX0_fillSteps_52, ↓tX0_fillSteps_53, ↓tX0_fillSteps_54, ↓tX0_fillSteps_55, ↓tX0_fillSteps_58, ↓tX0_fillSteps_59, ↓tX0_fillSteps_60, ↓tX0_fillSteps_61, ↓tX0_fillSteps_63, ↓tX0_fillSteps_64, ↓tX0_fillSteps_66, ↓tX0_fillSteps_68, ↓tX0_fillSteps_69, ↓tX0_fillSteps_70, ↓tX0_fillSteps_71, ↓tX0_fillSteps_74, ↓tX0_fillSteps_75, ↓tX0_fillSteps_78, ↓tX0_fillSteps_80, ↓tX0_fillSteps_81, ↓tX0_fillSteps_82, ↓tX0_fillSteps_83, ↓tX0_fillSteps_84, ↓tX0_fillSteps_85, ↓tX0_fillSteps_86, ↓tX0_fillSteps_87, ↓tX0_fillSteps_88, ↓tX0_fillSteps_89, ↓tX0_fillSteps_92, ↓tX0_fillSteps_94, ↓tX0_fillSteps_95, ↓tX0_fillSteps_96, ↓tX0_fillSteps_97, ↓tX0_fillSteps_98, ↓tX0_fillSteps_99, ↓tX0_fillSteps_101, ↓tX0_fillSteps_102, ↓tX0_fillSteps_103, ↓tX0_fillSteps_106, ↓tX0_fillSteps_109, ↓tX0_fillSteps_112, ↓tX0_fillSteps_115, ↓tX0_fillSteps_118, ↓tX0_fillSteps_121, ↓oAdd, ↓oAl, ↓oAnd, ↓oGet, ↓oGo, ↓oIald, ↓oIast, ↓oIf2ge, ↓oIl, ↓oInc, ↓oIs, ↓oK, ↓oMul, ↓oOr, ↓oShl, ↓oVret, q_set_s, q_set_n, au_0, auO_len, q_up_a, auO_5, au_a5, aus_a5, auO_4, au_a4, aus_a4, auO_6, auO_3, au_a3, aus_a3, z_clamp, z_ltI, z_leI, z_eqI, z_lt0, z_ge0, z_eq0I, z_gt0I, z_le0I, z_m1lt, z_m1ge, z_m1eq, z_m1eq', z_inT, z_add, z_sub, z_mul, z_div, z_rem, n_ltT, n_ltF, n_leT, n_leF, n_eqT, n_eqF, q_tl_i, q_tl_n, q_ap_n, q_ap_c, h6]
      refine q_X.lv2 _ ?_ (hk g fun c' hc' => ?_)
      · exact ⟨rfl, rfl, rfl, trivial⟩
      · rcases Nat.lt_or_eq_of_le (Nat.le_of_lt_succ hc') with g' | g'
        · exact ho c' g'
        · rw [g']; exact ⟨h1, h2⟩
    | succ g1 ih =>
      intro q g hq ho h1 h2 hk
      have hfq := hfo q (by omega)
      have htc := htk c hc
      refine q_X.run sX0_fillSteps [66] 40 ?_
      simp (maxSteps := 10000000) (disch := omega) only [↓q_run_s, q_stop_n, q_stop_c, q_lg_c, q_ls_d, q_ld_n, q_ld_c, q_cat_i, q_cat_r, q_cat_n, q_wd_n, q_wd_c, q_bx_1, q_bx_2, q_bx_3, q_bx_4, q_bx_5, q_bx_6, q_bx_7, q_bx_8, q_pop_0, q_pop_s, ↓reduceIte, Nat.reduceEqDiff, reduceCtorEq, eq_self, Bool.false_eq_true, Nat.reduceAdd, Nat.reduceSub, Nat.reduceMul, Nat.reduceLeDiff, Nat.reduceLT, Nat.le_refl, Nat.zero_le, true_and, and_true, false_and, and_false, or_false, false_or, true_or, or_true, not_true_eq_false, not_false_eq_true, if_true, if_false, List.getElem?_cons_zero, List.getElem?_cons_succ, List.set_cons_zero, List.set_cons_succ, List.length_cons, List.length_nil, ↓tX0_fillSteps_0, ↓tX0_fillSteps_1, ↓tX0_fillSteps_2, ↓tX0_fillSteps_3, ↓tX0_fillSteps_4, ↓tX0_fillSteps_7, ↓tX0_fillSteps_8, ↓tX0_fillSteps_11, ↓tX0_fillSteps_14, ↓tX0_fillSteps_15, ↓tX0_fillSteps_16, ↓tX0_fillSteps_17, ↓tX0_fillSteps_18, ↓tX0_fillSteps_21, ↓tX0_fillSteps_22, ↓tX0_fillSteps_23, ↓tX0_fillSteps_24, ↓tX0_fillSteps_25, ↓tX0_fillSteps_26, ↓tX0_fillSteps_29, ↓tX0_fillSteps_30, ↓tX0_fillSteps_31, ↓tX0_fillSteps_32, ↓tX0_fillSteps_33, ↓tX0_fillSteps_34, ↓tX0_fillSteps_35, ↓tX0_fillSteps_36, ↓tX0_fillSteps_39, ↓tX0_fillSteps_42, ↓tX0_fillSteps_43, ↓tX0_fillSteps_45, ↓tX0_fillSteps_48, ↓tX0_fillSteps_49, ↓tX0_fillSteps_52, ↓tX0_fillSteps_53, ↓tX0_fillSteps_54, ↓tX0_fillSteps_55, ↓tX0_fillSteps_58, ↓tX0_fillSteps_59, ↓tX0_fillSteps_60, ↓tX0_fillSteps_61, ↓tX0_fillSteps_63, ↓tX0_fillSteps_64, ↓tX0_fillSteps_66, ↓tX0_fillSteps_68, ↓tX0_fillSteps_69, ↓tX0_fillSteps_70, ↓tX0_fillSteps_71, ↓tX0_fillSteps_74, ↓tX0_fillSteps_75, ↓tX0_fillSteps_78, ↓tX0_fillSteps_80, ↓tX0_fillSteps_81, ↓tX0_fillSteps_82, ↓tX0_fillSteps_83, ↓tX0_fillSteps_84, ↓tX0_fillSteps_85, ↓tX0_fillSteps_86, ↓tX0_fillSteps_87, ↓tX0_fillSteps_88, ↓tX0_fillSteps_89, ↓tX0_fillSteps_92, ↓tX0_fillSteps_94, ↓tX0_fillSteps_95, ↓tX0_fillSteps_96, ↓tX0_fillSteps_97, ↓tX0_fillSteps_98, ↓tX0_fillSteps_99, ↓tX0_fillSteps_101, ↓tX0_fillSteps_102, ↓tX0_fillSteps_103, ↓tX0_fillSteps_106, ↓tX0_fillSteps_109, ↓tX0_fillSteps_112, ↓tX0_fillSteps_115, ↓tX0_fillSteps_118, ↓tX0_fillSteps_121, ↓oAdd, ↓oAl, ↓oAnd, ↓oGet, ↓oGo, ↓oIald, ↓oIast, ↓oIf2ge, ↓oIl, ↓oInc, ↓oIs, ↓oK, ↓oMul, ↓oOr, ↓oShl, ↓oVret, q_set_s, q_set_n, au_0, auO_len, q_up_a, auO_5, au_a5, aus_a5, auO_4, au_a4, aus_a4, auO_6, auO_3, au_a3, aus_a3, z_clamp, z_ltI, z_leI, z_eqI, z_lt0, z_ge0, z_eq0I, z_gt0I, z_le0I, z_m1lt, z_m1ge, z_m1eq, z_m1eq', z_inT, z_add, z_sub, z_mul, z_div, z_rem, n_ltT, n_ltF, n_leT, n_leF, n_eqT, n_eqF, q_tl_i, q_tl_n, q_ap_n, q_ap_c, h6, hfq, htc, z_and]
      refine q_X.lv2 _ ?_ (l3 c q hc (by omega) (2 ^ q) 0 g rfl ho h1 h2 (fun S hS => absurd hS (by omega)) (fun g' a1 a2 a3 => ih (q + 1) g' (by omega) a1 a2 a3 hk))
      exact ⟨rfl, rfl, rfl, rfl, rfl, rfl, trivial⟩
  have l1 : ∀ (g1 c : Nat) (g : Nat → Int32), g1 + c = 3 → (∀ c', c' < c → au_tb g F n fo tk c') → q_X G L d mX0_fillSteps 0 0 Q 2 [(0, .ref i), (1, .int (nI F)), (2, .int (nI c))] [] (q_au M0 i s (va_up A 5 g)) 0 0 := by
    intro g1
    induction g1 with
    | zero =>
      intro c g hc ho
      refine q_X.run sX0_fillSteps [] 30 ?_
      simp (maxSteps := 10000000) (disch := omega) only [↓q_run_s, q_stop_n, q_stop_c, q_lg_c, q_ls_d, q_ld_n, q_ld_c, q_cat_i, q_cat_r, q_cat_n, q_wd_n, q_wd_c, q_bx_1, q_bx_2, q_bx_3, q_bx_4, q_bx_5, q_bx_6, q_bx_7, q_bx_8, q_pop_0, q_pop_s, ↓reduceIte, Nat.reduceEqDiff, reduceCtorEq, eq_self, Bool.false_eq_true, Nat.reduceAdd, Nat.reduceSub, Nat.reduceMul, Nat.reduceLeDiff, Nat.reduceLT, Nat.le_refl, Nat.zero_le, true_and, and_true, false_and, and_false, or_false, false_or, true_or, or_true, not_true_eq_false, not_false_eq_true, if_true, if_false, List.getElem?_cons_zero, List.getElem?_cons_succ, List.set_cons_zero, List.set_cons_succ, List.length_cons, List.length_nil, ↓tX0_fillSteps_0, ↓tX0_fillSteps_1, ↓tX0_fillSteps_2, ↓tX0_fillSteps_3, ↓tX0_fillSteps_4, ↓tX0_fillSteps_7, ↓tX0_fillSteps_8, ↓tX0_fillSteps_11, ↓tX0_fillSteps_14, ↓tX0_fillSteps_15, ↓tX0_fillSteps_16, ↓tX0_fillSteps_17, ↓tX0_fillSteps_18, ↓tX0_fillSteps_21, ↓tX0_fillSteps_22, ↓tX0_fillSteps_23, ↓tX0_fillSteps_24, ↓tX0_fillSteps_25, ↓tX0_fillSteps_26, ↓tX0_fillSteps_29, ↓tX0_fillSteps_30, ↓tX0_fillSteps_31, ↓tX0_fillSteps_32, ↓tX0_fillSteps_33, ↓tX0_fillSteps_34, ↓tX0_fillSteps_35, ↓tX0_fillSteps_36, ↓tX0_fillSteps_39, ↓tX0_fillSteps_42, ↓tX0_fillSteps_43, ↓tX0_fillSteps_45, ↓tX0_fillSteps_48, ↓tX0_fillSteps_49, ↓tX0_fillSteps_52, ↓tX0_fillSteps_53, ↓tX0_fillSteps_54, ↓tX0_fillSteps_55, ↓tX0_fillSteps_58, ↓tX0_fillSteps_59, ↓tX0_fillSteps_60, ↓tX0_fillSteps_61, ↓tX0_fillSteps_63, ↓tX0_fillSteps_64, ↓tX0_fillSteps_66, ↓tX0_fillSteps_68, ↓tX0_fillSteps_69, ↓tX0_fillSteps_70, ↓tX0_fillSteps_71, ↓tX0_fillSteps_74, ↓tX0_fillSteps_75, ↓tX0_fillSteps_78, ↓tX0_fillSteps_80, ↓tX0_fillSteps_81, ↓tX0_fillSteps_82, ↓tX0_fillSteps_83, ↓tX0_fillSteps_84, ↓tX0_fillSteps_85, ↓tX0_fillSteps_86, ↓tX0_fillSteps_87, ↓tX0_fillSteps_88, ↓tX0_fillSteps_89, ↓tX0_fillSteps_92, ↓tX0_fillSteps_94, ↓tX0_fillSteps_95, ↓tX0_fillSteps_96, ↓tX0_fillSteps_97, ↓tX0_fillSteps_98, ↓tX0_fillSteps_99, ↓tX0_fillSteps_101, ↓tX0_fillSteps_102, ↓tX0_fillSteps_103, ↓tX0_fillSteps_106, ↓tX0_fillSteps_109, ↓tX0_fillSteps_112, ↓tX0_fillSteps_115, ↓tX0_fillSteps_118, ↓tX0_fillSteps_121, ↓oAdd, ↓oAl, ↓oAnd, ↓oGet, ↓oGo, ↓oIald, ↓oIast, ↓oIf2ge, ↓oIl, ↓oInc, ↓oIs, ↓oK, ↓oMul, ↓oOr, ↓oShl, ↓oVret, q_set_s, q_set_n, au_0, auO_len, q_up_a, auO_5, au_a5, aus_a5, auO_4, au_a4, aus_a4, auO_6, auO_3, au_a3, aus_a3, z_clamp, z_ltI, z_leI, z_eqI, z_lt0, z_ge0, z_eq0I, z_gt0I, z_le0I, z_m1lt, z_m1ge, z_m1eq, z_m1eq', z_inT, z_add, z_sub, z_mul, z_div, z_rem, n_ltT, n_ltF, n_leT, n_leF, n_eqT, n_eqF, q_tl_i, q_tl_n, q_ap_n, q_ap_c]
      exact hQ g fun c' hc' => ho c' (by omega)
    | succ g1 ih =>
      intro c g hc ho
      have htc := htk c (by omega)
      refine q_X.run sX0_fillSteps [34] 40 ?_
      simp (maxSteps := 10000000) (disch := omega) only [↓q_run_s, q_stop_n, q_stop_c, q_lg_c, q_ls_d, q_ld_n, q_ld_c, q_cat_i, q_cat_r, q_cat_n, q_wd_n, q_wd_c, q_bx_1, q_bx_2, q_bx_3, q_bx_4, q_bx_5, q_bx_6, q_bx_7, q_bx_8, q_pop_0, q_pop_s, ↓reduceIte, Nat.reduceEqDiff, reduceCtorEq, eq_self, Bool.false_eq_true, Nat.reduceAdd, Nat.reduceSub, Nat.reduceMul, Nat.reduceLeDiff, Nat.reduceLT, Nat.le_refl, Nat.zero_le, true_and, and_true, false_and, and_false, or_false, false_or, true_or, or_true, not_true_eq_false, not_false_eq_true, if_true, if_false, List.getElem?_cons_zero, List.getElem?_cons_succ, List.set_cons_zero, List.set_cons_succ, List.length_cons, List.length_nil, ↓tX0_fillSteps_0, ↓tX0_fillSteps_1, ↓tX0_fillSteps_2, ↓tX0_fillSteps_3, ↓tX0_fillSteps_4, ↓tX0_fillSteps_7, ↓tX0_fillSteps_8, ↓tX0_fillSteps_11, ↓tX0_fillSteps_14, ↓tX0_fillSteps_15, ↓tX0_fillSteps_16, ↓tX0_fillSteps_17, ↓tX0_fillSteps_18, ↓tX0_fillSteps_21, ↓tX0_fillSteps_22, ↓tX0_fillSteps_23, ↓tX0_fillSteps_24, ↓tX0_fillSteps_25, ↓tX0_fillSteps_26, ↓tX0_fillSteps_29, ↓tX0_fillSteps_30, ↓tX0_fillSteps_31, ↓tX0_fillSteps_32, ↓tX0_fillSteps_33, ↓tX0_fillSteps_34, ↓tX0_fillSteps_35, ↓tX0_fillSteps_36, ↓tX0_fillSteps_39, ↓tX0_fillSteps_42, ↓tX0_fillSteps_43, ↓tX0_fillSteps_45, ↓tX0_fillSteps_48, ↓tX0_fillSteps_49, ↓tX0_fillSteps_52, ↓tX0_fillSteps_53, ↓tX0_fillSteps_54, ↓tX0_fillSteps_55, ↓tX0_fillSteps_58, ↓tX0_fillSteps_59, ↓tX0_fillSteps_60, ↓tX0_fillSteps_61, ↓tX0_fillSteps_63, ↓tX0_fillSteps_64, ↓tX0_fillSteps_66, ↓tX0_fillSteps_68, ↓tX0_fillSteps_69, ↓tX0_fillSteps_70, ↓tX0_fillSteps_71, ↓tX0_fillSteps_74, ↓tX0_fillSteps_75, ↓tX0_fillSteps_78, ↓tX0_fillSteps_80, ↓tX0_fillSteps_81, ↓tX0_fillSteps_82, ↓tX0_fillSteps_83, ↓tX0_fillSteps_84, ↓tX0_fillSteps_85, ↓tX0_fillSteps_86, ↓tX0_fillSteps_87, ↓tX0_fillSteps_88, ↓tX0_fillSteps_89, ↓tX0_fillSteps_92, ↓tX0_fillSteps_94, ↓tX0_fillSteps_95, ↓tX0_fillSteps_96, ↓tX0_fillSteps_97, ↓tX0_fillSteps_98, ↓tX0_fillSteps_99, ↓tX0_fillSteps_101, ↓tX0_fillSteps_102, ↓tX0_fillSteps_103, ↓tX0_fillSteps_106, ↓tX0_fillSteps_109, ↓tX0_fillSteps_112, ↓tX0_fillSteps_115, ↓tX0_fillSteps_118, ↓tX0_fillSteps_121, ↓oAdd, ↓oAl, ↓oAnd, ↓oGet, ↓oGo, ↓oIald, ↓oIast, ↓oIf2ge, ↓oIl, ↓oInc, ↓oIs, ↓oK, ↓oMul, ↓oOr, ↓oShl, ↓oVret, q_set_s, q_set_n, au_0, auO_len, q_up_a, auO_5, au_a5, aus_a5, auO_4, au_a4, aus_a4, auO_6, auO_3, au_a3, aus_a3, z_clamp, z_ltI, z_leI, z_eqI, z_lt0, z_ge0, z_eq0I, z_gt0I, z_le0I, z_m1lt, z_m1ge, z_m1eq, z_m1eq', z_inT, z_add, z_sub, z_mul, z_div, z_rem, n_ltT, n_ltF, n_leT, n_leF, n_eqT, n_eqF, q_tl_i, q_tl_n, q_ap_n, q_ap_c, h6, htc, z_and, q_upup]
      refine q_X.lv2 _ ?_ (l2 c (by omega) n 0 (upd (upd g (192 + c) (nI (F &&& tk c))) c (nI 0)) (by omega) ?_ ?_ ?_ (fun g' h' => ih (c + 1) g' (by omega) h'))
      · exact ⟨rfl, rfl, rfl, rfl, trivial⟩
      · intro c' hc'
        obtain ⟨o1, o2⟩ := ho c' hc'
        refine ⟨?_, fun S hS => ?_⟩
        · rw [q_ud_n _ _ (by omega), q_ud_n _ _ (by omega)]; exact o1
        · have hS2 : S < 64 := Nat.lt_of_lt_of_le hS (Nat.pow_le_pow_right (n := 2) (j := 6) (by decide) hn)
          rw [q_ud_n _ _ (by omega), q_ud_n _ _ (by omega)]; exact o2 S hS
      · rw [q_ud_n _ _ (by omega), q_ud_s]
      · intro S hS
        have e : S = 0 := by
          have : 2 ^ 0 = 1 := rfl
          omega
        subst e
        rw [Nat.zero_mul, Nat.zero_add, q_ud_s]
        show nI 0 = nI (0 &&& tk c)
        rw [Nat.zero_and]
  refine q_Call.of [(0, .ref i), (1, .int (nI F))] rfl ?_
  refine q_X.run sX0_fillSteps [2] 20 ?_
  simp (maxSteps := 10000000) (disch := omega) only [↓q_run_s, q_stop_n, q_stop_c, q_lg_c, q_ls_d, q_ld_n, q_ld_c, q_cat_i, q_cat_r, q_cat_n, q_wd_n, q_wd_c, q_bx_1, q_bx_2, q_bx_3, q_bx_4, q_bx_5, q_bx_6, q_bx_7, q_bx_8, q_pop_0, q_pop_s, ↓reduceIte, Nat.reduceEqDiff, reduceCtorEq, eq_self, Bool.false_eq_true, Nat.reduceAdd, Nat.reduceSub, Nat.reduceMul, Nat.reduceLeDiff, Nat.reduceLT, Nat.le_refl, Nat.zero_le, true_and, and_true, false_and, and_false, or_false, false_or, true_or, or_true, not_true_eq_false, not_false_eq_true, if_true, if_false, List.getElem?_cons_zero, List.getElem?_cons_succ, List.set_cons_zero, List.set_cons_succ, List.length_cons, List.length_nil, ↓tX0_fillSteps_0, ↓tX0_fillSteps_1, ↓tX0_fillSteps_2, ↓tX0_fillSteps_3, ↓tX0_fillSteps_4, ↓tX0_fillSteps_7, ↓tX0_fillSteps_8, ↓tX0_fillSteps_11, ↓tX0_fillSteps_14, ↓tX0_fillSteps_15, ↓tX0_fillSteps_16, ↓tX0_fillSteps_17, ↓tX0_fillSteps_18, ↓tX0_fillSteps_21, ↓tX0_fillSteps_22, ↓tX0_fillSteps_23, ↓tX0_fillSteps_24, ↓tX0_fillSteps_25, ↓tX0_fillSteps_26, ↓tX0_fillSteps_29, ↓tX0_fillSteps_30, ↓tX0_fillSteps_31, ↓tX0_fillSteps_32, ↓tX0_fillSteps_33, ↓tX0_fillSteps_34, ↓tX0_fillSteps_35, ↓tX0_fillSteps_36, ↓tX0_fillSteps_39, ↓tX0_fillSteps_42, ↓tX0_fillSteps_43, ↓tX0_fillSteps_45, ↓tX0_fillSteps_48, ↓tX0_fillSteps_49, ↓tX0_fillSteps_52, ↓tX0_fillSteps_53, ↓tX0_fillSteps_54, ↓tX0_fillSteps_55, ↓tX0_fillSteps_58, ↓tX0_fillSteps_59, ↓tX0_fillSteps_60, ↓tX0_fillSteps_61, ↓tX0_fillSteps_63, ↓tX0_fillSteps_64, ↓tX0_fillSteps_66, ↓tX0_fillSteps_68, ↓tX0_fillSteps_69, ↓tX0_fillSteps_70, ↓tX0_fillSteps_71, ↓tX0_fillSteps_74, ↓tX0_fillSteps_75, ↓tX0_fillSteps_78, ↓tX0_fillSteps_80, ↓tX0_fillSteps_81, ↓tX0_fillSteps_82, ↓tX0_fillSteps_83, ↓tX0_fillSteps_84, ↓tX0_fillSteps_85, ↓tX0_fillSteps_86, ↓tX0_fillSteps_87, ↓tX0_fillSteps_88, ↓tX0_fillSteps_89, ↓tX0_fillSteps_92, ↓tX0_fillSteps_94, ↓tX0_fillSteps_95, ↓tX0_fillSteps_96, ↓tX0_fillSteps_97, ↓tX0_fillSteps_98, ↓tX0_fillSteps_99, ↓tX0_fillSteps_101, ↓tX0_fillSteps_102, ↓tX0_fillSteps_103, ↓tX0_fillSteps_106, ↓tX0_fillSteps_109, ↓tX0_fillSteps_112, ↓tX0_fillSteps_115, ↓tX0_fillSteps_118, ↓tX0_fillSteps_121, ↓oAdd, ↓oAl, ↓oAnd, ↓oGet, ↓oGo, ↓oIald, ↓oIast, ↓oIf2ge, ↓oIl, ↓oInc, ↓oIs, ↓oK, ↓oMul, ↓oOr, ↓oShl, ↓oVret, q_set_s, q_set_n, au_0, auO_len, q_up_a, auO_5, au_a5, aus_a5, auO_4, au_a4, aus_a4, auO_6, auO_3, au_a3, aus_a3, z_clamp, z_ltI, z_leI, z_eqI, z_lt0, z_ge0, z_eq0I, z_gt0I, z_le0I, z_m1lt, z_m1ge, z_m1eq, z_m1eq', z_inT, z_add, z_sub, z_mul, z_div, z_rem, n_ltT, n_ltF, n_leT, n_leF, n_eqT, n_eqF, q_tl_i, q_tl_n, q_ap_n, q_ap_c]
  have h := l1 3 0 (A 5) rfl (fun c' h => absurd h (by omega))
  rw [q_upid] at h
  refine q_X.lv2 _ ?_ h
  exact ⟨rfl, rfl, rfl, trivial⟩
end
