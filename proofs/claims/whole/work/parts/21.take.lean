/-! rows by their numbers -/
/-- v is the number of a row of n letters -/
def q_isRow (v : Int32) (n N : Nat) : Prop := v = nI N ∧ 3 ^ n ≤ N ∧ N < 2 * 3 ^ n ∧ n ≤ 12
/-- its letter at k -/
def w_at (N n k : Nat) : Nat := N / 3 ^ (n - 1 - k) % 3
theorem w_at_lt (N n k : Nat) : w_at N n k < 3 := Nat.mod_lt _ (by decide)
theorem q_pow_le {n : Nat} (h : n ≤ 12) : 3 ^ n ≤ 531441 := Nat.pow_le_pow_right (n := 3) (by decide) h
theorem q_pow_pos (n : Nat) : 1 ≤ 3 ^ n := Nat.pow_pos (by decide)
theorem q_isRow.lt {v : Int32} {n N : Nat} (h : q_isRow v n N) : N < 1062882 := by
  have := q_pow_le h.2.2.2
  have := h.2.2.1
  omega
theorem q_nn {v : Int32} (h : 0 ≤ v) : ∃ N : Nat, N < 2147483648 ∧ v = nI N := by
  have h0 : (0 : Int) ≤ v.toInt := by
    have := Int32.le_iff_toInt_le.mp h
    simpa using this
  have h1 : v.toInt < 2147483648 := by
    have := Int32.toInt_lt v
    simpa using this
  refine ⟨v.toInt.toNat, by omega, Int32.toInt_inj.mp ?_⟩
  rw [nI_toInt (by omega)]
  omega
/-- a row's number tells its letters' number -/
theorem q_isRow_inj {v : Int32} {n N n' N' : Nat} (h : q_isRow v n N) (h' : q_isRow v n' N') : n = n' ∧ N = N' := by
  have e : N = N' := (nI_eq (by have := h.lt; omega) (by have := h'.lt; omega)).mp (h.1.symm.trans h'.1)
  subst e
  refine ⟨?_, rfl⟩
  have key : ∀ a b : Nat, a < b → 3 ^ b ≤ N → N < 2 * 3 ^ a → False := by
    intro a b hab h1 h2
    have : 3 ^ (a + 1) ≤ 3 ^ b := Nat.pow_le_pow_right (by decide) hab
    rw [Nat.pow_succ] at this
    omega
  rcases Nat.lt_trichotomy n n' with g | g | g
  · exact (key n n' g h'.2.1 h.2.2.1).elim
  · exact g
  · exact (key n' n g h.2.1 h'.2.2.1).elim
section
variable {G : qC} {L : Launch} {d : Nat} {M : qM} {Q : Option Value → qM → Prop} {M0 : qM} {r : Nat} {s : Nat → Int32} {A : Nat → Nat → Int32} {B : Nat → Nat → Int64}
set_option maxRecDepth 100000 in
set_option maxHeartbeats 4000000 in
theorem c11_lengthOf {v : Int32} (hT : ∀ n N, q_isRow v n N → Q (some (.int (nI n))) M) (hF : (∀ n N, ¬ q_isRow v n N) → Q (some (.int (-1))) M) : q_Call G L d mX11_lengthOf 0 0 [.int v] M Q := by
  have loop : ∀ (g j : Nat), g + j = 13 → (∀ n N, n < j → ¬ q_isRow v n N) → q_X G L d mX11_lengthOf 0 0 Q 2 [(0, .int v), (1, .int (nI j))] [] M 0 0 := by
    intro g
    induction g with
    | zero =>
      intro j hj hno
      have e : j = 13 := by omega
      subst e
      refine q_X.mem fun hro _ => ?_
      obtain ⟨-, h2, -⟩ := hro
      refine q_X.run sX11_lengthOf [] 40 ?_
      simp (maxSteps := 10000000) (disch := omega) only [↓q_run_s, q_stop_n, q_stop_c, q_lg_c, q_ls_d, q_ld_n, q_ld_c, q_cat_i, q_cat_r, q_cat_n, q_wd_n, q_wd_c, q_bx_1, q_bx_2, q_bx_3, q_bx_4, q_bx_5, q_bx_6, q_bx_7, q_bx_8, q_pop_0, q_pop_s, ↓reduceIte, Nat.reduceEqDiff, reduceCtorEq, eq_self, Bool.false_eq_true, Nat.reduceAdd, Nat.reduceSub, Nat.reduceMul, Nat.reduceLeDiff, Nat.reduceLT, Nat.le_refl, Nat.zero_le, true_and, and_true, false_and, and_false, or_false, false_or, true_or, or_true, not_true_eq_false, not_false_eq_true, if_true, if_false, List.getElem?_cons_zero, List.getElem?_cons_succ, List.set_cons_zero, List.set_cons_succ, List.length_cons, List.length_nil, ↓tX11_lengthOf_0, ↓tX11_lengthOf_1, ↓tX11_lengthOf_2, ↓tX11_lengthOf_3, ↓tX11_lengthOf_6, ↓tX11_lengthOf_7, ↓tX11_lengthOf_10, ↓tX11_lengthOf_11, ↓tX11_lengthOf_14, ↓tX11_lengthOf_15, ↓tX11_lengthOf_16, ↓tX11_lengthOf_19, ↓tX11_lengthOf_20, ↓tX11_lengthOf_21, ↓tX11_lengthOf_24, ↓tX11_lengthOf_25, ↓tX11_lengthOf_26, ↓tX11_lengthOf_27, ↓tX11_lengthOf_30, ↓tX11_lengthOf_31, ↓tX11_lengthOf_32, ↓tX11_lengthOf_35, ↓tX11_lengthOf_38, ↓tX11_lengthOf_39, ↓oAlen, ↓oGo, ↓oIald, ↓oIf2ge, ↓oIf2lt, ↓oIl, ↓oInc, ↓oIret, ↓oIs, ↓oK, ↓oMul, ↓oStW, q_set_s, q_set_n, q_roO, q_roW, z_clamp, z_ltI, z_leI, z_eqI, z_lt0, z_ge0, z_eq0I, z_gt0I, z_le0I, z_m1lt, z_m1ge, z_m1eq, z_m1eq', z_inT, z_add, z_sub, z_mul, z_div, z_rem, n_ltT, n_ltF, n_leT, n_leF, n_eqT, n_eqF, q_tl_i, q_tl_n, q_ap_n, q_ap_c, h2]
      exact hF fun n N h => hno n N (by have := h.2.2.2; omega) h
    | succ g ih =>
      intro j hj hno
      have h3 := q_pow_le (n := j) (by omega)
      have next : (∀ N, ¬ q_isRow v j N) → q_X G L d mX11_lengthOf 0 0 Q 2 [(1, .int (nI (j + 1))), (0, .int v)] [] M 0 0 := by
        intro h
        refine q_X.lv2 _ ?_ (ih (j + 1) (by omega) ?_)
        · exact ⟨rfl, rfl, trivial⟩
        · intro n N hn hh
          rcases Nat.lt_or_eq_of_le (Nat.le_of_lt_succ hn) with g' | g'
          · exact hno n N g' hh
          · exact h N (g' ▸ hh)
      refine q_X.mem fun hro _ => ?_
      obtain ⟨-, h2, -⟩ := hro
      by_cases hv : 0 ≤ v
      · obtain ⟨N, hN, rfl⟩ := q_nn hv
        by_cases c1 : N < 3 ^ j
        · refine q_X.run sX11_lengthOf [2] 40 ?_
          simp (maxSteps := 10000000) (disch := omega) only [↓q_run_s, q_stop_n, q_stop_c, q_lg_c, q_ls_d, q_ld_n, q_ld_c, q_cat_i, q_cat_r, q_cat_n, q_wd_n, q_wd_c, q_bx_1, q_bx_2, q_bx_3, q_bx_4, q_bx_5, q_bx_6, q_bx_7, q_bx_8, q_pop_0, q_pop_s, ↓reduceIte, Nat.reduceEqDiff, reduceCtorEq, eq_self, Bool.false_eq_true, Nat.reduceAdd, Nat.reduceSub, Nat.reduceMul, Nat.reduceLeDiff, Nat.reduceLT, Nat.le_refl, Nat.zero_le, true_and, and_true, false_and, and_false, or_false, false_or, true_or, or_true, not_true_eq_false, not_false_eq_true, if_true, if_false, List.getElem?_cons_zero, List.getElem?_cons_succ, List.set_cons_zero, List.set_cons_succ, List.length_cons, List.length_nil, ↓tX11_lengthOf_0, ↓tX11_lengthOf_1, ↓tX11_lengthOf_2, ↓tX11_lengthOf_3, ↓tX11_lengthOf_6, ↓tX11_lengthOf_7, ↓tX11_lengthOf_10, ↓tX11_lengthOf_11, ↓tX11_lengthOf_14, ↓tX11_lengthOf_15, ↓tX11_lengthOf_16, ↓tX11_lengthOf_19, ↓tX11_lengthOf_20, ↓tX11_lengthOf_21, ↓tX11_lengthOf_24, ↓tX11_lengthOf_25, ↓tX11_lengthOf_26, ↓tX11_lengthOf_27, ↓tX11_lengthOf_30, ↓tX11_lengthOf_31, ↓tX11_lengthOf_32, ↓tX11_lengthOf_35, ↓tX11_lengthOf_38, ↓tX11_lengthOf_39, ↓oAlen, ↓oGo, ↓oIald, ↓oIf2ge, ↓oIf2lt, ↓oIl, ↓oInc, ↓oIret, ↓oIs, ↓oK, ↓oMul, ↓oStW, q_set_s, q_set_n, q_roO, q_roW, z_clamp, z_ltI, z_leI, z_eqI, z_lt0, z_ge0, z_eq0I, z_gt0I, z_le0I, z_m1lt, z_m1ge, z_m1eq, z_m1eq', z_inT, z_add, z_sub, z_mul, z_div, z_rem, n_ltT, n_ltF, n_leT, n_leF, n_eqT, n_eqF, q_tl_i, q_tl_n, q_ap_n, q_ap_c, h2, q_pow, c1]
          exact next fun N' h => by
            have e := (nI_eq (by have := h.lt; omega) hN).mp h.1.symm
            have := h.2.1
            omega
        · by_cases c2 : 2 * 3 ^ j ≤ N
          · refine q_X.run sX11_lengthOf [2] 40 ?_
            simp (maxSteps := 10000000) (disch := omega) only [↓q_run_s, q_stop_n, q_stop_c, q_lg_c, q_ls_d, q_ld_n, q_ld_c, q_cat_i, q_cat_r, q_cat_n, q_wd_n, q_wd_c, q_bx_1, q_bx_2, q_bx_3, q_bx_4, q_bx_5, q_bx_6, q_bx_7, q_bx_8, q_pop_0, q_pop_s, ↓reduceIte, Nat.reduceEqDiff, reduceCtorEq, eq_self, Bool.false_eq_true, Nat.reduceAdd, Nat.reduceSub, Nat.reduceMul, Nat.reduceLeDiff, Nat.reduceLT, Nat.le_refl, Nat.zero_le, true_and, and_true, false_and, and_false, or_false, false_or, true_or, or_true, not_true_eq_false, not_false_eq_true, if_true, if_false, List.getElem?_cons_zero, List.getElem?_cons_succ, List.set_cons_zero, List.set_cons_succ, List.length_cons, List.length_nil, ↓tX11_lengthOf_0, ↓tX11_lengthOf_1, ↓tX11_lengthOf_2, ↓tX11_lengthOf_3, ↓tX11_lengthOf_6, ↓tX11_lengthOf_7, ↓tX11_lengthOf_10, ↓tX11_lengthOf_11, ↓tX11_lengthOf_14, ↓tX11_lengthOf_15, ↓tX11_lengthOf_16, ↓tX11_lengthOf_19, ↓tX11_lengthOf_20, ↓tX11_lengthOf_21, ↓tX11_lengthOf_24, ↓tX11_lengthOf_25, ↓tX11_lengthOf_26, ↓tX11_lengthOf_27, ↓tX11_lengthOf_30, ↓tX11_lengthOf_31, ↓tX11_lengthOf_32, ↓tX11_lengthOf_35, ↓tX11_lengthOf_38, ↓tX11_lengthOf_39, ↓oAlen, ↓oGo, ↓oIald, ↓oIf2ge, ↓oIf2lt, ↓oIl, ↓oInc, ↓oIret, ↓oIs, ↓oK, ↓oMul, ↓oStW, q_set_s, q_set_n, q_roO, q_roW, z_clamp, z_ltI, z_leI, z_eqI, z_lt0, z_ge0, z_eq0I, z_gt0I, z_le0I, z_m1lt, z_m1ge, z_m1eq, z_m1eq', z_inT, z_add, z_sub, z_mul, z_div, z_rem, n_ltT, n_ltF, n_leT, n_leF, n_eqT, n_eqF, q_tl_i, q_tl_n, q_ap_n, q_ap_c, h2, q_pow, c1, c2]
            exact next fun N' h => by
              have e := (nI_eq (by have := h.lt; omega) hN).mp h.1.symm
              have := h.2.2.1
              omega
          · refine q_X.run sX11_lengthOf [2] 40 ?_
            simp (maxSteps := 10000000) (disch := omega) only [↓q_run_s, q_stop_n, q_stop_c, q_lg_c, q_ls_d, q_ld_n, q_ld_c, q_cat_i, q_cat_r, q_cat_n, q_wd_n, q_wd_c, q_bx_1, q_bx_2, q_bx_3, q_bx_4, q_bx_5, q_bx_6, q_bx_7, q_bx_8, q_pop_0, q_pop_s, ↓reduceIte, Nat.reduceEqDiff, reduceCtorEq, eq_self, Bool.false_eq_true, Nat.reduceAdd, Nat.reduceSub, Nat.reduceMul, Nat.reduceLeDiff, Nat.reduceLT, Nat.le_refl, Nat.zero_le, true_and, and_true, false_and, and_false, or_false, false_or, true_or, or_true, not_true_eq_false, not_false_eq_true, if_true, if_false, List.getElem?_cons_zero, List.getElem?_cons_succ, List.set_cons_zero, List.set_cons_succ, List.length_cons, List.length_nil, ↓tX11_lengthOf_0, ↓tX11_lengthOf_1, ↓tX11_lengthOf_2, ↓tX11_lengthOf_3, ↓tX11_lengthOf_6, ↓tX11_lengthOf_7, ↓tX11_lengthOf_10, ↓tX11_lengthOf_11, ↓tX11_lengthOf_14, ↓tX11_lengthOf_15, ↓tX11_lengthOf_16, ↓tX11_lengthOf_19, ↓tX11_lengthOf_20, ↓tX11_lengthOf_21, ↓tX11_lengthOf_24, ↓tX11_lengthOf_25, ↓tX11_lengthOf_26, ↓tX11_lengthOf_27, ↓tX11_lengthOf_30, ↓tX11_lengthOf_31, ↓tX11_lengthOf_32, ↓tX11_lengthOf_35, ↓tX11_lengthOf_38, ↓tX11_lengthOf_39, ↓oAlen, ↓oGo, ↓oIald, ↓oIf2ge, ↓oIf2lt, ↓oIl, ↓oInc, ↓oIret, ↓oIs, ↓oK, ↓oMul, ↓oStW, q_set_s, q_set_n, q_roO, q_roW, z_clamp, z_ltI, z_leI, z_eqI, z_lt0, z_ge0, z_eq0I, z_gt0I, z_le0I, z_m1lt, z_m1ge, z_m1eq, z_m1eq', z_inT, z_add, z_sub, z_mul, z_div, z_rem, n_ltT, n_ltF, n_leT, n_leF, n_eqT, n_eqF, q_tl_i, q_tl_n, q_ap_n, q_ap_c, h2, q_pow, c1, c2]
            exact hT j N ⟨rfl, by omega, by omega, by omega⟩
      · have c1 : v < nI (3 ^ j) := by
          have g1 := Int32.not_le.mp hv
          have g2 : (0 : Int32) ≤ nI (3 ^ j) := nI_pos' (by omega)
          rw [Int32.lt_iff_toInt_lt] at g1 ⊢
          rw [Int32.le_iff_toInt_le] at g2
          omega
        refine q_X.run sX11_lengthOf [2] 40 ?_
        simp (maxSteps := 10000000) (disch := omega) only [↓q_run_s, q_stop_n, q_stop_c, q_lg_c, q_ls_d, q_ld_n, q_ld_c, q_cat_i, q_cat_r, q_cat_n, q_wd_n, q_wd_c, q_bx_1, q_bx_2, q_bx_3, q_bx_4, q_bx_5, q_bx_6, q_bx_7, q_bx_8, q_pop_0, q_pop_s, ↓reduceIte, Nat.reduceEqDiff, reduceCtorEq, eq_self, Bool.false_eq_true, Nat.reduceAdd, Nat.reduceSub, Nat.reduceMul, Nat.reduceLeDiff, Nat.reduceLT, Nat.le_refl, Nat.zero_le, true_and, and_true, false_and, and_false, or_false, false_or, true_or, or_true, not_true_eq_false, not_false_eq_true, if_true, if_false, List.getElem?_cons_zero, List.getElem?_cons_succ, List.set_cons_zero, List.set_cons_succ, List.length_cons, List.length_nil, ↓tX11_lengthOf_0, ↓tX11_lengthOf_1, ↓tX11_lengthOf_2, ↓tX11_lengthOf_3, ↓tX11_lengthOf_6, ↓tX11_lengthOf_7, ↓tX11_lengthOf_10, ↓tX11_lengthOf_11, ↓tX11_lengthOf_14, ↓tX11_lengthOf_15, ↓tX11_lengthOf_16, ↓tX11_lengthOf_19, ↓tX11_lengthOf_20, ↓tX11_lengthOf_21, ↓tX11_lengthOf_24, ↓tX11_lengthOf_25, ↓tX11_lengthOf_26, ↓tX11_lengthOf_27, ↓tX11_lengthOf_30, ↓tX11_lengthOf_31, ↓tX11_lengthOf_32, ↓tX11_lengthOf_35, ↓tX11_lengthOf_38, ↓tX11_lengthOf_39, ↓oAlen, ↓oGo, ↓oIald, ↓oIf2ge, ↓oIf2lt, ↓oIl, ↓oInc, ↓oIret, ↓oIs, ↓oK, ↓oMul, ↓oStW, q_set_s, q_set_n, q_roO, q_roW, z_clamp, z_ltI, z_leI, z_eqI, z_lt0, z_ge0, z_eq0I, z_gt0I, z_le0I, z_m1lt, z_m1ge, z_m1eq, z_m1eq', z_inT, z_add, z_sub, z_mul, z_div, z_rem, n_ltT, n_ltF, n_leT, n_leF, n_eqT, n_eqF, q_tl_i, q_tl_n, q_ap_n, q_ap_c, h2, q_pow, c1]
        exact next fun N h => by
          have := h.lt
          have g2 : (0 : Int32) ≤ nI N := nI_pos' (by omega)
          exact hv (h.1 ▸ g2)
  refine q_Call.of [(0, .int v)] rfl ?_
  refine q_X.run sX11_lengthOf [2] 10 ?_
  simp (maxSteps := 10000000) (disch := omega) only [↓q_run_s, q_stop_n, q_stop_c, q_lg_c, q_ls_d, q_ld_n, q_ld_c, q_cat_i, q_cat_r, q_cat_n, q_wd_n, q_wd_c, q_bx_1, q_bx_2, q_bx_3, q_bx_4, q_bx_5, q_bx_6, q_bx_7, q_bx_8, q_pop_0, q_pop_s, ↓reduceIte, Nat.reduceEqDiff, reduceCtorEq, eq_self, Bool.false_eq_true, Nat.reduceAdd, Nat.reduceSub, Nat.reduceMul, Nat.reduceLeDiff, Nat.reduceLT, Nat.le_refl, Nat.zero_le, true_and, and_true, false_and, and_false, or_false, false_or, true_or, or_true, not_true_eq_false, not_false_eq_true, if_true, if_false, List.getElem?_cons_zero, List.getElem?_cons_succ, List.set_cons_zero, List.set_cons_succ, List.length_cons, List.length_nil, ↓tX11_lengthOf_0, ↓tX11_lengthOf_1, ↓tX11_lengthOf_2, ↓tX11_lengthOf_3, ↓tX11_lengthOf_6, ↓tX11_lengthOf_7, ↓tX11_lengthOf_10, ↓tX11_lengthOf_11, ↓tX11_lengthOf_14, ↓tX11_lengthOf_15, ↓tX11_lengthOf_16, ↓tX11_lengthOf_19, ↓tX11_lengthOf_20, ↓tX11_lengthOf_21, ↓tX11_lengthOf_24, ↓tX11_lengthOf_25, ↓tX11_lengthOf_26, ↓tX11_lengthOf_27, ↓tX11_lengthOf_30, ↓tX11_lengthOf_31, ↓tX11_lengthOf_32, ↓tX11_lengthOf_35, ↓tX11_lengthOf_38, ↓tX11_lengthOf_39, ↓oAlen, ↓oGo, ↓oIald, ↓oIf2ge, ↓oIf2lt, ↓oIl, ↓oInc, ↓oIret, ↓oIs, ↓oK, ↓oMul, ↓oStW, q_set_s, q_set_n, q_roO, q_roW, z_clamp, z_ltI, z_leI, z_eqI, z_lt0, z_ge0, z_eq0I, z_gt0I, z_le0I, z_m1lt, z_m1ge, z_m1eq, z_m1eq', z_inT, z_add, z_sub, z_mul, z_div, z_rem, n_ltT, n_ltF, n_leT, n_leF, n_eqT, n_eqF, q_tl_i, q_tl_n, q_ap_n, q_ap_c]
  refine q_X.lv2 _ ?_ (loop 13 0 rfl (fun n N h => absurd h (by omega)))
  exact ⟨rfl, rfl, trivial⟩
set_option maxRecDepth 100000 in
set_option maxHeartbeats 4000000 in
theorem c11_letterAt {N n k : Nat} (hN : N < 2147483648) (hn : n ≤ 12) (hk : k < n) (hQ : Q (some (.int (nI (w_at N n k)))) M) : q_Call G L d mX11_letterAt 0 0 [.int (nI N), .int (nI n), .int (nI k)] M Q := by
  have loop : ∀ (g i R : Nat), g + i = n - 1 - k → R = N / 3 ^ i → R < 2147483648 → q_X G L d mX11_letterAt 0 0 Q 7 [(0, .int (nI N)), (1, .int (nI n)), (2, .int (nI k)), (3, .int (nI R)), (4, .int (nI (k + 1 + i)))] [] M 0 0 := by
    intro g
    induction g with
    | zero =>
      intro i R hi hR hR2
      have e : i = n - 1 - k := by omega
      subst e
      refine q_X.run sX11_letterAt [] 20 ?_
      simp (maxSteps := 10000000) (disch := omega) only [↓q_run_s, q_stop_n, q_stop_c, q_lg_c, q_ls_d, q_ld_n, q_ld_c, q_cat_i, q_cat_r, q_cat_n, q_wd_n, q_wd_c, q_bx_1, q_bx_2, q_bx_3, q_bx_4, q_bx_5, q_bx_6, q_bx_7, q_bx_8, q_pop_0, q_pop_s, ↓reduceIte, Nat.reduceEqDiff, reduceCtorEq, eq_self, Bool.false_eq_true, Nat.reduceAdd, Nat.reduceSub, Nat.reduceMul, Nat.reduceLeDiff, Nat.reduceLT, Nat.le_refl, Nat.zero_le, true_and, and_true, false_and, and_false, or_false, false_or, true_or, or_true, not_true_eq_false, not_false_eq_true, if_true, if_false, List.getElem?_cons_zero, List.getElem?_cons_succ, List.set_cons_zero, List.set_cons_succ, List.length_cons, List.length_nil, ↓tX11_letterAt_0, ↓tX11_letterAt_1, ↓tX11_letterAt_2, ↓tX11_letterAt_3, ↓tX11_letterAt_4, ↓tX11_letterAt_5, ↓tX11_letterAt_7, ↓tX11_letterAt_9, ↓tX11_letterAt_10, ↓tX11_letterAt_13, ↓tX11_letterAt_14, ↓tX11_letterAt_15, ↓tX11_letterAt_16, ↓tX11_letterAt_17, ↓tX11_letterAt_20, ↓tX11_letterAt_23, ↓tX11_letterAt_24, ↓tX11_letterAt_25, ↓tX11_letterAt_26, ↓oAdd, ↓oDiv, ↓oGo, ↓oIf2ge, ↓oIl, ↓oInc, ↓oIret, ↓oIs, ↓oK, ↓oRem, q_set_s, q_set_n, z_clamp, z_ltI, z_leI, z_eqI, z_lt0, z_ge0, z_eq0I, z_gt0I, z_le0I, z_m1lt, z_m1ge, z_m1eq, z_m1eq', z_inT, z_add, z_sub, z_mul, z_div, z_rem, n_ltT, n_ltF, n_leT, n_leF, n_eqT, n_eqF, q_tl_i, q_tl_n, q_ap_n, q_ap_c]
      rw [hR]
      exact hQ
    | succ g ih =>
      intro i R hi hR hR2
      refine q_X.run sX11_letterAt [7] 20 ?_
      simp (maxSteps := 10000000) (disch := omega) only [↓q_run_s, q_stop_n, q_stop_c, q_lg_c, q_ls_d, q_ld_n, q_ld_c, q_cat_i, q_cat_r, q_cat_n, q_wd_n, q_wd_c, q_bx_1, q_bx_2, q_bx_3, q_bx_4, q_bx_5, q_bx_6, q_bx_7, q_bx_8, q_pop_0, q_pop_s, ↓reduceIte, Nat.reduceEqDiff, reduceCtorEq, eq_self, Bool.false_eq_true, Nat.reduceAdd, Nat.reduceSub, Nat.reduceMul, Nat.reduceLeDiff, Nat.reduceLT, Nat.le_refl, Nat.zero_le, true_and, and_true, false_and, and_false, or_false, false_or, true_or, or_true, not_true_eq_false, not_false_eq_true, if_true, if_false, List.getElem?_cons_zero, List.getElem?_cons_succ, List.set_cons_zero, List.set_cons_succ, List.length_cons, List.length_nil, ↓tX11_letterAt_0, ↓tX11_letterAt_1, ↓tX11_letterAt_2, ↓tX11_letterAt_3, ↓tX11_letterAt_4, ↓tX11_letterAt_5, ↓tX11_letterAt_7, ↓tX11_letterAt_9, ↓tX11_letterAt_10, ↓tX11_letterAt_13, ↓tX11_letterAt_14, ↓tX11_letterAt_15, ↓tX11_letterAt_16, ↓tX11_letterAt_17, ↓tX11_letterAt_20, ↓tX11_letterAt_23, ↓tX11_letterAt_24, ↓tX11_letterAt_25, ↓tX11_letterAt_26, ↓oAdd, ↓oDiv, ↓oGo, ↓oIf2ge, ↓oIl, ↓oInc, ↓oIret, ↓oIs, ↓oK, ↓oRem, q_set_s, q_set_n, z_clamp, z_ltI, z_leI, z_eqI, z_lt0, z_ge0, z_eq0I, z_gt0I, z_le0I, z_m1lt, z_m1ge, z_m1eq, z_m1eq', z_inT, z_add, z_sub, z_mul, z_div, z_rem, n_ltT, n_ltF, n_leT, n_leF, n_eqT, n_eqF, q_tl_i, q_tl_n, q_ap_n, q_ap_c]
      have e2 : R / 3 = N / 3 ^ (i + 1) := by rw [hR, Nat.div_div_eq_div_mul, Nat.pow_succ]
      refine q_X.lv2 _ ?_ (ih (i + 1) (R / 3) (by omega) e2 (by omega))
      exact ⟨rfl, rfl, rfl, rfl, rfl, trivial⟩
  refine q_Call.of [(0, .int (nI N)), (1, .int (nI n)), (2, .int (nI k))] rfl ?_
  refine q_X.run sX11_letterAt [7] 20 ?_
  simp (maxSteps := 10000000) (disch := omega) only [↓q_run_s, q_stop_n, q_stop_c, q_lg_c, q_ls_d, q_ld_n, q_ld_c, q_cat_i, q_cat_r, q_cat_n, q_wd_n, q_wd_c, q_bx_1, q_bx_2, q_bx_3, q_bx_4, q_bx_5, q_bx_6, q_bx_7, q_bx_8, q_pop_0, q_pop_s, ↓reduceIte, Nat.reduceEqDiff, reduceCtorEq, eq_self, Bool.false_eq_true, Nat.reduceAdd, Nat.reduceSub, Nat.reduceMul, Nat.reduceLeDiff, Nat.reduceLT, Nat.le_refl, Nat.zero_le, true_and, and_true, false_and, and_false, or_false, false_or, true_or, or_true, not_true_eq_false, not_false_eq_true, if_true, if_false, List.getElem?_cons_zero, List.getElem?_cons_succ, List.set_cons_zero, List.set_cons_succ, List.length_cons, List.length_nil, ↓tX11_letterAt_0, ↓tX11_letterAt_1, ↓tX11_letterAt_2, ↓tX11_letterAt_3, ↓tX11_letterAt_4, ↓tX11_letterAt_5, ↓tX11_letterAt_7, ↓tX11_letterAt_9, ↓tX11_letterAt_10, ↓tX11_letterAt_13, ↓tX11_letterAt_14, ↓tX11_letterAt_15, ↓tX11_letterAt_16, ↓tX11_letterAt_17, ↓tX11_letterAt_20, ↓tX11_letterAt_23, ↓tX11_letterAt_24, ↓tX11_letterAt_25, ↓tX11_letterAt_26, ↓oAdd, ↓oDiv, ↓oGo, ↓oIf2ge, ↓oIl, ↓oInc, ↓oIret, ↓oIs, ↓oK, ↓oRem, q_set_s, q_set_n, z_clamp, z_ltI, z_leI, z_eqI, z_lt0, z_ge0, z_eq0I, z_gt0I, z_le0I, z_m1lt, z_m1ge, z_m1eq, z_m1eq', z_inT, z_add, z_sub, z_mul, z_div, z_rem, n_ltT, n_ltF, n_leT, n_leF, n_eqT, n_eqF, q_tl_i, q_tl_n, q_ap_n, q_ap_c]
  refine q_X.lv2 _ ?_ (loop (n - 1 - k) 0 N (by omega) (by rw [Nat.pow_zero, Nat.div_one]) hN)
  exact ⟨rfl, rfl, rfl, rfl, rfl, trivial⟩
set_option maxRecDepth 100000 in
set_option maxHeartbeats 4000000 in
theorem c12_take {v : Int32} {most : Nat} (hm : most ≤ 12) (hT : ∀ n N f, q_isRow v n N → n ≤ most → (∀ k, k < n → f k = nI (w_at N n k)) → Q (some (.int (nI 1))) (q_md M0 r (va_up s 2 (nI n)) (va_up A 1 f) B)) (hF : (∀ n N, n ≤ most → ¬ q_isRow v n N) → ∀ x f, Q (some (.int (nI 0))) (q_md M0 r (va_up s 2 x) (va_up A 1 f) B)) : q_Call G L d mX12_take 0 0 [.ref r, .int v, .int (nI most)] (q_md M0 r s A B) Q := by
  refine q_Call.of [(0, .ref r), (1, .int v), (2, .int (nI most))] rfl ?_
  by_cases hv : nI 1 ≤ v
  · have hv0 : 0 ≤ v := by
      have g2 : (0 : Int32) ≤ nI 1 := nI_pos' (by omega)
      rw [Int32.le_iff_toInt_le] at g2 hv ⊢
      omega
    obtain ⟨N, hN, rfl⟩ := q_nn hv0
    have hN1 : 1 ≤ N := (nI_leI (by omega) hN).mp hv
    have rev : ∀ (i R : Nat) (f0 : Nat → Nat), i ≤ most → R < 3 → 1 ≤ R → R = N / 3 ^ i → (∀ j, j < i → f0 j = N / 3 ^ j % 3) → ∀ (g k : Nat) (f : Nat → Int32), g + k = i / 2 → (∀ j, j < i → f j = nI (if j < k ∨ i - k ≤ j then f0 (i - 1 - j) else f0 j)) → q_X G L d mX12_take 0 0 Q 61 [(0, .ref r), (1, .int (nI N)), (2, .int (nI most)), (3, .int (nI R)), (4, .int (nI k))] [] (q_md M0 r (va_up s 2 (nI i)) (va_up A 1 f) B) 0 0 := by
      intro i R f0 hi hR hR1 hRe hf0 g
      induction g with
      | zero =>
        intro k f hk hf
        have hf2 : ∀ j, j < i → f j = nI (w_at N i j) := by
          intro j hj
          rw [hf j hj]
          by_cases c : j < k ∨ i - k ≤ j
          · rw [if_pos c, hf0 _ (by omega)]; rfl
          · rw [if_neg c]
            have e : j = i - 1 - j := by omega
            rw [hf0 _ hj]
            unfold w_at
            rw [← e]
        have hp := q_pow_pos i
        by_cases c : R = 1
        · refine q_X.run sX12_take [] 40 ?_
          simp (maxSteps := 10000000) (disch := omega) only [↓q_run_s, q_stop_n, q_stop_c, q_lg_c, q_ls_d, q_ld_n, q_ld_c, q_cat_i, q_cat_r, q_cat_n, q_wd_n, q_wd_c, q_bx_1, q_bx_2, q_bx_3, q_bx_4, q_bx_5, q_bx_6, q_bx_7, q_bx_8, q_pop_0, q_pop_s, ↓reduceIte, Nat.reduceEqDiff, reduceCtorEq, eq_self, Bool.false_eq_true, Nat.reduceAdd, Nat.reduceSub, Nat.reduceMul, Nat.reduceLeDiff, Nat.reduceLT, Nat.le_refl, Nat.zero_le, true_and, and_true, false_and, and_false, or_false, false_or, true_or, or_true, not_true_eq_false, not_false_eq_true, if_true, if_false, List.getElem?_cons_zero, List.getElem?_cons_succ, List.set_cons_zero, List.set_cons_succ, List.length_cons, List.length_nil, ↓tX12_take_0, ↓tX12_take_1, ↓tX12_take_2, ↓tX12_take_3, ↓tX12_take_4, ↓tX12_take_7, ↓tX12_take_8, ↓tX12_take_9, ↓tX12_take_12, ↓tX12_take_13, ↓tX12_take_14, ↓tX12_take_15, ↓tX12_take_16, ↓tX12_take_19, ↓tX12_take_20, ↓tX12_take_23, ↓tX12_take_24, ↓tX12_take_27, ↓tX12_take_28, ↓tX12_take_29, ↓tX12_take_30, ↓tX12_take_33, ↓tX12_take_34, ↓tX12_take_37, ↓tX12_take_38, ↓tX12_take_39, ↓tX12_take_40, ↓tX12_take_41, ↓tX12_take_42, ↓tX12_take_43, ↓tX12_take_46, ↓tX12_take_47, ↓tX12_take_48, ↓tX12_take_51, ↓tX12_take_52, ↓tX12_take_53, ↓tX12_take_54, ↓tX12_take_55, ↓tX12_take_58, ↓tX12_take_59, ↓tX12_take_61, ↓tX12_take_63, ↓tX12_take_64, ↓tX12_take_67, ↓tX12_take_68, ↓tX12_take_69, ↓tX12_take_72, ↓tX12_take_73, ↓tX12_take_76, ↓tX12_take_78, ↓tX12_take_79, ↓tX12_take_81, ↓tX12_take_82, ↓tX12_take_85, ↓tX12_take_87, ↓tX12_take_88, ↓tX12_take_91, ↓tX12_take_92, ↓tX12_take_95, ↓tX12_take_96, ↓tX12_take_97, ↓tX12_take_99, ↓tX12_take_100, ↓tX12_take_101, ↓tX12_take_102, ↓tX12_take_103, ↓tX12_take_106, ↓tX12_take_107, ↓tX12_take_110, ↓tX12_take_111, ↓tX12_take_112, ↓tX12_take_114, ↓tX12_take_115, ↓tX12_take_117, ↓tX12_take_118, ↓tX12_take_121, ↓tX12_take_124, ↓tX12_take_125, ↓tX12_take_126, ↓tX12_take_129, ↓tX12_take_130, ↓tX12_take_133, ↓tX12_take_134, ↓oAdd, ↓oAl, ↓oDiv, ↓oDup, ↓oGet, ↓oGo, ↓oIald, ↓oIast, ↓oIf2ge, ↓oIf2lt, ↓oIf2ne, ↓oIl, ↓oInc, ↓oIs, ↓oK, ↓oPutI, ↓oRem, ↓oSub, ↓oZret, q_set_s, q_set_n, q_md_0, mO_len, q_up_a, mOs_2, mO_2, mO_1, md_1, mds_1, z_clamp, z_ltI, z_leI, z_eqI, z_lt0, z_ge0, z_eq0I, z_gt0I, z_le0I, z_m1lt, z_m1ge, z_m1eq, z_m1eq', z_inT, z_add, z_sub, z_mul, z_div, z_rem, n_ltT, n_ltF, n_leT, n_leF, n_eqT, n_eqF, q_tl_i, q_tl_n, q_ap_n, q_ap_c, c, z_11]
          refine hT i N f ⟨rfl, ?_, ?_, by omega⟩ hi hf2
          · have : 1 ≤ N / 3 ^ i := by omega
            have := (Nat.le_div_iff_mul_le hp).mp this
            omega
          · have : N / 3 ^ i < 2 := by omega
            exact (Nat.div_lt_iff_lt_mul hp).mp this
        · refine q_X.run sX12_take [] 40 ?_
          simp (maxSteps := 10000000) (disch := omega) only [↓q_run_s, q_stop_n, q_stop_c, q_lg_c, q_ls_d, q_ld_n, q_ld_c, q_cat_i, q_cat_r, q_cat_n, q_wd_n, q_wd_c, q_bx_1, q_bx_2, q_bx_3, q_bx_4, q_bx_5, q_bx_6, q_bx_7, q_bx_8, q_pop_0, q_pop_s, ↓reduceIte, Nat.reduceEqDiff, reduceCtorEq, eq_self, Bool.false_eq_true, Nat.reduceAdd, Nat.reduceSub, Nat.reduceMul, Nat.reduceLeDiff, Nat.reduceLT, Nat.le_refl, Nat.zero_le, true_and, and_true, false_and, and_false, or_false, false_or, true_or, or_true, not_true_eq_false, not_false_eq_true, if_true, if_false, List.getElem?_cons_zero, List.getElem?_cons_succ, List.set_cons_zero, List.set_cons_succ, List.length_cons, List.length_nil, ↓tX12_take_0, ↓tX12_take_1, ↓tX12_take_2, ↓tX12_take_3, ↓tX12_take_4, ↓tX12_take_7, ↓tX12_take_8, ↓tX12_take_9, ↓tX12_take_12, ↓tX12_take_13, ↓tX12_take_14, ↓tX12_take_15, ↓tX12_take_16, ↓tX12_take_19, ↓tX12_take_20, ↓tX12_take_23, ↓tX12_take_24, ↓tX12_take_27, ↓tX12_take_28, ↓tX12_take_29, ↓tX12_take_30, ↓tX12_take_33, ↓tX12_take_34, ↓tX12_take_37, ↓tX12_take_38, ↓tX12_take_39, ↓tX12_take_40, ↓tX12_take_41, ↓tX12_take_42, ↓tX12_take_43, ↓tX12_take_46, ↓tX12_take_47, ↓tX12_take_48, ↓tX12_take_51, ↓tX12_take_52, ↓tX12_take_53, ↓tX12_take_54, ↓tX12_take_55, ↓tX12_take_58, ↓tX12_take_59, ↓tX12_take_61, ↓tX12_take_63, ↓tX12_take_64, ↓tX12_take_67, ↓tX12_take_68, ↓tX12_take_69, ↓tX12_take_72, ↓tX12_take_73, ↓tX12_take_76, ↓tX12_take_78, ↓tX12_take_79, ↓tX12_take_81, ↓tX12_take_82, ↓tX12_take_85, ↓tX12_take_87, ↓tX12_take_88, ↓tX12_take_91, ↓tX12_take_92, ↓tX12_take_95, ↓tX12_take_96, ↓tX12_take_97, ↓tX12_take_99, ↓tX12_take_100, ↓tX12_take_101, ↓tX12_take_102, ↓tX12_take_103, ↓tX12_take_106, ↓tX12_take_107, ↓tX12_take_110, ↓tX12_take_111, ↓tX12_take_112, ↓tX12_take_114, ↓tX12_take_115, ↓tX12_take_117, ↓tX12_take_118, ↓tX12_take_121, ↓tX12_take_124, ↓tX12_take_125, ↓tX12_take_126, ↓tX12_take_129, ↓tX12_take_130, ↓tX12_take_133, ↓tX12_take_134, ↓oAdd, ↓oAl, ↓oDiv, ↓oDup, ↓oGet, ↓oGo, ↓oIald, ↓oIast, ↓oIf2ge, ↓oIf2lt, ↓oIf2ne, ↓oIl, ↓oInc, ↓oIs, ↓oK, ↓oPutI, ↓oRem, ↓oSub, ↓oZret, q_set_s, q_set_n, q_md_0, mO_len, q_up_a, mOs_2, mO_2, mO_1, md_1, mds_1, z_clamp, z_ltI, z_leI, z_eqI, z_lt0, z_ge0, z_eq0I, z_gt0I, z_le0I, z_m1lt, z_m1ge, z_m1eq, z_m1eq', z_inT, z_add, z_sub, z_mul, z_div, z_rem, n_ltT, n_ltF, n_leT, n_leF, n_eqT, n_eqF, q_tl_i, q_tl_n, q_ap_n, q_ap_c, c, z_11]
          refine hF ?_ _ _
          intro n N' hn h
          have e := ((nI_eq (by have := h.lt; omega) hN).mp h.1.symm).symm
          subst e
          have h1 := h.2.1
          have h2 := h.2.2.1
          have g1 : 2 ≤ N / 3 ^ i := by omega
          have g2 : N / 3 ^ i < 3 := by omega
          have g1' := (Nat.le_div_iff_mul_le hp).mp g1
          have g2' := (Nat.div_lt_iff_lt_mul hp).mp g2
          rcases Nat.lt_trichotomy n i with c1 | c1 | c1
          · have : 3 ^ (n + 1) ≤ 3 ^ i := Nat.pow_le_pow_right (by decide) c1
            rw [Nat.pow_succ] at this
            omega
          · subst c1; omega
          · have : 3 ^ (i + 1) ≤ 3 ^ n := Nat.pow_le_pow_right (by decide) c1
            rw [Nat.pow_succ] at this
            omega
      | succ g ih =>
        intro k f hk hf
        refine q_X.run sX12_take [61] 60 ?_
        simp (maxSteps := 10000000) (disch := omega) only [↓q_run_s, q_stop_n, q_stop_c, q_lg_c, q_ls_d, q_ld_n, q_ld_c, q_cat_i, q_cat_r, q_cat_n, q_wd_n, q_wd_c, q_bx_1, q_bx_2, q_bx_3, q_bx_4, q_bx_5, q_bx_6, q_bx_7, q_bx_8, q_pop_0, q_pop_s, ↓reduceIte, Nat.reduceEqDiff, reduceCtorEq, eq_self, Bool.false_eq_true, Nat.reduceAdd, Nat.reduceSub, Nat.reduceMul, Nat.reduceLeDiff, Nat.reduceLT, Nat.le_refl, Nat.zero_le, true_and, and_true, false_and, and_false, or_false, false_or, true_or, or_true, not_true_eq_false, not_false_eq_true, if_true, if_false, List.getElem?_cons_zero, List.getElem?_cons_succ, List.set_cons_zero, List.set_cons_succ, List.length_cons, List.length_nil, ↓tX12_take_0, ↓tX12_take_1, ↓tX12_take_2, ↓tX12_take_3, ↓tX12_take_4, ↓tX12_take_7, ↓tX12_take_8, ↓tX12_take_9, ↓tX12_take_12, ↓tX12_take_13, ↓tX12_take_14, ↓tX12_take_15, ↓tX12_take_16, ↓tX12_take_19, ↓tX12_take_20, ↓tX12_take_23, ↓tX12_take_24, ↓tX12_take_27, ↓tX12_take_28, ↓tX12_take_29, ↓tX12_take_30, ↓tX12_take_33, ↓tX12_take_34, ↓tX12_take_37, ↓tX12_take_38, ↓tX12_take_39, ↓tX12_take_40, ↓tX12_take_41, ↓tX12_take_42, ↓tX12_take_43, ↓tX12_take_46, ↓tX12_take_47, ↓tX12_take_48, ↓tX12_take_51, ↓tX12_take_52, ↓tX12_take_53, ↓tX12_take_54, ↓tX12_take_55, ↓tX12_take_58, ↓tX12_take_59, ↓tX12_take_61, ↓tX12_take_63, ↓tX12_take_64, ↓tX12_take_67, ↓tX12_take_68, ↓tX12_take_69, ↓tX12_take_72, ↓tX12_take_73, ↓tX12_take_76, ↓tX12_take_78, ↓tX12_take_79, ↓tX12_take_81, ↓tX12_take_82, ↓tX12_take_85, ↓tX12_take_87, ↓tX12_take_88, ↓tX12_take_91, ↓tX12_take_92, ↓tX12_take_95, ↓tX12_take_96, ↓tX12_take_97, ↓tX12_take_99, ↓tX12_take_100, ↓tX12_take_101, ↓tX12_take_102, ↓tX12_take_103, ↓tX12_take_106, ↓tX12_take_107, ↓tX12_take_110, ↓tX12_take_111, ↓tX12_take_112, ↓tX12_take_114, ↓tX12_take_115, ↓tX12_take_117, ↓tX12_take_118, ↓tX12_take_121, ↓tX12_take_124, ↓tX12_take_125, ↓tX12_take_126, ↓tX12_take_129, ↓tX12_take_130, ↓tX12_take_133, ↓tX12_take_134, ↓oAdd, ↓oAl, ↓oDiv, ↓oDup, ↓oGet, ↓oGo, ↓oIald, ↓oIast, ↓oIf2ge, ↓oIf2lt, ↓oIf2ne, ↓oIl, ↓oInc, ↓oIs, ↓oK, ↓oPutI, ↓oRem, ↓oSub, ↓oZret, q_set_s, q_set_n, q_md_0, mO_len, q_up_a, mOs_2, mO_2, mO_1, md_1, mds_1, z_clamp, z_ltI, z_leI, z_eqI, z_lt0, z_ge0, z_eq0I, z_gt0I, z_le0I, z_m1lt, z_m1ge, z_m1eq, z_m1eq', z_inT, z_add, z_sub, z_mul, z_div, z_rem, n_ltT, n_ltF, n_leT, n_leF, n_eqT, n_eqF, q_tl_i, q_tl_n, q_ap_n, q_ap_c, q_upup]
        refine q_X.lv2 _ ?_ (ih (k + 1) (upd (upd f k (f (i - 1 - k))) (i - 1 - k) (f k)) (by omega) ?_)
        · exact ⟨rfl, rfl, rfl, rfl, rfl, trivial⟩
        · intro j hj
          rw [q_ud_a, q_ud_a]
          by_cases c1 : j = i - 1 - k
          · rw [if_pos c1, hf k (by omega), if_neg (by omega), if_pos (by omega)]
            congr 2
            omega
          · rw [if_neg c1]
            by_cases c2 : j = k
            · rw [if_pos c2, hf _ (by omega), if_neg (by omega), if_pos (by omega), c2]
            · rw [if_neg c2, hf j hj]
              by_cases c3 : j < k ∨ i - k ≤ j
              · rw [if_pos c3, if_pos (by omega)]
              · rw [if_neg c3, if_neg (by omega)]
    have loop : ∀ (g i R : Nat) (f : Nat → Int32), g + i = most → R < 2147483648 → 1 ≤ R → R = N / 3 ^ i → (∀ j, j < i → f j = nI (N / 3 ^ j % 3)) → q_X G L d mX12_take 0 0 Q 14 [(0, .ref r), (1, .int (nI N)), (2, .int (nI most)), (3, .int (nI R))] [] (q_md M0 r (va_up s 2 (nI i)) (va_up A 1 f) B) 0 0 := by
      intro g
      induction g with
      | zero =>
        intro i R f hi hR hR1 hRe hf
        by_cases c : R < 3
        · refine q_X.run sX12_take [61] 20 ?_
          simp (maxSteps := 10000000) (disch := omega) only [↓q_run_s, q_stop_n, q_stop_c, q_lg_c, q_ls_d, q_ld_n, q_ld_c, q_cat_i, q_cat_r, q_cat_n, q_wd_n, q_wd_c, q_bx_1, q_bx_2, q_bx_3, q_bx_4, q_bx_5, q_bx_6, q_bx_7, q_bx_8, q_pop_0, q_pop_s, ↓reduceIte, Nat.reduceEqDiff, reduceCtorEq, eq_self, Bool.false_eq_true, Nat.reduceAdd, Nat.reduceSub, Nat.reduceMul, Nat.reduceLeDiff, Nat.reduceLT, Nat.le_refl, Nat.zero_le, true_and, and_true, false_and, and_false, or_false, false_or, true_or, or_true, not_true_eq_false, not_false_eq_true, if_true, if_false, List.getElem?_cons_zero, List.getElem?_cons_succ, List.set_cons_zero, List.set_cons_succ, List.length_cons, List.length_nil, ↓tX12_take_0, ↓tX12_take_1, ↓tX12_take_2, ↓tX12_take_3, ↓tX12_take_4, ↓tX12_take_7, ↓tX12_take_8, ↓tX12_take_9, ↓tX12_take_12, ↓tX12_take_13, ↓tX12_take_14, ↓tX12_take_15, ↓tX12_take_16, ↓tX12_take_19, ↓tX12_take_20, ↓tX12_take_23, ↓tX12_take_24, ↓tX12_take_27, ↓tX12_take_28, ↓tX12_take_29, ↓tX12_take_30, ↓tX12_take_33, ↓tX12_take_34, ↓tX12_take_37, ↓tX12_take_38, ↓tX12_take_39, ↓tX12_take_40, ↓tX12_take_41, ↓tX12_take_42, ↓tX12_take_43, ↓tX12_take_46, ↓tX12_take_47, ↓tX12_take_48, ↓tX12_take_51, ↓tX12_take_52, ↓tX12_take_53, ↓tX12_take_54, ↓tX12_take_55, ↓tX12_take_58, ↓tX12_take_59, ↓tX12_take_61, ↓tX12_take_63, ↓tX12_take_64, ↓tX12_take_67, ↓tX12_take_68, ↓tX12_take_69, ↓tX12_take_72, ↓tX12_take_73, ↓tX12_take_76, ↓tX12_take_78, ↓tX12_take_79, ↓tX12_take_81, ↓tX12_take_82, ↓tX12_take_85, ↓tX12_take_87, ↓tX12_take_88, ↓tX12_take_91, ↓tX12_take_92, ↓tX12_take_95, ↓tX12_take_96, ↓tX12_take_97, ↓tX12_take_99, ↓tX12_take_100, ↓tX12_take_101, ↓tX12_take_102, ↓tX12_take_103, ↓tX12_take_106, ↓tX12_take_107, ↓tX12_take_110, ↓tX12_take_111, ↓tX12_take_112, ↓tX12_take_114, ↓tX12_take_115, ↓tX12_take_117, ↓tX12_take_118, ↓tX12_take_121, ↓tX12_take_124, ↓tX12_take_125, ↓tX12_take_126, ↓tX12_take_129, ↓tX12_take_130, ↓tX12_take_133, ↓tX12_take_134, ↓oAdd, ↓oAl, ↓oDiv, ↓oDup, ↓oGet, ↓oGo, ↓oIald, ↓oIast, ↓oIf2ge, ↓oIf2lt, ↓oIf2ne, ↓oIl, ↓oInc, ↓oIs, ↓oK, ↓oPutI, ↓oRem, ↓oSub, ↓oZret, q_set_s, q_set_n, q_md_0, mO_len, q_up_a, mOs_2, mO_2, mO_1, md_1, mds_1, z_clamp, z_ltI, z_leI, z_eqI, z_lt0, z_ge0, z_eq0I, z_gt0I, z_le0I, z_m1lt, z_m1ge, z_m1eq, z_m1eq', z_inT, z_add, z_sub, z_mul, z_div, z_rem, n_ltT, n_ltF, n_leT, n_leF, n_eqT, n_eqF, q_tl_i, q_tl_n, q_ap_n, q_ap_c]
          refine q_X.lv2 _ ?_ (rev i R (fun j => N / 3 ^ j % 3) (by omega) c hR1 hRe (fun j _ => rfl) (i / 2) 0 f (by omega) ?_)
          · exact ⟨rfl, rfl, rfl, rfl, rfl, trivial⟩
          · intro j hj
            rw [if_neg (by omega)]
            exact hf j hj
        · have e : i = most := by omega
          subst e
          refine q_X.run sX12_take [] 20 ?_
          simp (maxSteps := 10000000) (disch := omega) only [↓q_run_s, q_stop_n, q_stop_c, q_lg_c, q_ls_d, q_ld_n, q_ld_c, q_cat_i, q_cat_r, q_cat_n, q_wd_n, q_wd_c, q_bx_1, q_bx_2, q_bx_3, q_bx_4, q_bx_5, q_bx_6, q_bx_7, q_bx_8, q_pop_0, q_pop_s, ↓reduceIte, Nat.reduceEqDiff, reduceCtorEq, eq_self, Bool.false_eq_true, Nat.reduceAdd, Nat.reduceSub, Nat.reduceMul, Nat.reduceLeDiff, Nat.reduceLT, Nat.le_refl, Nat.zero_le, true_and, and_true, false_and, and_false, or_false, false_or, true_or, or_true, not_true_eq_false, not_false_eq_true, if_true, if_false, List.getElem?_cons_zero, List.getElem?_cons_succ, List.set_cons_zero, List.set_cons_succ, List.length_cons, List.length_nil, ↓tX12_take_0, ↓tX12_take_1, ↓tX12_take_2, ↓tX12_take_3, ↓tX12_take_4, ↓tX12_take_7, ↓tX12_take_8, ↓tX12_take_9, ↓tX12_take_12, ↓tX12_take_13, ↓tX12_take_14, ↓tX12_take_15, ↓tX12_take_16, ↓tX12_take_19, ↓tX12_take_20, ↓tX12_take_23, ↓tX12_take_24, ↓tX12_take_27, ↓tX12_take_28, ↓tX12_take_29, ↓tX12_take_30, ↓tX12_take_33, ↓tX12_take_34, ↓tX12_take_37, ↓tX12_take_38, ↓tX12_take_39, ↓tX12_take_40, ↓tX12_take_41, ↓tX12_take_42, ↓tX12_take_43, ↓tX12_take_46, ↓tX12_take_47, ↓tX12_take_48, ↓tX12_take_51, ↓tX12_take_52, ↓tX12_take_53, ↓tX12_take_54, ↓tX12_take_55, ↓tX12_take_58, ↓tX12_take_59, ↓tX12_take_61, ↓tX12_take_63, ↓tX12_take_64, ↓tX12_take_67, ↓tX12_take_68, ↓tX12_take_69, ↓tX12_take_72, ↓tX12_take_73, ↓tX12_take_76, ↓tX12_take_78, ↓tX12_take_79, ↓tX12_take_81, ↓tX12_take_82, ↓tX12_take_85, ↓tX12_take_87, ↓tX12_take_88, ↓tX12_take_91, ↓tX12_take_92, ↓tX12_take_95, ↓tX12_take_96, ↓tX12_take_97, ↓tX12_take_99, ↓tX12_take_100, ↓tX12_take_101, ↓tX12_take_102, ↓tX12_take_103, ↓tX12_take_106, ↓tX12_take_107, ↓tX12_take_110, ↓tX12_take_111, ↓tX12_take_112, ↓tX12_take_114, ↓tX12_take_115, ↓tX12_take_117, ↓tX12_take_118, ↓tX12_take_121, ↓tX12_take_124, ↓tX12_take_125, ↓tX12_take_126, ↓tX12_take_129, ↓tX12_take_130, ↓tX12_take_133, ↓tX12_take_134, ↓oAdd, ↓oAl, ↓oDiv, ↓oDup, ↓oGet, ↓oGo, ↓oIald, ↓oIast, ↓oIf2ge, ↓oIf2lt, ↓oIf2ne, ↓oIl, ↓oInc, ↓oIs, ↓oK, ↓oPutI, ↓oRem, ↓oSub, ↓oZret, q_set_s, q_set_n, q_md_0, mO_len, q_up_a, mOs_2, mO_2, mO_1, md_1, mds_1, z_clamp, z_ltI, z_leI, z_eqI, z_lt0, z_ge0, z_eq0I, z_gt0I, z_le0I, z_m1lt, z_m1ge, z_m1eq, z_m1eq', z_inT, z_add, z_sub, z_mul, z_div, z_rem, n_ltT, n_ltF, n_leT, n_leF, n_eqT, n_eqF, q_tl_i, q_tl_n, q_ap_n, q_ap_c, z_11]
          refine hF ?_ _ _
          intro n N' hn h
          have e := ((nI_eq (by have := h.lt; omega) hN).mp h.1.symm).symm
          subst e
          have h2 := h.2.2.1
          have g1 : 3 ≤ N / 3 ^ i := by omega
          have g1' := (Nat.le_div_iff_mul_le (q_pow_pos i)).mp g1
          have : 3 ^ n ≤ 3 ^ i := Nat.pow_le_pow_right (by decide) hn
          omega
      | succ g ih =>
        intro i R f hi hR hR1 hRe hf
        by_cases c : R < 3
        · refine q_X.run sX12_take [61] 20 ?_
          simp (maxSteps := 10000000) (disch := omega) only [↓q_run_s, q_stop_n, q_stop_c, q_lg_c, q_ls_d, q_ld_n, q_ld_c, q_cat_i, q_cat_r, q_cat_n, q_wd_n, q_wd_c, q_bx_1, q_bx_2, q_bx_3, q_bx_4, q_bx_5, q_bx_6, q_bx_7, q_bx_8, q_pop_0, q_pop_s, ↓reduceIte, Nat.reduceEqDiff, reduceCtorEq, eq_self, Bool.false_eq_true, Nat.reduceAdd, Nat.reduceSub, Nat.reduceMul, Nat.reduceLeDiff, Nat.reduceLT, Nat.le_refl, Nat.zero_le, true_and, and_true, false_and, and_false, or_false, false_or, true_or, or_true, not_true_eq_false, not_false_eq_true, if_true, if_false, List.getElem?_cons_zero, List.getElem?_cons_succ, List.set_cons_zero, List.set_cons_succ, List.length_cons, List.length_nil, ↓tX12_take_0, ↓tX12_take_1, ↓tX12_take_2, ↓tX12_take_3, ↓tX12_take_4, ↓tX12_take_7, ↓tX12_take_8, ↓tX12_take_9, ↓tX12_take_12, ↓tX12_take_13, ↓tX12_take_14, ↓tX12_take_15, ↓tX12_take_16, ↓tX12_take_19, ↓tX12_take_20, ↓tX12_take_23, ↓tX12_take_24, ↓tX12_take_27, ↓tX12_take_28, ↓tX12_take_29, ↓tX12_take_30, ↓tX12_take_33, ↓tX12_take_34, ↓tX12_take_37, ↓tX12_take_38, ↓tX12_take_39, ↓tX12_take_40, ↓tX12_take_41, ↓tX12_take_42, ↓tX12_take_43, ↓tX12_take_46, ↓tX12_take_47, ↓tX12_take_48, ↓tX12_take_51, ↓tX12_take_52, ↓tX12_take_53, ↓tX12_take_54, ↓tX12_take_55, ↓tX12_take_58, ↓tX12_take_59, ↓tX12_take_61, ↓tX12_take_63, ↓tX12_take_64, ↓tX12_take_67, ↓tX12_take_68, ↓tX12_take_69, ↓tX12_take_72, ↓tX12_take_73, ↓tX12_take_76, ↓tX12_take_78, ↓tX12_take_79, ↓tX12_take_81, ↓tX12_take_82, ↓tX12_take_85, ↓tX12_take_87, ↓tX12_take_88, ↓tX12_take_91, ↓tX12_take_92, ↓tX12_take_95, ↓tX12_take_96, ↓tX12_take_97, ↓tX12_take_99, ↓tX12_take_100, ↓tX12_take_101, ↓tX12_take_102, ↓tX12_take_103, ↓tX12_take_106, ↓tX12_take_107, ↓tX12_take_110, ↓tX12_take_111, ↓tX12_take_112, ↓tX12_take_114, ↓tX12_take_115, ↓tX12_take_117, ↓tX12_take_118, ↓tX12_take_121, ↓tX12_take_124, ↓tX12_take_125, ↓tX12_take_126, ↓tX12_take_129, ↓tX12_take_130, ↓tX12_take_133, ↓tX12_take_134, ↓oAdd, ↓oAl, ↓oDiv, ↓oDup, ↓oGet, ↓oGo, ↓oIald, ↓oIast, ↓oIf2ge, ↓oIf2lt, ↓oIf2ne, ↓oIl, ↓oInc, ↓oIs, ↓oK, ↓oPutI, ↓oRem, ↓oSub, ↓oZret, q_set_s, q_set_n, q_md_0, mO_len, q_up_a, mOs_2, mO_2, mO_1, md_1, mds_1, z_clamp, z_ltI, z_leI, z_eqI, z_lt0, z_ge0, z_eq0I, z_gt0I, z_le0I, z_m1lt, z_m1ge, z_m1eq, z_m1eq', z_inT, z_add, z_sub, z_mul, z_div, z_rem, n_ltT, n_ltF, n_leT, n_leF, n_eqT, n_eqF, q_tl_i, q_tl_n, q_ap_n, q_ap_c]
          refine q_X.lv2 _ ?_ (rev i R (fun j => N / 3 ^ j % 3) (by omega) c hR1 hRe (fun j _ => rfl) (i / 2) 0 f (by omega) ?_)
          · exact ⟨rfl, rfl, rfl, rfl, rfl, trivial⟩
          · intro j hj
            rw [if_neg (by omega)]
            exact hf j hj
        · refine q_X.run sX12_take [14] 40 ?_
          simp (maxSteps := 10000000) (disch := omega) only [↓q_run_s, q_stop_n, q_stop_c, q_lg_c, q_ls_d, q_ld_n, q_ld_c, q_cat_i, q_cat_r, q_cat_n, q_wd_n, q_wd_c, q_bx_1, q_bx_2, q_bx_3, q_bx_4, q_bx_5, q_bx_6, q_bx_7, q_bx_8, q_pop_0, q_pop_s, ↓reduceIte, Nat.reduceEqDiff, reduceCtorEq, eq_self, Bool.false_eq_true, Nat.reduceAdd, Nat.reduceSub, Nat.reduceMul, Nat.reduceLeDiff, Nat.reduceLT, Nat.le_refl, Nat.zero_le, true_and, and_true, false_and, and_false, or_false, false_or, true_or, or_true, not_true_eq_false, not_false_eq_true, if_true, if_false, List.getElem?_cons_zero, List.getElem?_cons_succ, List.set_cons_zero, List.set_cons_succ, List.length_cons, List.length_nil, ↓tX12_take_0, ↓tX12_take_1, ↓tX12_take_2, ↓tX12_take_3, ↓tX12_take_4, ↓tX12_take_7, ↓tX12_take_8, ↓tX12_take_9, ↓tX12_take_12, ↓tX12_take_13, ↓tX12_take_14, ↓tX12_take_15, ↓tX12_take_16, ↓tX12_take_19, ↓tX12_take_20, ↓tX12_take_23, ↓tX12_take_24, ↓tX12_take_27, ↓tX12_take_28, ↓tX12_take_29, ↓tX12_take_30, ↓tX12_take_33, ↓tX12_take_34, ↓tX12_take_37, ↓tX12_take_38, ↓tX12_take_39, ↓tX12_take_40, ↓tX12_take_41, ↓tX12_take_42, ↓tX12_take_43, ↓tX12_take_46, ↓tX12_take_47, ↓tX12_take_48, ↓tX12_take_51, ↓tX12_take_52, ↓tX12_take_53, ↓tX12_take_54, ↓tX12_take_55, ↓tX12_take_58, ↓tX12_take_59, ↓tX12_take_61, ↓tX12_take_63, ↓tX12_take_64, ↓tX12_take_67, ↓tX12_take_68, ↓tX12_take_69, ↓tX12_take_72, ↓tX12_take_73, ↓tX12_take_76, ↓tX12_take_78, ↓tX12_take_79, ↓tX12_take_81, ↓tX12_take_82, ↓tX12_take_85, ↓tX12_take_87, ↓tX12_take_88, ↓tX12_take_91, ↓tX12_take_92, ↓tX12_take_95, ↓tX12_take_96, ↓tX12_take_97, ↓tX12_take_99, ↓tX12_take_100, ↓tX12_take_101, ↓tX12_take_102, ↓tX12_take_103, ↓tX12_take_106, ↓tX12_take_107, ↓tX12_take_110, ↓tX12_take_111, ↓tX12_take_112, ↓tX12_take_114, ↓tX12_take_115, ↓tX12_take_117, ↓tX12_take_118, ↓tX12_take_121, ↓tX12_take_124, ↓tX12_take_125, ↓tX12_take_126, ↓tX12_take_129, ↓tX12_take_130, ↓tX12_take_133, ↓tX12_take_134, ↓oAdd, ↓oAl, ↓oDiv, ↓oDup, ↓oGet, ↓oGo, ↓oIald, ↓oIast, ↓oIf2ge, ↓oIf2lt, ↓oIf2ne, ↓oIl, ↓oInc, ↓oIs, ↓oK, ↓oPutI, ↓oRem, ↓oSub, ↓oZret, q_set_s, q_set_n, q_md_0, mO_len, q_up_a, mOs_2, mO_2, mO_1, md_1, mds_1, z_clamp, z_ltI, z_leI, z_eqI, z_lt0, z_ge0, z_eq0I, z_gt0I, z_le0I, z_m1lt, z_m1ge, z_m1eq, z_m1eq', z_inT, z_add, z_sub, z_mul, z_div, z_rem, n_ltT, n_ltF, n_leT, n_leF, n_eqT, n_eqF, q_tl_i, q_tl_n, q_ap_n, q_ap_c, q_upup]
          have e2 : R / 3 = N / 3 ^ (i + 1) := by rw [hRe, Nat.div_div_eq_div_mul, Nat.pow_succ]
          refine q_X.lv2 _ ?_ (ih (i + 1) (R / 3) (upd f i (nI (R % 3))) (by omega) (by omega) (by omega) e2 ?_)
          · exact ⟨rfl, rfl, rfl, rfl, trivial⟩
          · intro j hj
            rw [q_ud_a]
            by_cases c2 : j = i
            · rw [if_pos c2, c2, hRe]
            · rw [if_neg c2]
              exact hf j (by omega)
    refine q_X.run sX12_take [14] 20 ?_
    simp (maxSteps := 10000000) (disch := omega) only [↓q_run_s, q_stop_n, q_stop_c, q_lg_c, q_ls_d, q_ld_n, q_ld_c, q_cat_i, q_cat_r, q_cat_n, q_wd_n, q_wd_c, q_bx_1, q_bx_2, q_bx_3, q_bx_4, q_bx_5, q_bx_6, q_bx_7, q_bx_8, q_pop_0, q_pop_s, ↓reduceIte, Nat.reduceEqDiff, reduceCtorEq, eq_self, Bool.false_eq_true, Nat.reduceAdd, Nat.reduceSub, Nat.reduceMul, Nat.reduceLeDiff, Nat.reduceLT, Nat.le_refl, Nat.zero_le, true_and, and_true, false_and, and_false, or_false, false_or, true_or, or_true, not_true_eq_false, not_false_eq_true, if_true, if_false, List.getElem?_cons_zero, List.getElem?_cons_succ, List.set_cons_zero, List.set_cons_succ, List.length_cons, List.length_nil, ↓tX12_take_0, ↓tX12_take_1, ↓tX12_take_2, ↓tX12_take_3, ↓tX12_take_4, ↓tX12_take_7, ↓tX12_take_8, ↓tX12_take_9, ↓tX12_take_12, ↓tX12_take_13, ↓tX12_take_14, ↓tX12_take_15, ↓tX12_take_16, ↓tX12_take_19, ↓tX12_take_20, ↓tX12_take_23, ↓tX12_take_24, ↓tX12_take_27, ↓tX12_take_28, ↓tX12_take_29, ↓tX12_take_30, ↓tX12_take_33, ↓tX12_take_34, ↓tX12_take_37, ↓tX12_take_38, ↓tX12_take_39, ↓tX12_take_40, ↓tX12_take_41, ↓tX12_take_42, ↓tX12_take_43, ↓tX12_take_46, ↓tX12_take_47, ↓tX12_take_48, ↓tX12_take_51, ↓tX12_take_52, ↓tX12_take_53, ↓tX12_take_54, ↓tX12_take_55, ↓tX12_take_58, ↓tX12_take_59, ↓tX12_take_61, ↓tX12_take_63, ↓tX12_take_64, ↓tX12_take_67, ↓tX12_take_68, ↓tX12_take_69, ↓tX12_take_72, ↓tX12_take_73, ↓tX12_take_76, ↓tX12_take_78, ↓tX12_take_79, ↓tX12_take_81, ↓tX12_take_82, ↓tX12_take_85, ↓tX12_take_87, ↓tX12_take_88, ↓tX12_take_91, ↓tX12_take_92, ↓tX12_take_95, ↓tX12_take_96, ↓tX12_take_97, ↓tX12_take_99, ↓tX12_take_100, ↓tX12_take_101, ↓tX12_take_102, ↓tX12_take_103, ↓tX12_take_106, ↓tX12_take_107, ↓tX12_take_110, ↓tX12_take_111, ↓tX12_take_112, ↓tX12_take_114, ↓tX12_take_115, ↓tX12_take_117, ↓tX12_take_118, ↓tX12_take_121, ↓tX12_take_124, ↓tX12_take_125, ↓tX12_take_126, ↓tX12_take_129, ↓tX12_take_130, ↓tX12_take_133, ↓tX12_take_134, ↓oAdd, ↓oAl, ↓oDiv, ↓oDup, ↓oGet, ↓oGo, ↓oIald, ↓oIast, ↓oIf2ge, ↓oIf2lt, ↓oIf2ne, ↓oIl, ↓oInc, ↓oIs, ↓oK, ↓oPutI, ↓oRem, ↓oSub, ↓oZret, q_set_s, q_set_n, q_md_0, mO_len, q_up_a, mOs_2, mO_2, mO_1, md_1, mds_1, z_clamp, z_ltI, z_leI, z_eqI, z_lt0, z_ge0, z_eq0I, z_gt0I, z_le0I, z_m1lt, z_m1ge, z_m1eq, z_m1eq', z_inT, z_add, z_sub, z_mul, z_div, z_rem, n_ltT, n_ltF, n_leT, n_leF, n_eqT, n_eqF, q_tl_i, q_tl_n, q_ap_n, q_ap_c]
    refine q_X.lv2 _ ?_ (by
      have h := loop most 0 N (A 1) (by omega) hN hN1 (by rw [Nat.pow_zero, Nat.div_one]) (fun j h => absurd h (by omega))
      rw [q_upid] at h
      exact h)
    exact ⟨rfl, rfl, rfl, rfl, trivial⟩
  · refine q_X.run sX12_take [] 20 ?_
    simp (maxSteps := 10000000) (disch := omega) only [↓q_run_s, q_stop_n, q_stop_c, q_lg_c, q_ls_d, q_ld_n, q_ld_c, q_cat_i, q_cat_r, q_cat_n, q_wd_n, q_wd_c, q_bx_1, q_bx_2, q_bx_3, q_bx_4, q_bx_5, q_bx_6, q_bx_7, q_bx_8, q_pop_0, q_pop_s, ↓reduceIte, Nat.reduceEqDiff, reduceCtorEq, eq_self, Bool.false_eq_true, Nat.reduceAdd, Nat.reduceSub, Nat.reduceMul, Nat.reduceLeDiff, Nat.reduceLT, Nat.le_refl, Nat.zero_le, true_and, and_true, false_and, and_false, or_false, false_or, true_or, or_true, not_true_eq_false, not_false_eq_true, if_true, if_false, List.getElem?_cons_zero, List.getElem?_cons_succ, List.set_cons_zero, List.set_cons_succ, List.length_cons, List.length_nil, ↓tX12_take_0, ↓tX12_take_1, ↓tX12_take_2, ↓tX12_take_3, ↓tX12_take_4, ↓tX12_take_7, ↓tX12_take_8, ↓tX12_take_9, ↓tX12_take_12, ↓tX12_take_13, ↓tX12_take_14, ↓tX12_take_15, ↓tX12_take_16, ↓tX12_take_19, ↓tX12_take_20, ↓tX12_take_23, ↓tX12_take_24, ↓tX12_take_27, ↓tX12_take_28, ↓tX12_take_29, ↓tX12_take_30, ↓tX12_take_33, ↓tX12_take_34, ↓tX12_take_37, ↓tX12_take_38, ↓tX12_take_39, ↓tX12_take_40, ↓tX12_take_41, ↓tX12_take_42, ↓tX12_take_43, ↓tX12_take_46, ↓tX12_take_47, ↓tX12_take_48, ↓tX12_take_51, ↓tX12_take_52, ↓tX12_take_53, ↓tX12_take_54, ↓tX12_take_55, ↓tX12_take_58, ↓tX12_take_59, ↓tX12_take_61, ↓tX12_take_63, ↓tX12_take_64, ↓tX12_take_67, ↓tX12_take_68, ↓tX12_take_69, ↓tX12_take_72, ↓tX12_take_73, ↓tX12_take_76, ↓tX12_take_78, ↓tX12_take_79, ↓tX12_take_81, ↓tX12_take_82, ↓tX12_take_85, ↓tX12_take_87, ↓tX12_take_88, ↓tX12_take_91, ↓tX12_take_92, ↓tX12_take_95, ↓tX12_take_96, ↓tX12_take_97, ↓tX12_take_99, ↓tX12_take_100, ↓tX12_take_101, ↓tX12_take_102, ↓tX12_take_103, ↓tX12_take_106, ↓tX12_take_107, ↓tX12_take_110, ↓tX12_take_111, ↓tX12_take_112, ↓tX12_take_114, ↓tX12_take_115, ↓tX12_take_117, ↓tX12_take_118, ↓tX12_take_121, ↓tX12_take_124, ↓tX12_take_125, ↓tX12_take_126, ↓tX12_take_129, ↓tX12_take_130, ↓tX12_take_133, ↓tX12_take_134, ↓oAdd, ↓oAl, ↓oDiv, ↓oDup, ↓oGet, ↓oGo, ↓oIald, ↓oIast, ↓oIf2ge, ↓oIf2lt, ↓oIf2ne, ↓oIl, ↓oInc, ↓oIs, ↓oK, ↓oPutI, ↓oRem, ↓oSub, ↓oZret, q_set_s, q_set_n, q_md_0, mO_len, q_up_a, mOs_2, mO_2, mO_1, md_1, mds_1, z_clamp, z_ltI, z_leI, z_eqI, z_lt0, z_ge0, z_eq0I, z_gt0I, z_le0I, z_m1lt, z_m1ge, z_m1eq, z_m1eq', z_inT, z_add, z_sub, z_mul, z_div, z_rem, n_ltT, n_ltF, n_leT, n_leF, n_eqT, n_eqF, q_tl_i, q_tl_n, q_ap_n, q_ap_c, hv]
    have h := hF ?_ (nI 0) (A 1)
    · rw [q_upid] at h
      exact h
    intro n N hn h
    have := q_pow_pos n
    have := h.2.1
    have hl := h.lt
    exact hv (by rw [h.1]; exact (nI_leI (by omega) (by omega)).mpr (by omega))
end
