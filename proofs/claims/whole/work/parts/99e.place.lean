/-! the class: ShownPatterns, its object and its places -/
def w_O (i : Nat) (pa ca fi : Value) : List Value := [.ref (i + 1), .ref (i + 2), .ref (i + 9), .ref (i + 11), .ref (i + 18), .ref (i + 25), .ref (i + 27), .ref (i + 30), pa, ca, fi]
def w_Ob (M : qM) (i : Nat) (pa ca fi : Value) : Prop := M.2 i = some (.inr (11, w_O i pa ca fi)) ∧ ∃ fp : Nat → Option Nat, M.2 (i + 1) = some (.inl (5, 10, .inr (.inr (.inr (.inr fp))))) ∧ ∀ q, q < 10 → fp q = some (i + 35 + 4 * q)
def w_pl (M : qM) (i q : Nat) (o : Option qT) : Prop := ∃ k l r : Nat → Int32, match o with
  | none => q_isN M (i + 35 + 4 * q) 12 k l r 0
  | some t => q_isN M (i + 35 + 4 * q) 12 k l r (t_nodes t) ∧ t_no k l r t 0 ∧ t_nodes t ≤ 12
theorem t_nodes_1 : ∀ t : qT, 1 ≤ t_nodes t := fun t => by
  cases t <;> (unfold t_nodes; omega)
section
variable {G : qC} {L : Launch} {d : Nat} {Q : Option Value → qM → Prop} {M : qM} {i : Nat} {pa ca fi : Value} {P : Nat → Option qT}
theorem w_O_0 : (w_O i pa ca fi)[0]? = some (.ref (i + 1)) := Eq.trans rfl rfl
theorem w_O_1 : (w_O i pa ca fi)[1]? = some (.ref (i + 2)) := Eq.trans rfl rfl
theorem w_O_2 : (w_O i pa ca fi)[2]? = some (.ref (i + 9)) := Eq.trans rfl rfl
theorem w_O_3 : (w_O i pa ca fi)[3]? = some (.ref (i + 11)) := Eq.trans rfl rfl
theorem w_O_4 : (w_O i pa ca fi)[4]? = some (.ref (i + 18)) := Eq.trans rfl rfl
theorem w_O_5 : (w_O i pa ca fi)[5]? = some (.ref (i + 25)) := Eq.trans rfl rfl
theorem w_O_6 : (w_O i pa ca fi)[6]? = some (.ref (i + 27)) := Eq.trans rfl rfl
theorem w_O_7 : (w_O i pa ca fi)[7]? = some (.ref (i + 30)) := Eq.trans rfl rfl
theorem w_O_8 : (w_O i pa ca fi)[8]? = some pa := Eq.trans rfl rfl
theorem w_O_9 : (w_O i pa ca fi)[9]? = some ca := Eq.trans rfl rfl
theorem w_O_10 : (w_O i pa ca fi)[10]? = some fi := Eq.trans rfl rfl
set_option maxRecDepth 100000 in
set_option maxHeartbeats 8000000 in
theorem c11_placeAt {v : Int32} (hO : w_Ob M i pa ca fi) (hT : ∀ q, q < 10 → v = nI q → Q (some (.ref (i + 35 + 4 * q))) M) (hF : (∀ q, q < 10 → v ≠ nI q) → Q (some .null) M) : q_Call G L d mX11_placeAt 0 0 [.ref i, .int v] M Q := by
  obtain ⟨h0, fp, h1, hfp⟩ := hO
  refine q_Call.of [(0, .ref i), (1, .int v)] rfl ?_
  by_cases hv : 0 ≤ v
  · obtain ⟨q, hq, rfl⟩ := q_nn hv
    by_cases c : q < 10
    · have h' := hT q c rfl
      have hf := hfp q c
      have er : va_rf (some (i + 35 + 4 * q)) = .ref (i + 35 + 4 * q) := rfl
      refine q_X.run sX11_placeAt [] 40 ?_
      simp (maxSteps := 10000000) (disch := omega) only [↓q_run_s, q_stop_n, q_stop_c, q_lg_c, q_ls_d, q_ld_n, q_ld_c, q_cat_i, q_cat_r, q_cat_n, q_wd_n, q_wd_c, q_bx_1, q_bx_2, q_bx_3, q_bx_4, q_bx_5, q_bx_6, q_bx_7, q_bx_8, q_pop_0, q_pop_s, ↓reduceIte, Nat.reduceEqDiff, reduceCtorEq, eq_self, Bool.false_eq_true, Nat.reduceAdd, Nat.reduceSub, Nat.reduceMul, Nat.reduceLeDiff, Nat.reduceLT, Nat.le_refl, Nat.zero_le, true_and, and_true, false_and, and_false, or_false, false_or, true_or, or_true, not_true_eq_false, not_false_eq_true, if_true, if_false, List.getElem?_cons_zero, List.getElem?_cons_succ, List.set_cons_zero, List.set_cons_succ, List.length_cons, List.length_nil, ↓tX11_placeAt_0, ↓tX11_placeAt_1, ↓tX11_placeAt_4, ↓tX11_placeAt_5, ↓tX11_placeAt_6, ↓tX11_placeAt_9, ↓tX11_placeAt_10, ↓tX11_placeAt_13, ↓tX11_placeAt_14, ↓tX11_placeAt_17, ↓tX11_placeAt_18, ↓tX11_placeAt_19, ↓tX11_placeAt_22, ↓tX11_placeAt_23, ↓oAald, ↓oAl, ↓oAlen, ↓oAret, ↓oGet, ↓oGo, ↓oIf1lt, ↓oIf2ge, ↓oIl, ↓oK, q_set_s, q_set_n, z_clamp, z_ltI, z_leI, z_eqI, z_lt0, z_ge0, z_eq0I, z_gt0I, z_le0I, z_m1lt, z_m1ge, z_m1eq, z_m1eq', z_inT, z_add, z_sub, z_mul, z_div, z_rem, n_ltT, n_ltF, n_leT, n_leF, n_eqT, n_eqF, z_11, q_tl_i, q_tl_n, q_ap_n, q_ap_c, h0, h1, w_O_0, hf, er]
      exact h'
    · have h' := hF fun q' hq' e => by have := (nI_eq hq (by omega)).mp e; omega
      refine q_X.run sX11_placeAt [] 40 ?_
      simp (maxSteps := 10000000) (disch := omega) only [↓q_run_s, q_stop_n, q_stop_c, q_lg_c, q_ls_d, q_ld_n, q_ld_c, q_cat_i, q_cat_r, q_cat_n, q_wd_n, q_wd_c, q_bx_1, q_bx_2, q_bx_3, q_bx_4, q_bx_5, q_bx_6, q_bx_7, q_bx_8, q_pop_0, q_pop_s, ↓reduceIte, Nat.reduceEqDiff, reduceCtorEq, eq_self, Bool.false_eq_true, Nat.reduceAdd, Nat.reduceSub, Nat.reduceMul, Nat.reduceLeDiff, Nat.reduceLT, Nat.le_refl, Nat.zero_le, true_and, and_true, false_and, and_false, or_false, false_or, true_or, or_true, not_true_eq_false, not_false_eq_true, if_true, if_false, List.getElem?_cons_zero, List.getElem?_cons_succ, List.set_cons_zero, List.set_cons_succ, List.length_cons, List.length_nil, ↓tX11_placeAt_0, ↓tX11_placeAt_1, ↓tX11_placeAt_4, ↓tX11_placeAt_5, ↓tX11_placeAt_6, ↓tX11_placeAt_9, ↓tX11_placeAt_10, ↓tX11_placeAt_13, ↓tX11_placeAt_14, ↓tX11_placeAt_17, ↓tX11_placeAt_18, ↓tX11_placeAt_19, ↓tX11_placeAt_22, ↓tX11_placeAt_23, ↓oAald, ↓oAl, ↓oAlen, ↓oAret, ↓oGet, ↓oGo, ↓oIf1lt, ↓oIf2ge, ↓oIl, ↓oK, q_set_s, q_set_n, z_clamp, z_ltI, z_leI, z_eqI, z_lt0, z_ge0, z_eq0I, z_gt0I, z_le0I, z_m1lt, z_m1ge, z_m1eq, z_m1eq', z_inT, z_add, z_sub, z_mul, z_div, z_rem, n_ltT, n_ltF, n_leT, n_leF, n_eqT, n_eqF, z_11, q_tl_i, q_tl_n, q_ap_n, q_ap_c, h0, h1, w_O_0]
      exact h'
  · have h' := hF fun q' hq' e => q_neg_ne hv (by omega) e
    have hlt : v < nI 0 := q_neg_lt hv (by decide)
    have hlt' : v < 0 := hlt
    refine q_X.run sX11_placeAt [] 40 ?_
    simp (maxSteps := 10000000) (disch := omega) only [↓q_run_s, q_stop_n, q_stop_c, q_lg_c, q_ls_d, q_ld_n, q_ld_c, q_cat_i, q_cat_r, q_cat_n, q_wd_n, q_wd_c, q_bx_1, q_bx_2, q_bx_3, q_bx_4, q_bx_5, q_bx_6, q_bx_7, q_bx_8, q_pop_0, q_pop_s, ↓reduceIte, Nat.reduceEqDiff, reduceCtorEq, eq_self, Bool.false_eq_true, Nat.reduceAdd, Nat.reduceSub, Nat.reduceMul, Nat.reduceLeDiff, Nat.reduceLT, Nat.le_refl, Nat.zero_le, true_and, and_true, false_and, and_false, or_false, false_or, true_or, or_true, not_true_eq_false, not_false_eq_true, if_true, if_false, List.getElem?_cons_zero, List.getElem?_cons_succ, List.set_cons_zero, List.set_cons_succ, List.length_cons, List.length_nil, ↓tX11_placeAt_0, ↓tX11_placeAt_1, ↓tX11_placeAt_4, ↓tX11_placeAt_5, ↓tX11_placeAt_6, ↓tX11_placeAt_9, ↓tX11_placeAt_10, ↓tX11_placeAt_13, ↓tX11_placeAt_14, ↓tX11_placeAt_17, ↓tX11_placeAt_18, ↓tX11_placeAt_19, ↓tX11_placeAt_22, ↓tX11_placeAt_23, ↓oAald, ↓oAl, ↓oAlen, ↓oAret, ↓oGet, ↓oGo, ↓oIf1lt, ↓oIf2ge, ↓oIl, ↓oK, q_set_s, q_set_n, z_clamp, z_ltI, z_leI, z_eqI, z_lt0, z_ge0, z_eq0I, z_gt0I, z_le0I, z_m1lt, z_m1ge, z_m1eq, z_m1eq', z_inT, z_add, z_sub, z_mul, z_div, z_rem, n_ltT, n_ltF, n_leT, n_leF, n_eqT, n_eqF, z_11, q_tl_i, q_tl_n, q_ap_n, q_ap_c, hlt, hlt']
    exact h'
set_option maxRecDepth 100000 in
set_option maxHeartbeats 8000000 in
theorem c11_patternAt {v : Int32} (hO : w_Ob M i pa ca fi) (hP : ∀ q, q < 10 → w_pl M i q (P q)) (hd : 1 ≤ d) (hT : ∀ q t k l r, q < 10 → v = nI q → P q = some t → q_isN M (i + 35 + 4 * q) 12 k l r (t_nodes t) → t_no k l r t 0 → t_nodes t ≤ 12 → Q (some (.ref (i + 35 + 4 * q))) M) (hF : (∀ q, q < 10 → v = nI q → P q = none) → Q (some .null) M) : q_Call G L d mX11_patternAt 0 0 [.ref i, .int v] M Q := by
  have h0 := hO.1
  refine q_Call.of [(0, .ref i), (1, .int v)] rfl ?_
  refine q_X.run sX11_patternAt [] 40 ?_
  simp (maxSteps := 10000000) (disch := omega) only [↓q_run_s, q_stop_n, q_stop_c, q_lg_c, q_ls_d, q_ld_n, q_ld_c, q_cat_i, q_cat_r, q_cat_n, q_wd_n, q_wd_c, q_bx_1, q_bx_2, q_bx_3, q_bx_4, q_bx_5, q_bx_6, q_bx_7, q_bx_8, q_pop_0, q_pop_s, ↓reduceIte, Nat.reduceEqDiff, reduceCtorEq, eq_self, Bool.false_eq_true, Nat.reduceAdd, Nat.reduceSub, Nat.reduceMul, Nat.reduceLeDiff, Nat.reduceLT, Nat.le_refl, Nat.zero_le, true_and, and_true, false_and, and_false, or_false, false_or, true_or, or_true, not_true_eq_false, not_false_eq_true, if_true, if_false, List.getElem?_cons_zero, List.getElem?_cons_succ, List.set_cons_zero, List.set_cons_succ, List.length_cons, List.length_nil, ↓tX11_patternAt_0, ↓tX11_patternAt_1, ↓tX11_patternAt_2, ↓tX11_patternAt_5, ↓tX11_patternAt_6, ↓tX11_patternAt_7, ↓tX11_patternAt_10, ↓tX11_patternAt_11, ↓tX11_patternAt_14, ↓tX11_patternAt_17, ↓tX11_patternAt_18, ↓tX11_patternAt_21, ↓tX11_patternAt_22, ↓oAl, ↓oAret, ↓oAs, ↓oCallV, ↓oGo, ↓oIf1ne, ↓oIfn, ↓oIl, ↓oK, q_set_s, q_set_n, z_clamp, z_ltI, z_leI, z_eqI, z_lt0, z_ge0, z_eq0I, z_gt0I, z_le0I, z_m1lt, z_m1ge, z_m1eq, z_m1eq', z_inT, z_add, z_sub, z_mul, z_div, z_rem, n_ltT, n_ltF, n_leT, n_leF, n_eqT, n_eqF, z_11, q_tl_i, q_tl_n, q_ap_n, q_ap_c, h0]
  refine c11_placeAt hO (fun q hq e => ?_) (fun hno => ?_)
  · obtain ⟨k, l, r, hp⟩ := hP q hq
    cases hPq : P q with
    | none =>
      rw [hPq] at hp
      have hp : q_isN M (i + 35 + 4 * q) 12 k l r 0 := hp
      have hn := hp.1
      have h' := hF fun q' hq' e' => by
        have := (nI_eq (by omega) (by omega)).mp (e.symm.trans e')
        subst this
        exact hPq
      refine q_X.run sX11_patternAt [] 40 ?_
      simp (maxSteps := 10000000) (disch := omega) only [↓q_run_s, q_stop_n, q_stop_c, q_lg_c, q_ls_d, q_ld_n, q_ld_c, q_cat_i, q_cat_r, q_cat_n, q_wd_n, q_wd_c, q_bx_1, q_bx_2, q_bx_3, q_bx_4, q_bx_5, q_bx_6, q_bx_7, q_bx_8, q_pop_0, q_pop_s, ↓reduceIte, Nat.reduceEqDiff, reduceCtorEq, eq_self, Bool.false_eq_true, Nat.reduceAdd, Nat.reduceSub, Nat.reduceMul, Nat.reduceLeDiff, Nat.reduceLT, Nat.le_refl, Nat.zero_le, true_and, and_true, false_and, and_false, or_false, false_or, true_or, or_true, not_true_eq_false, not_false_eq_true, if_true, if_false, List.getElem?_cons_zero, List.getElem?_cons_succ, List.set_cons_zero, List.set_cons_succ, List.length_cons, List.length_nil, ↓tX11_patternAt_0, ↓tX11_patternAt_1, ↓tX11_patternAt_2, ↓tX11_patternAt_5, ↓tX11_patternAt_6, ↓tX11_patternAt_7, ↓tX11_patternAt_10, ↓tX11_patternAt_11, ↓tX11_patternAt_14, ↓tX11_patternAt_17, ↓tX11_patternAt_18, ↓tX11_patternAt_21, ↓tX11_patternAt_22, ↓oAl, ↓oAret, ↓oAs, ↓oCallV, ↓oGo, ↓oIf1ne, ↓oIfn, ↓oIl, ↓oK, q_set_s, q_set_n, z_clamp, z_ltI, z_leI, z_eqI, z_lt0, z_ge0, z_eq0I, z_gt0I, z_le0I, z_m1lt, z_m1ge, z_m1eq, z_m1eq', z_inT, z_add, z_sub, z_mul, z_div, z_rem, n_ltT, n_ltF, n_leT, n_leF, n_eqT, n_eqF, z_11, q_tl_i, q_tl_n, q_ap_n, q_ap_c, hn]
      refine d4_size hp ?_
      refine q_X.run sX11_patternAt [] 40 ?_
      simp (maxSteps := 10000000) (disch := omega) only [↓q_run_s, q_stop_n, q_stop_c, q_lg_c, q_ls_d, q_ld_n, q_ld_c, q_cat_i, q_cat_r, q_cat_n, q_wd_n, q_wd_c, q_bx_1, q_bx_2, q_bx_3, q_bx_4, q_bx_5, q_bx_6, q_bx_7, q_bx_8, q_pop_0, q_pop_s, ↓reduceIte, Nat.reduceEqDiff, reduceCtorEq, eq_self, Bool.false_eq_true, Nat.reduceAdd, Nat.reduceSub, Nat.reduceMul, Nat.reduceLeDiff, Nat.reduceLT, Nat.le_refl, Nat.zero_le, true_and, and_true, false_and, and_false, or_false, false_or, true_or, or_true, not_true_eq_false, not_false_eq_true, if_true, if_false, List.getElem?_cons_zero, List.getElem?_cons_succ, List.set_cons_zero, List.set_cons_succ, List.length_cons, List.length_nil, ↓tX11_patternAt_0, ↓tX11_patternAt_1, ↓tX11_patternAt_2, ↓tX11_patternAt_5, ↓tX11_patternAt_6, ↓tX11_patternAt_7, ↓tX11_patternAt_10, ↓tX11_patternAt_11, ↓tX11_patternAt_14, ↓tX11_patternAt_17, ↓tX11_patternAt_18, ↓tX11_patternAt_21, ↓tX11_patternAt_22, ↓oAl, ↓oAret, ↓oAs, ↓oCallV, ↓oGo, ↓oIf1ne, ↓oIfn, ↓oIl, ↓oK, q_set_s, q_set_n, z_clamp, z_ltI, z_leI, z_eqI, z_lt0, z_ge0, z_eq0I, z_gt0I, z_le0I, z_m1lt, z_m1ge, z_m1eq, z_m1eq', z_inT, z_add, z_sub, z_mul, z_div, z_rem, n_ltT, n_ltF, n_leT, n_leF, n_eqT, n_eqF, z_11, q_tl_i, q_tl_n, q_ap_n, q_ap_c]
      exact h'
    | some t =>
      rw [hPq] at hp
      obtain ⟨p1, p2, p3⟩ := hp
      have hn := p1.1
      have h1 := t_nodes_1 t
      have h' := hT q t k l r hq e hPq p1 p2 p3
      generalize t_nodes t = tn at *
      refine q_X.run sX11_patternAt [] 40 ?_
      simp (maxSteps := 10000000) (disch := omega) only [↓q_run_s, q_stop_n, q_stop_c, q_lg_c, q_ls_d, q_ld_n, q_ld_c, q_cat_i, q_cat_r, q_cat_n, q_wd_n, q_wd_c, q_bx_1, q_bx_2, q_bx_3, q_bx_4, q_bx_5, q_bx_6, q_bx_7, q_bx_8, q_pop_0, q_pop_s, ↓reduceIte, Nat.reduceEqDiff, reduceCtorEq, eq_self, Bool.false_eq_true, Nat.reduceAdd, Nat.reduceSub, Nat.reduceMul, Nat.reduceLeDiff, Nat.reduceLT, Nat.le_refl, Nat.zero_le, true_and, and_true, false_and, and_false, or_false, false_or, true_or, or_true, not_true_eq_false, not_false_eq_true, if_true, if_false, List.getElem?_cons_zero, List.getElem?_cons_succ, List.set_cons_zero, List.set_cons_succ, List.length_cons, List.length_nil, ↓tX11_patternAt_0, ↓tX11_patternAt_1, ↓tX11_patternAt_2, ↓tX11_patternAt_5, ↓tX11_patternAt_6, ↓tX11_patternAt_7, ↓tX11_patternAt_10, ↓tX11_patternAt_11, ↓tX11_patternAt_14, ↓tX11_patternAt_17, ↓tX11_patternAt_18, ↓tX11_patternAt_21, ↓tX11_patternAt_22, ↓oAl, ↓oAret, ↓oAs, ↓oCallV, ↓oGo, ↓oIf1ne, ↓oIfn, ↓oIl, ↓oK, q_set_s, q_set_n, z_clamp, z_ltI, z_leI, z_eqI, z_lt0, z_ge0, z_eq0I, z_gt0I, z_le0I, z_m1lt, z_m1ge, z_m1eq, z_m1eq', z_inT, z_add, z_sub, z_mul, z_div, z_rem, n_ltT, n_ltF, n_leT, n_leF, n_eqT, n_eqF, z_11, q_tl_i, q_tl_n, q_ap_n, q_ap_c, hn]
      refine d4_size p1 ?_
      refine q_X.run sX11_patternAt [] 40 ?_
      simp (maxSteps := 10000000) (disch := omega) only [↓q_run_s, q_stop_n, q_stop_c, q_lg_c, q_ls_d, q_ld_n, q_ld_c, q_cat_i, q_cat_r, q_cat_n, q_wd_n, q_wd_c, q_bx_1, q_bx_2, q_bx_3, q_bx_4, q_bx_5, q_bx_6, q_bx_7, q_bx_8, q_pop_0, q_pop_s, ↓reduceIte, Nat.reduceEqDiff, reduceCtorEq, eq_self, Bool.false_eq_true, Nat.reduceAdd, Nat.reduceSub, Nat.reduceMul, Nat.reduceLeDiff, Nat.reduceLT, Nat.le_refl, Nat.zero_le, true_and, and_true, false_and, and_false, or_false, false_or, true_or, or_true, not_true_eq_false, not_false_eq_true, if_true, if_false, List.getElem?_cons_zero, List.getElem?_cons_succ, List.set_cons_zero, List.set_cons_succ, List.length_cons, List.length_nil, ↓tX11_patternAt_0, ↓tX11_patternAt_1, ↓tX11_patternAt_2, ↓tX11_patternAt_5, ↓tX11_patternAt_6, ↓tX11_patternAt_7, ↓tX11_patternAt_10, ↓tX11_patternAt_11, ↓tX11_patternAt_14, ↓tX11_patternAt_17, ↓tX11_patternAt_18, ↓tX11_patternAt_21, ↓tX11_patternAt_22, ↓oAl, ↓oAret, ↓oAs, ↓oCallV, ↓oGo, ↓oIf1ne, ↓oIfn, ↓oIl, ↓oK, q_set_s, q_set_n, z_clamp, z_ltI, z_leI, z_eqI, z_lt0, z_ge0, z_eq0I, z_gt0I, z_le0I, z_m1lt, z_m1ge, z_m1eq, z_m1eq', z_inT, z_add, z_sub, z_mul, z_div, z_rem, n_ltT, n_ltF, n_leT, n_leF, n_eqT, n_eqF, z_11, q_tl_i, q_tl_n, q_ap_n, q_ap_c]
      exact h'
  · have h' := hF fun q hq e => absurd e (hno q hq)
    refine q_X.run sX11_patternAt [] 40 ?_
    simp (maxSteps := 10000000) (disch := omega) only [↓q_run_s, q_stop_n, q_stop_c, q_lg_c, q_ls_d, q_ld_n, q_ld_c, q_cat_i, q_cat_r, q_cat_n, q_wd_n, q_wd_c, q_bx_1, q_bx_2, q_bx_3, q_bx_4, q_bx_5, q_bx_6, q_bx_7, q_bx_8, q_pop_0, q_pop_s, ↓reduceIte, Nat.reduceEqDiff, reduceCtorEq, eq_self, Bool.false_eq_true, Nat.reduceAdd, Nat.reduceSub, Nat.reduceMul, Nat.reduceLeDiff, Nat.reduceLT, Nat.le_refl, Nat.zero_le, true_and, and_true, false_and, and_false, or_false, false_or, true_or, or_true, not_true_eq_false, not_false_eq_true, if_true, if_false, List.getElem?_cons_zero, List.getElem?_cons_succ, List.set_cons_zero, List.set_cons_succ, List.length_cons, List.length_nil, ↓tX11_patternAt_0, ↓tX11_patternAt_1, ↓tX11_patternAt_2, ↓tX11_patternAt_5, ↓tX11_patternAt_6, ↓tX11_patternAt_7, ↓tX11_patternAt_10, ↓tX11_patternAt_11, ↓tX11_patternAt_14, ↓tX11_patternAt_17, ↓tX11_patternAt_18, ↓tX11_patternAt_21, ↓tX11_patternAt_22, ↓oAl, ↓oAret, ↓oAs, ↓oCallV, ↓oGo, ↓oIf1ne, ↓oIfn, ↓oIl, ↓oK, q_set_s, q_set_n, z_clamp, z_ltI, z_leI, z_eqI, z_lt0, z_ge0, z_eq0I, z_gt0I, z_le0I, z_m1lt, z_m1ge, z_m1eq, z_m1eq', z_inT, z_add, z_sub, z_mul, z_div, z_rem, n_ltT, n_ltF, n_leT, n_leF, n_eqT, n_eqF, z_11, q_tl_i, q_tl_n, q_ap_n, q_ap_c]
    exact h'
end
