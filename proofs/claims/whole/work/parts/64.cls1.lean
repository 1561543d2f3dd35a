/-! the class's Catalogue: the table laid -/
theorem q_cn {M0 : qM} {i : Nat} {A : Nat → Nat → Int32} {k l r : Nat → Int32} {sz : Nat} : q_ca (q_nd M0 (i + 1) 4937 k l r sz) i A = q_nd (q_ca M0 i A) (i + 1) 4937 k l r sz := by
  rw [q_nd_og, q_nd_og]
  refine q_og_comm fun a h1 h2 => ?_
  obtain ⟨q, rfl⟩ : ∃ q, a = i + 1 + q := ⟨a - (i + 1), by omega⟩
  rw [Nat.add_sub_cancel_left, show i + 1 + q - i = q + 1 by omega]
  match q with
  | 0 => exact Or.inr rfl
  | 1 => exact Or.inr rfl
  | 2 => exact Or.inr rfl
  | 3 => exact Or.inr rfl
  | q + 4 => exact Or.inl rfl
theorem cn_0 {M0 : qM} {i : Nat} {A : Nat → Nat → Int32} {k l r : Nat → Int32} {sz : Nat} : ((q_ca (q_nd M0 (i + 1) 4937 k l r sz) i A)).2 (i + 1) = some (.inr (4, [.ref (i + 1 + 1), .ref (i + 1 + 2), .ref (i + 1 + 3), .int (nI sz)])) := by
  rw [q_cn]
  exact nd_0
def k_hC (k l r : Nat → Int32) (U : Nat → Int32) (T : List kE) : Prop := ∀ j e, T[j]? = some e → k j = nI (t_kind e.2.2) ∧ l j = nI e.1 ∧ r j = nI e.2.1 ∧ U j = nI (t_uses e.2.2)
theorem k_hC_app {k l r U : Nat → Int32} {T : List kE} {e : kE} (h : k_hC k l r U T) : k_hC (upd k T.length (nI (t_kind e.2.2))) (upd l T.length (nI e.1)) (upd r T.length (nI e.2.1)) (upd U T.length (nI (t_uses e.2.2))) (T ++ [e]) := by
  intro j e' hj
  by_cases c : j < T.length
  · rw [List.getElem?_append_left c] at hj
    rw [q_ud_n _ _ (by omega), q_ud_n _ _ (by omega), q_ud_n _ _ (by omega), q_ud_n _ _ (by omega)]
    exact h j e' hj
  · rw [List.getElem?_append_right (by omega)] at hj
    by_cases c2 : j = T.length
    · subst c2
      rw [Nat.sub_self] at hj
      cases hj
      exact ⟨q_ud_s _ _ _, q_ud_s _ _ _, q_ud_s _ _ _, q_ud_s _ _ _⟩
    · rw [List.getElem?_eq_none (by show 1 ≤ _; omega)] at hj
      cases hj
theorem t_cost_2 : ∀ t : qT, 2 ≤ t_cost t
  | .num _ => Nat.le_refl _
  | .var _ => by show 2 ≤ 3; omega
  | .add x y => by have := t_cost_2 x; show 2 ≤ 1 + t_cost x + t_cost y; omega
  | .sub x y => by show 2 ≤ 2 + t_cost x + t_cost y; omega
  | .neg x => by show 2 ≤ 2 + t_cost x; omega
  | .mulL _ x => by show 2 ≤ 2 + t_cost x; omega
  | .mulR x _ => by show 2 ≤ 2 + t_cost x; omega
theorem t_uses_lt : ∀ t : qT, t_uses t < 64
  | .num _ => by show 1 < 64; omega
  | .var _ => by show 2 < 64; omega
  | .add x y => Nat.or_lt_two_pow (n := 6) (Nat.or_lt_two_pow (n := 6) (by decide) (t_uses_lt x)) (t_uses_lt y)
  | .sub x y => Nat.or_lt_two_pow (n := 6) (Nat.or_lt_two_pow (n := 6) (by decide) (t_uses_lt x)) (t_uses_lt y)
  | .neg x => Nat.or_lt_two_pow (n := 6) (by decide) (t_uses_lt x)
  | .mulL _ x => Nat.or_lt_two_pow (n := 6) (by decide) (t_uses_lt x)
  | .mulR x _ => Nat.or_lt_two_pow (n := 6) (by decide) (t_uses_lt x)
/-- rows behind which nothing more comes -/
theorem k_prs_tail {kd own c : Nat} {T : List kE} {F : Nat → Nat} {x0 : Nat} : ∀ d : Nat, (∀ x, x0 ≤ x → x < x0 + d → k_rn kd own c T F x = 0) → k_prs kd own c T F (x0 + d) = k_prs kd own c T F x0
  | 0, _ => rfl
  | d + 1, h => by
    rw [show x0 + (d + 1) = x0 + d + 1 by omega, k_prs_s, h (x0 + d) (by omega) (by omega), k_prs_tail d fun x h1 h2 => h x h1 (by omega)]
    exact List.append_nil _
theorem k_prs_end {kd own c cx : Nat} (h : c < own + cx + 2) (hcx : cx ≤ c) : k_prs kd own c (k_T c) k_F (k_F c) = k_prs kd own c (k_T c) k_F (k_F cx) := by
  have hm : k_F cx ≤ k_F c := k_F_mono hcx
  rw [show k_F c = k_F cx + (k_F c - k_F cx) by omega]
  refine k_prs_tail _ fun x h1 h2 => ?_
  obtain ⟨-, -, c', g1, g2, g3, g4⟩ := k_all_at (c := c) (j := x) (fun c' _ => k_Bl_all c') (by omega)
  unfold k_rn
  rw [if_pos]
  right
  rw [g4]
  have : cx ≤ c' := Nat.le_of_not_lt fun g => by
    have : k_F (c' + 1) ≤ k_F cx := k_F_mono g
    omega
  omega
def k_Y (c : Nat) (T : List kE) (A : Nat → Nat → Int32) (k l r : Nat → Int32) : Prop := k_hC k l r (A 2) T ∧ ∀ c', 2 ≤ c' → c' ≤ c → A 1 c' = nI (k_F c')
section
variable {G : qC} {L : Launch} {d : Nat} {Q : Option Value → qM → Prop} {M0 : qM} {i : Nat} {A : Nat → Nat → Int32} {k l r : Nat → Int32} {sz : Nat}
set_option maxRecDepth 100000 in
set_option maxHeartbeats 8000000 in
theorem c1_begin {M : qM} {c : Nat} (hM : q_ca M i A = M) (hc : c < 12) (hQ : Q (some (.int (A 1 c))) M) : q_Call G L d mX1_begin 0 0 [.ref i, .int (nI c)] M Q := by
  rw [← hM] at hQ ⊢
  refine q_Call.of [(0, .ref i), (1, .int (nI c))] rfl ?_
  refine q_X.run sX1_begin [] 30 ?_
  simp (maxSteps := 10000000) (disch := omega) only [↓q_run_s, q_stop_n, q_stop_c, q_lg_c, q_ls_d, q_ld_n, q_ld_c, q_cat_i, q_cat_r, q_cat_n, q_wd_n, q_wd_c, q_bx_1, q_bx_2, q_bx_3, q_bx_4, q_bx_5, q_bx_6, q_bx_7, q_bx_8, q_pop_0, q_pop_s, ↓reduceIte, Nat.reduceEqDiff, reduceCtorEq, eq_self, Bool.false_eq_true, Nat.reduceAdd, Nat.reduceSub, Nat.reduceMul, Nat.reduceLeDiff, Nat.reduceLT, Nat.le_refl, Nat.zero_le, true_and, and_true, false_and, and_false, or_false, false_or, true_or, or_true, not_true_eq_false, not_false_eq_true, if_true, if_false, List.getElem?_cons_zero, List.getElem?_cons_succ, List.set_cons_zero, List.set_cons_succ, List.length_cons, List.length_nil, ↓tX1_begin_0, ↓tX1_begin_1, ↓tX1_begin_4, ↓tX1_begin_5, ↓tX1_begin_6, ↓tX1_begin_9, ↓tX1_begin_10, ↓tX1_begin_13, ↓tX1_begin_14, ↓tX1_begin_17, ↓tX1_begin_18, ↓tX1_begin_19, ↓tX1_begin_22, ↓tX1_begin_23, ↓oAl, ↓oAlen, ↓oGet, ↓oGo, ↓oIald, ↓oIf1lt, ↓oIf2ge, ↓oIl, ↓oIret, ↓oK, q_set_s, q_set_n, ca_0, caO_len, q_up_a, caO_1, ca_a1, z_clamp, z_ltI, z_leI, z_eqI, z_lt0, z_ge0, z_eq0I, z_gt0I, z_le0I, z_m1lt, z_m1ge, z_m1eq, z_m1eq', z_inT, z_add, z_sub, z_mul, z_div, z_rem, n_ltT, n_ltF, n_leT, n_leF, n_eqT, n_eqF, z_11, q_tl_i, q_tl_n, q_ap_n, q_ap_c]
  exact hQ
set_option maxRecDepth 100000 in
set_option maxHeartbeats 8000000 in
theorem c1_end {M : qM} {c : Nat} (hM : q_ca M i A = M) (hc : c < 11) (hd : 1 ≤ d) (hQ : Q (some (.int (A 1 (c + 1)))) M) : q_Call G L d mX1_end 0 0 [.ref i, .int (nI c)] M Q := by
  have h0 : M.2 i = some (.inr (1, caO i)) := by rw [← hM]; exact ca_0
  refine q_Call.of [(0, .ref i), (1, .int (nI c))] rfl ?_
  refine q_X.run sX1_end [] 30 ?_
  simp (maxSteps := 10000000) (disch := omega) only [↓q_run_s, q_stop_n, q_stop_c, q_lg_c, q_ls_d, q_ld_n, q_ld_c, q_cat_i, q_cat_r, q_cat_n, q_wd_n, q_wd_c, q_bx_1, q_bx_2, q_bx_3, q_bx_4, q_bx_5, q_bx_6, q_bx_7, q_bx_8, q_pop_0, q_pop_s, ↓reduceIte, Nat.reduceEqDiff, reduceCtorEq, eq_self, Bool.false_eq_true, Nat.reduceAdd, Nat.reduceSub, Nat.reduceMul, Nat.reduceLeDiff, Nat.reduceLT, Nat.le_refl, Nat.zero_le, true_and, and_true, false_and, and_false, or_false, false_or, true_or, or_true, not_true_eq_false, not_false_eq_true, if_true, if_false, List.getElem?_cons_zero, List.getElem?_cons_succ, List.set_cons_zero, List.set_cons_succ, List.length_cons, List.length_nil, ↓tX1_end_0, ↓tX1_end_1, ↓tX1_end_2, ↓tX1_end_3, ↓tX1_end_4, ↓tX1_end_7, ↓oAdd, ↓oAl, ↓oCallV, ↓oIl, ↓oIret, ↓oK, q_set_s, q_set_n, ca_0, caO_len, q_up_a, z_clamp, z_ltI, z_leI, z_eqI, z_lt0, z_ge0, z_eq0I, z_gt0I, z_le0I, z_m1lt, z_m1ge, z_m1eq, z_m1eq', z_inT, z_add, z_sub, z_mul, z_div, z_rem, n_ltT, n_ltF, n_leT, n_leF, n_eqT, n_eqF, z_11, q_tl_i, q_tl_n, q_ap_n, q_ap_c, h0]
  refine c1_begin hM (by omega) ?_
  refine q_X.run sX1_end [] 30 ?_
  simp (maxSteps := 10000000) (disch := omega) only [↓q_run_s, q_stop_n, q_stop_c, q_lg_c, q_ls_d, q_ld_n, q_ld_c, q_cat_i, q_cat_r, q_cat_n, q_wd_n, q_wd_c, q_bx_1, q_bx_2, q_bx_3, q_bx_4, q_bx_5, q_bx_6, q_bx_7, q_bx_8, q_pop_0, q_pop_s, ↓reduceIte, Nat.reduceEqDiff, reduceCtorEq, eq_self, Bool.false_eq_true, Nat.reduceAdd, Nat.reduceSub, Nat.reduceMul, Nat.reduceLeDiff, Nat.reduceLT, Nat.le_refl, Nat.zero_le, true_and, and_true, false_and, and_false, or_false, false_or, true_or, or_true, not_true_eq_false, not_false_eq_true, if_true, if_false, List.getElem?_cons_zero, List.getElem?_cons_succ, List.set_cons_zero, List.set_cons_succ, List.length_cons, List.length_nil, ↓tX1_end_0, ↓tX1_end_1, ↓tX1_end_2, ↓tX1_end_3, ↓tX1_end_4, ↓tX1_end_7, ↓oAdd, ↓oAl, ↓oCallV, ↓oIl, ↓oIret, ↓oK, q_set_s, q_set_n, ca_0, caO_len, q_up_a, z_clamp, z_ltI, z_leI, z_eqI, z_lt0, z_ge0, z_eq0I, z_gt0I, z_le0I, z_m1lt, z_m1ge, z_m1eq, z_m1eq', z_inT, z_add, z_sub, z_mul, z_div, z_rem, n_ltT, n_ltF, n_leT, n_leF, n_eqT, n_eqF, z_11, q_tl_i, q_tl_n, q_ap_n, q_ap_c]
  exact hQ
set_option maxRecDepth 100000 in
set_option maxHeartbeats 8000000 in
theorem c1_kindsOf {M : qM} {p : Nat} (hM : q_ca M i A = M) (hp : p < 4937) (hQ : Q (some (.int (A 2 p))) M) : q_Call G L d mX1_kindsOf 0 0 [.ref i, .int (nI p)] M Q := by
  rw [← hM] at hQ ⊢
  refine q_Call.of [(0, .ref i), (1, .int (nI p))] rfl ?_
  refine q_X.run sX1_kindsOf [] 30 ?_
  simp (maxSteps := 10000000) (disch := omega) only [↓q_run_s, q_stop_n, q_stop_c, q_lg_c, q_ls_d, q_ld_n, q_ld_c, q_cat_i, q_cat_r, q_cat_n, q_wd_n, q_wd_c, q_bx_1, q_bx_2, q_bx_3, q_bx_4, q_bx_5, q_bx_6, q_bx_7, q_bx_8, q_pop_0, q_pop_s, ↓reduceIte, Nat.reduceEqDiff, reduceCtorEq, eq_self, Bool.false_eq_true, Nat.reduceAdd, Nat.reduceSub, Nat.reduceMul, Nat.reduceLeDiff, Nat.reduceLT, Nat.le_refl, Nat.zero_le, true_and, and_true, false_and, and_false, or_false, false_or, true_or, or_true, not_true_eq_false, not_false_eq_true, if_true, if_false, List.getElem?_cons_zero, List.getElem?_cons_succ, List.set_cons_zero, List.set_cons_succ, List.length_cons, List.length_nil, ↓tX1_kindsOf_0, ↓tX1_kindsOf_1, ↓tX1_kindsOf_4, ↓tX1_kindsOf_5, ↓tX1_kindsOf_6, ↓tX1_kindsOf_9, ↓tX1_kindsOf_10, ↓tX1_kindsOf_13, ↓tX1_kindsOf_14, ↓tX1_kindsOf_17, ↓tX1_kindsOf_18, ↓tX1_kindsOf_19, ↓tX1_kindsOf_22, ↓tX1_kindsOf_23, ↓oAl, ↓oAlen, ↓oGet, ↓oGo, ↓oIald, ↓oIf1lt, ↓oIf2ge, ↓oIl, ↓oIret, ↓oK, q_set_s, q_set_n, ca_0, caO_len, q_up_a, caO_2, ca_a2, z_clamp, z_ltI, z_leI, z_eqI, z_lt0, z_ge0, z_eq0I, z_gt0I, z_le0I, z_m1lt, z_m1ge, z_m1eq, z_m1eq', z_inT, z_add, z_sub, z_mul, z_div, z_rem, n_ltT, n_ltF, n_leT, n_leF, n_eqT, n_eqF, z_11, q_tl_i, q_tl_n, q_ap_n, q_ap_c]
  exact hQ
theorem ca_id {A : Nat → Nat → Int32} : q_ca (q_ca (q_nd M0 (i + 1) 4937 k l r sz) i A) i A = (q_ca (q_nd M0 (i + 1) 4937 k l r sz) i A) := q_og_idem fun k h => h
theorem e4_add {a x y : Int32} (hs : sz < 4937) (hQ : Q (some (.int (nI sz))) (q_ca (q_nd M0 (i + 1) 4937 (upd k sz a) (upd l sz x) (upd r sz y) (sz + 1)) i A)) : q_Call G L d mX4_add 0 0 [.ref (i + 1), .int a, .int x, .int y] (q_ca (q_nd M0 (i + 1) 4937 k l r sz) i A) Q := by
  rw [q_cn] at hQ ⊢
  exact c4_add hs (by decide) hQ
theorem e4_kindOf {j : Nat} (hj : j < sz) (hs : sz ≤ 4937) (hQ : Q (some (.int (k j))) (q_ca (q_nd M0 (i + 1) 4937 k l r sz) i A)) : q_Call G L d mX4_kindOf 0 0 [.ref (i + 1), .int (nI j)] (q_ca (q_nd M0 (i + 1) 4937 k l r sz) i A) Q := by
  rw [q_cn] at hQ ⊢
  exact c4_kindOf hj hs (by decide) hQ
theorem e4_size (hQ : Q (some (.int (nI sz))) (q_ca (q_nd M0 (i + 1) 4937 k l r sz) i A)) : q_Call G L d mX4_size 0 0 [.ref (i + 1)] (q_ca (q_nd M0 (i + 1) 4937 k l r sz) i A) Q := by
  rw [q_cn] at hQ ⊢
  exact c4_size hQ
set_option maxRecDepth 100000 in
set_option maxHeartbeats 8000000 in
theorem c1_add {c w : Nat} {T : List kE} {e : kE} {a1 a2 a3 : Int32} (g1 : a1 = nI (t_kind e.2.2)) (g2 : a2 = nI e.1) (g3 : a3 = nI e.2.1) (hw : w ||| 2 ^ t_kind e.2.2 = t_uses e.2.2) (hc : c ≤ 10) (hp : T ++ [e] <+: k_T (c + 1)) (hd : 1 ≤ d) (hY : k_Y c T A k l r) (hQ : ∀ A' k' l' r', k_Y c (T ++ [e]) A' k' l' r' → Q none (q_ca (q_nd M0 (i + 1) 4937 k' l' r' ((T ++ [e]).length)) i A')) : q_Call G L d mX1_add 0 0 [.ref i, .int a1, .int a2, .int a3, .int (nI w)] (q_ca (q_nd M0 (i + 1) 4937 k l r (T.length)) i A) Q := by
  have hlen := k_pre_len hc hp
  have hk := t_kind_lt e.2.2
  subst g1 g2 g3
  have h' := hQ (va_up A 2 (upd (A 2) T.length (nI (t_uses e.2.2)))) _ _ _ ⟨by rw [va_up_self]; exact k_hC_app hY.1, fun c' h1 h2 => by rw [va_up_ne _ _ (by decide)]; exact hY.2 c' h1 h2⟩
  rw [List.length_append] at h'
  refine q_Call.of [(0, .ref i), (1, .int (nI (t_kind e.2.2))), (2, .int (nI e.1)), (3, .int (nI e.2.1)), (4, .int (nI w))] rfl ?_
  refine q_X.run sX1_add [] 30 ?_
  simp (maxSteps := 10000000) (disch := omega) only [↓q_run_s, q_stop_n, q_stop_c, q_lg_c, q_ls_d, q_ld_n, q_ld_c, q_cat_i, q_cat_r, q_cat_n, q_wd_n, q_wd_c, q_bx_1, q_bx_2, q_bx_3, q_bx_4, q_bx_5, q_bx_6, q_bx_7, q_bx_8, q_pop_0, q_pop_s, ↓reduceIte, Nat.reduceEqDiff, reduceCtorEq, eq_self, Bool.false_eq_true, Nat.reduceAdd, Nat.reduceSub, Nat.reduceMul, Nat.reduceLeDiff, Nat.reduceLT, Nat.le_refl, Nat.zero_le, true_and, and_true, false_and, and_false, or_false, false_or, true_or, or_true, not_true_eq_false, not_false_eq_true, if_true, if_false, List.getElem?_cons_zero, List.getElem?_cons_succ, List.set_cons_zero, List.set_cons_succ, List.length_cons, List.length_nil, ↓tX1_add_0, ↓tX1_add_1, ↓tX1_add_4, ↓tX1_add_5, ↓tX1_add_6, ↓tX1_add_7, ↓tX1_add_10, ↓tX1_add_12, ↓tX1_add_14, ↓tX1_add_17, ↓tX1_add_19, ↓tX1_add_20, ↓tX1_add_23, ↓tX1_add_24, ↓tX1_add_27, ↓tX1_add_28, ↓tX1_add_31, ↓tX1_add_33, ↓tX1_add_35, ↓tX1_add_36, ↓tX1_add_37, ↓tX1_add_38, ↓tX1_add_39, ↓tX1_add_40, ↓oAl, ↓oAlen, ↓oCallV, ↓oGet, ↓oIast, ↓oIf1lt, ↓oIf2ge, ↓oIl, ↓oIs, ↓oK, ↓oOr, ↓oShl, ↓oVret, q_set_s, q_set_n, ca_0, caO_len, q_up_a, caO_0, caO_2, ca_a2, cas_a2, z_clamp, z_ltI, z_leI, z_eqI, z_lt0, z_ge0, z_eq0I, z_gt0I, z_le0I, z_m1lt, z_m1ge, z_m1eq, z_m1eq', z_inT, z_add, z_sub, z_mul, z_div, z_rem, n_ltT, n_ltF, n_leT, n_leF, n_eqT, n_eqF, z_11, q_tl_i, q_tl_n, q_ap_n, q_ap_c, cn_0]
  refine e4_add hlen ?_
  refine q_X.run sX1_add [] 40 ?_
  simp (maxSteps := 10000000) (disch := omega) only [↓q_run_s, q_stop_n, q_stop_c, q_lg_c, q_ls_d, q_ld_n, q_ld_c, q_cat_i, q_cat_r, q_cat_n, q_wd_n, q_wd_c, q_bx_1, q_bx_2, q_bx_3, q_bx_4, q_bx_5, q_bx_6, q_bx_7, q_bx_8, q_pop_0, q_pop_s, ↓reduceIte, Nat.reduceEqDiff, reduceCtorEq, eq_self, Bool.false_eq_true, Nat.reduceAdd, Nat.reduceSub, Nat.reduceMul, Nat.reduceLeDiff, Nat.reduceLT, Nat.le_refl, Nat.zero_le, true_and, and_true, false_and, and_false, or_false, false_or, true_or, or_true, not_true_eq_false, not_false_eq_true, if_true, if_false, List.getElem?_cons_zero, List.getElem?_cons_succ, List.set_cons_zero, List.set_cons_succ, List.length_cons, List.length_nil, ↓tX1_add_0, ↓tX1_add_1, ↓tX1_add_4, ↓tX1_add_5, ↓tX1_add_6, ↓tX1_add_7, ↓tX1_add_10, ↓tX1_add_12, ↓tX1_add_14, ↓tX1_add_17, ↓tX1_add_19, ↓tX1_add_20, ↓tX1_add_23, ↓tX1_add_24, ↓tX1_add_27, ↓tX1_add_28, ↓tX1_add_31, ↓tX1_add_33, ↓tX1_add_35, ↓tX1_add_36, ↓tX1_add_37, ↓tX1_add_38, ↓tX1_add_39, ↓tX1_add_40, ↓oAl, ↓oAlen, ↓oCallV, ↓oGet, ↓oIast, ↓oIf1lt, ↓oIf2ge, ↓oIl, ↓oIs, ↓oK, ↓oOr, ↓oShl, ↓oVret, q_set_s, q_set_n, ca_0, caO_len, q_up_a, caO_0, caO_2, ca_a2, cas_a2, z_clamp, z_ltI, z_leI, z_eqI, z_lt0, z_ge0, z_eq0I, z_gt0I, z_le0I, z_m1lt, z_m1ge, z_m1eq, z_m1eq', z_inT, z_add, z_sub, z_mul, z_div, z_rem, n_ltT, n_ltF, n_leT, n_leF, n_eqT, n_eqF, z_11, q_tl_i, q_tl_n, q_ap_n, q_ap_c, z_shl1, z_or, hw]
  exact h'
set_option maxRecDepth 100000 in
set_option maxHeartbeats 8000000 in
theorem c1_addLeaves {c kd a b : Nat} {T : List kE} {f : Nat → kE} (hk : kd = 0 ∨ kd = 1) (hc : c ≤ 10) (hb : b < 10) (hab : a ≤ b) (hf : ∀ v, a ≤ v → v ≤ b → t_kind (f v).2.2 = kd ∧ (f v).1 = v ∧ (f v).2.1 = 0 ∧ 2 ^ kd = t_uses (f v).2.2) (hd : 2 ≤ d) (hY : k_Y c T A k l r) (hN : c ≠ m_pr kd → Q none (q_ca (q_nd M0 (i + 1) 4937 k l r (T.length)) i A)) (hp : c = m_pr kd → ∀ q, q ≤ b + 1 - a → T ++ (List.range q).map (fun v => f (a + v)) <+: k_T (c + 1)) (hQ : c = m_pr kd → ∀ A' k' l' r', k_Y c (T ++ (List.range (b + 1 - a)).map (fun v => f (a + v))) A' k' l' r' → Q none (q_ca (q_nd M0 (i + 1) 4937 k' l' r' ((T ++ (List.range (b + 1 - a)).map (fun v => f (a + v))).length)) i A')) : q_Call G L d mX1_addLeaves 0 0 [.ref i, .int (nI c), .int (nI kd), .int (nI a), .int (nI b)] (q_ca (q_nd M0 (i + 1) 4937 k l r (T.length)) i A) Q := by
  have hmp : m_pr kd ≤ 3 := by rcases hk with h | h <;> subst h <;> decide
  refine q_Call.of [(0, .ref i), (1, .int (nI c)), (2, .int (nI kd)), (3, .int (nI a)), (4, .int (nI b))] rfl ?_
  refine q_X.run sX1_addLeaves [] 20 ?_
  simp (maxSteps := 10000000) (disch := omega) only [↓q_run_s, q_stop_n, q_stop_c, q_lg_c, q_ls_d, q_ld_n, q_ld_c, q_cat_i, q_cat_r, q_cat_n, q_wd_n, q_wd_c, q_bx_1, q_bx_2, q_bx_3, q_bx_4, q_bx_5, q_bx_6, q_bx_7, q_bx_8, q_pop_0, q_pop_s, ↓reduceIte, Nat.reduceEqDiff, reduceCtorEq, eq_self, Bool.false_eq_true, Nat.reduceAdd, Nat.reduceSub, Nat.reduceMul, Nat.reduceLeDiff, Nat.reduceLT, Nat.le_refl, Nat.zero_le, true_and, and_true, false_and, and_false, or_false, false_or, true_or, or_true, not_true_eq_false, not_false_eq_true, if_true, if_false, List.getElem?_cons_zero, List.getElem?_cons_succ, List.set_cons_zero, List.set_cons_succ, List.length_cons, List.length_nil, ↓tX1_addLeaves_0, ↓tX1_addLeaves_1, ↓tX1_addLeaves_2, ↓tX1_addLeaves_5, ↓tX1_addLeaves_8, ↓tX1_addLeaves_9, ↓tX1_addLeaves_11, ↓tX1_addLeaves_13, ↓tX1_addLeaves_15, ↓tX1_addLeaves_18, ↓tX1_addLeaves_19, ↓tX1_addLeaves_20, ↓tX1_addLeaves_22, ↓tX1_addLeaves_23, ↓tX1_addLeaves_24, ↓tX1_addLeaves_27, ↓tX1_addLeaves_30, ↓tX1_addLeaves_33, ↓oAl, ↓oCallS, ↓oCallV, ↓oGo, ↓oIf2gt, ↓oIf2ne, ↓oIl, ↓oInc, ↓oIs, ↓oK, ↓oVret, q_set_s, q_set_n, ca_0, caO_len, q_up_a, z_clamp, z_ltI, z_leI, z_eqI, z_lt0, z_ge0, z_eq0I, z_gt0I, z_le0I, z_m1lt, z_m1ge, z_m1eq, z_m1eq', z_inT, z_add, z_sub, z_mul, z_div, z_rem, n_ltT, n_ltF, n_leT, n_leF, n_eqT, n_eqF, z_11, q_tl_i, q_tl_n, q_ap_n, q_ap_c]
  refine c11_ownCost (by omega) ?_
  by_cases cm : c = m_pr kd
  · have hp := hp cm
    have hQ := hQ cm
    have loop : ∀ (g q : Nat) (A' : Nat → Nat → Int32) (k' l' r' : Nat → Int32), g + q = b + 1 - a → k_Y c (T ++ (List.range q).map (fun v => f (a + v))) A' k' l' r' → q_X G L d mX1_addLeaves 0 0 Q 11 [(0, .ref i), (2, .int (nI kd)), (4, .int (nI b)), (5, .int (nI (a + q)))] [] (q_ca (q_nd M0 (i + 1) 4937 k' l' r' ((T ++ (List.range q).map (fun v => f (a + v))).length)) i A') 0 0 := by
      intro g
      induction g with
      | zero =>
        intro q A' k' l' r' hg hY'
        have e : q = b + 1 - a := by omega
        subst e
        have h' := hQ A' k' l' r' hY'
        refine q_X.run sX1_addLeaves [] 20 ?_
        simp (maxSteps := 10000000) (disch := omega) only [↓q_run_s, q_stop_n, q_stop_c, q_lg_c, q_ls_d, q_ld_n, q_ld_c, q_cat_i, q_cat_r, q_cat_n, q_wd_n, q_wd_c, q_bx_1, q_bx_2, q_bx_3, q_bx_4, q_bx_5, q_bx_6, q_bx_7, q_bx_8, q_pop_0, q_pop_s, ↓reduceIte, Nat.reduceEqDiff, reduceCtorEq, eq_self, Bool.false_eq_true, Nat.reduceAdd, Nat.reduceSub, Nat.reduceMul, Nat.reduceLeDiff, Nat.reduceLT, Nat.le_refl, Nat.zero_le, true_and, and_true, false_and, and_false, or_false, false_or, true_or, or_true, not_true_eq_false, not_false_eq_true, if_true, if_false, List.getElem?_cons_zero, List.getElem?_cons_succ, List.set_cons_zero, List.set_cons_succ, List.length_cons, List.length_nil, ↓tX1_addLeaves_0, ↓tX1_addLeaves_1, ↓tX1_addLeaves_2, ↓tX1_addLeaves_5, ↓tX1_addLeaves_8, ↓tX1_addLeaves_9, ↓tX1_addLeaves_11, ↓tX1_addLeaves_13, ↓tX1_addLeaves_15, ↓tX1_addLeaves_18, ↓tX1_addLeaves_19, ↓tX1_addLeaves_20, ↓tX1_addLeaves_22, ↓tX1_addLeaves_23, ↓tX1_addLeaves_24, ↓tX1_addLeaves_27, ↓tX1_addLeaves_30, ↓tX1_addLeaves_33, ↓oAl, ↓oCallS, ↓oCallV, ↓oGo, ↓oIf2gt, ↓oIf2ne, ↓oIl, ↓oInc, ↓oIs, ↓oK, ↓oVret, q_set_s, q_set_n, ca_0, caO_len, q_up_a, z_clamp, z_ltI, z_leI, z_eqI, z_lt0, z_ge0, z_eq0I, z_gt0I, z_le0I, z_m1lt, z_m1ge, z_m1eq, z_m1eq', z_inT, z_add, z_sub, z_mul, z_div, z_rem, n_ltT, n_ltF, n_leT, n_leF, n_eqT, n_eqF, z_11, q_tl_i, q_tl_n, q_ap_n, q_ap_c]
        exact h'
      | succ g ih =>
        intro q A' k' l' r' hg hY'
        have hpre := hp (q + 1) (by omega)
        have hZ3 := fun A' k' l' r' => ih (q + 1) A' k' l' r' (by omega)
        rw [List.range_succ, List.map_append, ← List.append_assoc] at hpre hZ3
        obtain ⟨f1, f2, f3, f4⟩ := hf (a + q) (by omega) (by omega)
        generalize hTT : T ++ (List.range q).map (fun v => f (a + v)) = TT at *
        refine q_X.run sX1_addLeaves [] 20 ?_
        simp (maxSteps := 10000000) (disch := omega) only [↓q_run_s, q_stop_n, q_stop_c, q_lg_c, q_ls_d, q_ld_n, q_ld_c, q_cat_i, q_cat_r, q_cat_n, q_wd_n, q_wd_c, q_bx_1, q_bx_2, q_bx_3, q_bx_4, q_bx_5, q_bx_6, q_bx_7, q_bx_8, q_pop_0, q_pop_s, ↓reduceIte, Nat.reduceEqDiff, reduceCtorEq, eq_self, Bool.false_eq_true, Nat.reduceAdd, Nat.reduceSub, Nat.reduceMul, Nat.reduceLeDiff, Nat.reduceLT, Nat.le_refl, Nat.zero_le, true_and, and_true, false_and, and_false, or_false, false_or, true_or, or_true, not_true_eq_false, not_false_eq_true, if_true, if_false, List.getElem?_cons_zero, List.getElem?_cons_succ, List.set_cons_zero, List.set_cons_succ, List.length_cons, List.length_nil, ↓tX1_addLeaves_0, ↓tX1_addLeaves_1, ↓tX1_addLeaves_2, ↓tX1_addLeaves_5, ↓tX1_addLeaves_8, ↓tX1_addLeaves_9, ↓tX1_addLeaves_11, ↓tX1_addLeaves_13, ↓tX1_addLeaves_15, ↓tX1_addLeaves_18, ↓tX1_addLeaves_19, ↓tX1_addLeaves_20, ↓tX1_addLeaves_22, ↓tX1_addLeaves_23, ↓tX1_addLeaves_24, ↓tX1_addLeaves_27, ↓tX1_addLeaves_30, ↓tX1_addLeaves_33, ↓oAl, ↓oCallS, ↓oCallV, ↓oGo, ↓oIf2gt, ↓oIf2ne, ↓oIl, ↓oInc, ↓oIs, ↓oK, ↓oVret, q_set_s, q_set_n, ca_0, caO_len, q_up_a, z_clamp, z_ltI, z_leI, z_eqI, z_lt0, z_ge0, z_eq0I, z_gt0I, z_le0I, z_m1lt, z_m1ge, z_m1eq, z_m1eq', z_inT, z_add, z_sub, z_mul, z_div, z_rem, n_ltT, n_ltF, n_leT, n_leF, n_eqT, n_eqF, z_11, q_tl_i, q_tl_n, q_ap_n, q_ap_c]
        refine c1_add (c := c) (w := 0) (e := f (a + q)) (by rw [f1]) (by rw [f2]) (by rw [f3]) (by rw [Nat.zero_or, f1]; exact f4) hc hpre (by omega) hY' fun A2 k2 l2 r2 hY2 => ?_
        have h' := hZ3 A2 k2 l2 r2 hY2
        refine q_X.run sX1_addLeaves [11] 20 ?_
        simp (maxSteps := 10000000) (disch := omega) only [↓q_run_s, q_stop_n, q_stop_c, q_lg_c, q_ls_d, q_ld_n, q_ld_c, q_cat_i, q_cat_r, q_cat_n, q_wd_n, q_wd_c, q_bx_1, q_bx_2, q_bx_3, q_bx_4, q_bx_5, q_bx_6, q_bx_7, q_bx_8, q_pop_0, q_pop_s, ↓reduceIte, Nat.reduceEqDiff, reduceCtorEq, eq_self, Bool.false_eq_true, Nat.reduceAdd, Nat.reduceSub, Nat.reduceMul, Nat.reduceLeDiff, Nat.reduceLT, Nat.le_refl, Nat.zero_le, true_and, and_true, false_and, and_false, or_false, false_or, true_or, or_true, not_true_eq_false, not_false_eq_true, if_true, if_false, List.getElem?_cons_zero, List.getElem?_cons_succ, List.set_cons_zero, List.set_cons_succ, List.length_cons, List.length_nil, ↓tX1_addLeaves_0, ↓tX1_addLeaves_1, ↓tX1_addLeaves_2, ↓tX1_addLeaves_5, ↓tX1_addLeaves_8, ↓tX1_addLeaves_9, ↓tX1_addLeaves_11, ↓tX1_addLeaves_13, ↓tX1_addLeaves_15, ↓tX1_addLeaves_18, ↓tX1_addLeaves_19, ↓tX1_addLeaves_20, ↓tX1_addLeaves_22, ↓tX1_addLeaves_23, ↓tX1_addLeaves_24, ↓tX1_addLeaves_27, ↓tX1_addLeaves_30, ↓tX1_addLeaves_33, ↓oAl, ↓oCallS, ↓oCallV, ↓oGo, ↓oIf2gt, ↓oIf2ne, ↓oIl, ↓oInc, ↓oIs, ↓oK, ↓oVret, q_set_s, q_set_n, ca_0, caO_len, q_up_a, z_clamp, z_ltI, z_leI, z_eqI, z_lt0, z_ge0, z_eq0I, z_gt0I, z_le0I, z_m1lt, z_m1ge, z_m1eq, z_m1eq', z_inT, z_add, z_sub, z_mul, z_div, z_rem, n_ltT, n_ltF, n_leT, n_leF, n_eqT, n_eqF, z_11, q_tl_i, q_tl_n, q_ap_n, q_ap_c]
        refine q_X.lv2 _ ?_ h'
        exact ⟨rfl, rfl, rfl, rfl, trivial⟩
    have e0 : (List.range 0).map (fun v => f (a + v)) = [] := rfl
    have h' := loop (b + 1 - a) 0 A k l r (by omega) (by rw [e0, List.append_nil]; exact hY)
    rw [e0, List.append_nil, Nat.add_zero] at h'
    refine q_X.run sX1_addLeaves [11] 20 ?_
    simp (maxSteps := 10000000) (disch := omega) only [↓q_run_s, q_stop_n, q_stop_c, q_lg_c, q_ls_d, q_ld_n, q_ld_c, q_cat_i, q_cat_r, q_cat_n, q_wd_n, q_wd_c, q_bx_1, q_bx_2, q_bx_3, q_bx_4, q_bx_5, q_bx_6, q_bx_7, q_bx_8, q_pop_0, q_pop_s, ↓reduceIte, Nat.reduceEqDiff, reduceCtorEq, eq_self, Bool.false_eq_true, Nat.reduceAdd, Nat.reduceSub, Nat.reduceMul, Nat.reduceLeDiff, Nat.reduceLT, Nat.le_refl, Nat.zero_le, true_and, and_true, false_and, and_false, or_false, false_or, true_or, or_true, not_true_eq_false, not_false_eq_true, if_true, if_false, List.getElem?_cons_zero, List.getElem?_cons_succ, List.set_cons_zero, List.set_cons_succ, List.length_cons, List.length_nil, ↓tX1_addLeaves_0, ↓tX1_addLeaves_1, ↓tX1_addLeaves_2, ↓tX1_addLeaves_5, ↓tX1_addLeaves_8, ↓tX1_addLeaves_9, ↓tX1_addLeaves_11, ↓tX1_addLeaves_13, ↓tX1_addLeaves_15, ↓tX1_addLeaves_18, ↓tX1_addLeaves_19, ↓tX1_addLeaves_20, ↓tX1_addLeaves_22, ↓tX1_addLeaves_23, ↓tX1_addLeaves_24, ↓tX1_addLeaves_27, ↓tX1_addLeaves_30, ↓tX1_addLeaves_33, ↓oAl, ↓oCallS, ↓oCallV, ↓oGo, ↓oIf2gt, ↓oIf2ne, ↓oIl, ↓oInc, ↓oIs, ↓oK, ↓oVret, q_set_s, q_set_n, ca_0, caO_len, q_up_a, z_clamp, z_ltI, z_leI, z_eqI, z_lt0, z_ge0, z_eq0I, z_gt0I, z_le0I, z_m1lt, z_m1ge, z_m1eq, z_m1eq', z_inT, z_add, z_sub, z_mul, z_div, z_rem, n_ltT, n_ltF, n_leT, n_leF, n_eqT, n_eqF, z_11, q_tl_i, q_tl_n, q_ap_n, q_ap_c]
    refine q_X.lv2 _ ?_ h'
    exact ⟨rfl, rfl, rfl, rfl, trivial⟩
  · have h' := hN cm
    refine q_X.run sX1_addLeaves [] 20 ?_
    simp (maxSteps := 10000000) (disch := omega) only [↓q_run_s, q_stop_n, q_stop_c, q_lg_c, q_ls_d, q_ld_n, q_ld_c, q_cat_i, q_cat_r, q_cat_n, q_wd_n, q_wd_c, q_bx_1, q_bx_2, q_bx_3, q_bx_4, q_bx_5, q_bx_6, q_bx_7, q_bx_8, q_pop_0, q_pop_s, ↓reduceIte, Nat.reduceEqDiff, reduceCtorEq, eq_self, Bool.false_eq_true, Nat.reduceAdd, Nat.reduceSub, Nat.reduceMul, Nat.reduceLeDiff, Nat.reduceLT, Nat.le_refl, Nat.zero_le, true_and, and_true, false_and, and_false, or_false, false_or, true_or, or_true, not_true_eq_false, not_false_eq_true, if_true, if_false, List.getElem?_cons_zero, List.getElem?_cons_succ, List.set_cons_zero, List.set_cons_succ, List.length_cons, List.length_nil, ↓tX1_addLeaves_0, ↓tX1_addLeaves_1, ↓tX1_addLeaves_2, ↓tX1_addLeaves_5, ↓tX1_addLeaves_8, ↓tX1_addLeaves_9, ↓tX1_addLeaves_11, ↓tX1_addLeaves_13, ↓tX1_addLeaves_15, ↓tX1_addLeaves_18, ↓tX1_addLeaves_19, ↓tX1_addLeaves_20, ↓tX1_addLeaves_22, ↓tX1_addLeaves_23, ↓tX1_addLeaves_24, ↓tX1_addLeaves_27, ↓tX1_addLeaves_30, ↓tX1_addLeaves_33, ↓oAl, ↓oCallS, ↓oCallV, ↓oGo, ↓oIf2gt, ↓oIf2ne, ↓oIl, ↓oInc, ↓oIs, ↓oK, ↓oVret, q_set_s, q_set_n, ca_0, caO_len, q_up_a, z_clamp, z_ltI, z_leI, z_eqI, z_lt0, z_ge0, z_eq0I, z_gt0I, z_le0I, z_m1lt, z_m1ge, z_m1eq, z_m1eq', z_inT, z_add, z_sub, z_mul, z_div, z_rem, n_ltT, n_ltF, n_leT, n_leF, n_eqT, n_eqF, z_11, q_tl_i, q_tl_n, q_ap_n, q_ap_c]
    exact h'
end
