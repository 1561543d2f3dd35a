/-! Nodes: an object and its three rows, side by side -/
def q_sub : qLv → qLv → Prop
  | [], _ => True
  | q :: l', l => q_lg l q.1 = some q.2 ∧ q_sub l' l
theorem q_sub_all {l : qLv} : ∀ {l' : qLv}, q_sub l' l → ∀ q ∈ l', q_lg l q.1 = some q.2
  | [], _, _, h => absurd h List.not_mem_nil
  | _ :: _, h, x, hx => (List.mem_cons.mp hx).elim (fun e => e ▸ h.1) (q_sub_all h.2 x)
theorem q_X.lv2 {G : qC} {L : Launch} {d : Nat} {mi : qMI} {mc ms : Nat} {Q : Option Value → qM → Prop} {pc : Nat} {l : qLv} {st : List Value} {M : qM} {cs ss : Nat} (l' : qLv) (hl : q_sub l' l) (h : q_X G L d mi mc ms Q pc l' st M cs ss) : q_X G L d mi mc ms Q pc l st M cs ss := q_X.lv l' (q_sub_all hl) h
def q_ov (M0 : qM) (i w : Nat) (E : Nat → Option qE) : qM := (M0.1, fun a => if i ≤ a ∧ a < i + w then E (a - i) else M0.2 a)
theorem q_ov_k (M0 : qM) (i w : Nat) (E : Nat → Option qE) {k : Nat} (hk : k < w) : (q_ov M0 i w E).2 (i + k) = E k := by
  show (if i ≤ i + k ∧ i + k < i + w then E (i + k - i) else M0.2 (i + k)) = _
  rw [if_pos ⟨Nat.le_add_right _ _, by omega⟩, Nat.add_sub_cancel_left]
theorem q_ov_out (M0 : qM) (i w : Nat) (E : Nat → Option qE) {a : Nat} (h : a < i ∨ i + w ≤ a) : (q_ov M0 i w E).2 a = M0.2 a := by
  show (if i ≤ a ∧ a < i + w then E (a - i) else M0.2 a) = _
  rw [if_neg (by omega)]
theorem q_ov_set {M0 : qM} {i w k : Nat} {E E' : Nat → Option qE} {e : qE} (hk : k < w) (h : ∀ j, j < w → va_up E k (some e) j = E' j) : q_set (q_ov M0 i w E) (i + k) e = q_ov M0 i w E' := by
  refine Prod.ext rfl (funext fun a => ?_)
  show va_up (q_ov M0 i w E).2 (i + k) (some e) a = (if i ≤ a ∧ a < i + w then E' (a - i) else M0.2 a)
  by_cases ha : a = i + k
  · subst ha
    rw [va_up_self, if_pos ⟨Nat.le_add_right _ _, by omega⟩, Nat.add_sub_cancel_left, ← h k hk, va_up_self]
  · rw [va_up_ne _ _ ha]
    show (if i ≤ a ∧ a < i + w then E (a - i) else M0.2 a) = _
    by_cases h2 : i ≤ a ∧ a < i + w
    · rw [if_pos h2, if_pos h2, ← h (a - i) (by omega), va_up_ne _ _ (by omega)]
    · rw [if_neg h2, if_neg h2]
theorem q_ov_self {M : qM} {i w : Nat} {E : Nat → Option qE} (h : ∀ k, k < w → M.2 (i + k) = E k) : q_ov M i w E = M := by
  refine Prod.ext rfl (funext fun a => ?_)
  show (if i ≤ a ∧ a < i + w then E (a - i) else M.2 a) = _
  by_cases h2 : i ≤ a ∧ a < i + w
  · rw [if_pos h2, ← h (a - i) (by omega), show i + (a - i) = a by omega]
  · rw [if_neg h2]
def ndE (i n : Nat) (k l r : Nat → Int32) (sz : Nat) : Nat → Option qE
  | 0 => some (.inr (4, [.ref (i + 1), .ref (i + 2), .ref (i + 3), .int (nI sz)]))
  | 1 => some (.inl (1, n, .inl k))
  | 2 => some (.inl (1, n, .inl l))
  | 3 => some (.inl (1, n, .inl r))
  | _ => none
def q_nd (M0 : qM) (i n : Nat) (k l r : Nat → Int32) (sz : Nat) : qM := q_ov M0 i 4 (ndE i n k l r sz)
section
variable {G : qC} {L : Launch} {d : Nat} {M : qM} {Q : Option Value → qM → Prop} {M0 : qM} {i n sz : Nat} {k l r : Nat → Int32}
theorem nd_0 : (q_nd M0 i n k l r sz).2 i = some (.inr (4, [.ref (i + 1), .ref (i + 2), .ref (i + 3), .int (nI sz)])) := q_ov_k M0 i 4 _ (k := 0) (by decide)
theorem nd_1 : (q_nd M0 i n k l r sz).2 (i + 1) = some (.inl (1, n, .inl k)) := q_ov_k M0 i 4 _ (k := 1) (by decide)
theorem nd_2 : (q_nd M0 i n k l r sz).2 (i + 2) = some (.inl (1, n, .inl l)) := q_ov_k M0 i 4 _ (k := 2) (by decide)
theorem nd_3 : (q_nd M0 i n k l r sz).2 (i + 3) = some (.inl (1, n, .inl r)) := q_ov_k M0 i 4 _ (k := 3) (by decide)
theorem q_lt4 {P : Nat → Prop} (h0 : P 0) (h1 : P 1) (h2 : P 2) (h3 : P 3) : ∀ j, j < 4 → P j
  | 0, _ => h0
  | 1, _ => h1
  | 2, _ => h2
  | 3, _ => h3
  | j + 4, h => absurd h (by omega)
theorem nds_0 {z : Nat} : q_set (q_nd M0 i n k l r sz) i (.inr (4, [.ref (i + 1), .ref (i + 2), .ref (i + 3), .int (nI z)])) = q_nd M0 i n k l r z := q_ov_set (k := 0) (by decide) (q_lt4 rfl rfl rfl rfl)
theorem nds_1 {g : Nat → Int32} : q_set (q_nd M0 i n k l r sz) (i + 1) (.inl (1, n, .inl g)) = q_nd M0 i n g l r sz := q_ov_set (k := 1) (by decide) (q_lt4 rfl rfl rfl rfl)
theorem nds_2 {g : Nat → Int32} : q_set (q_nd M0 i n k l r sz) (i + 2) (.inl (1, n, .inl g)) = q_nd M0 i n k g r sz := q_ov_set (k := 2) (by decide) (q_lt4 rfl rfl rfl rfl)
theorem nds_3 {g : Nat → Int32} : q_set (q_nd M0 i n k l r sz) (i + 3) (.inl (1, n, .inl g)) = q_nd M0 i n k l g sz := q_ov_set (k := 3) (by decide) (q_lt4 rfl rfl rfl rfl)
set_option maxRecDepth 100000 in
set_option maxHeartbeats 4000000 in
theorem c4_size (hQ : Q (some (.int (nI sz))) (q_nd M0 i n k l r sz)) : q_Call G L d mX4_size 0 0 [.ref i] (q_nd M0 i n k l r sz) Q := by
  refine q_Call.of [(0, .ref i)] rfl ?_
  refine q_X.run sX4_size [] 10 ?_
  simp (maxSteps := 10000000) (disch := omega) only [↓q_run_s, q_stop_n, q_stop_c, q_lg_c, q_ls_d, q_ld_n, q_ld_c, q_cat_i, q_cat_r, q_cat_n, q_wd_n, q_wd_c, q_bx_1, q_bx_2, q_bx_3, q_bx_4, q_bx_5, q_bx_6, q_bx_7, q_bx_8, q_pop_0, q_pop_s, ↓reduceIte, Nat.reduceEqDiff, reduceCtorEq, eq_self, Bool.false_eq_true, Nat.reduceAdd, Nat.reduceSub, Nat.reduceMul, Nat.reduceLeDiff, Nat.reduceLT, Nat.le_refl, Nat.zero_le, true_and, and_true, false_and, and_false, or_false, false_or, true_or, or_true, not_true_eq_false, not_false_eq_true, if_true, if_false, List.getElem?_cons_zero, List.getElem?_cons_succ, List.set_cons_zero, List.set_cons_succ, List.length_cons, List.length_nil, ↓tX4_size_0, ↓tX4_size_1, ↓tX4_size_4, ↓oAl, ↓oGet, ↓oIret, q_set_s, q_set_n, z_clamp, z_ltI, z_leI, z_eqI, z_lt0, z_ge0, z_eq0I, z_gt0I, z_le0I, z_m1lt, z_m1ge, z_m1eq, z_m1eq', z_inT, z_add, z_sub, z_mul, z_div, z_rem, n_ltT, n_ltF, n_leT, n_leF, n_eqT, n_eqF, q_tl_i, q_tl_n, q_ap_n, q_ap_c, nd_0]
  exact hQ
set_option maxRecDepth 100000 in
set_option maxHeartbeats 4000000 in
theorem c4_clear (hQ : Q none (q_nd M0 i n k l r 0)) : q_Call G L d mX4_clear 0 0 [.ref i] (q_nd M0 i n k l r sz) Q := by
  refine q_Call.of [(0, .ref i)] rfl ?_
  refine q_X.run sX4_clear [] 10 ?_
  simp (maxSteps := 10000000) (disch := omega) only [↓q_run_s, q_stop_n, q_stop_c, q_lg_c, q_ls_d, q_ld_n, q_ld_c, q_cat_i, q_cat_r, q_cat_n, q_wd_n, q_wd_c, q_bx_1, q_bx_2, q_bx_3, q_bx_4, q_bx_5, q_bx_6, q_bx_7, q_bx_8, q_pop_0, q_pop_s, ↓reduceIte, Nat.reduceEqDiff, reduceCtorEq, eq_self, Bool.false_eq_true, Nat.reduceAdd, Nat.reduceSub, Nat.reduceMul, Nat.reduceLeDiff, Nat.reduceLT, Nat.le_refl, Nat.zero_le, true_and, and_true, false_and, and_false, or_false, false_or, true_or, or_true, not_true_eq_false, not_false_eq_true, if_true, if_false, List.getElem?_cons_zero, List.getElem?_cons_succ, List.set_cons_zero, List.set_cons_succ, List.length_cons, List.length_nil, ↓tX4_clear_0, ↓tX4_clear_1, ↓tX4_clear_2, ↓tX4_clear_5, ↓oAl, ↓oK, ↓oPutI, ↓oVret, q_set_s, q_set_n, z_clamp, z_ltI, z_leI, z_eqI, z_lt0, z_ge0, z_eq0I, z_gt0I, z_le0I, z_m1lt, z_m1ge, z_m1eq, z_m1eq', z_inT, z_add, z_sub, z_mul, z_div, z_rem, n_ltT, n_ltF, n_leT, n_leF, n_eqT, n_eqF, q_tl_i, q_tl_n, q_ap_n, q_ap_c, nd_0, nds_0]
  exact hQ
set_option maxRecDepth 100000 in
set_option maxHeartbeats 4000000 in
theorem c4_kindOf {j : Nat} (hj : j < sz) (hs : sz ≤ n) (hn : n < 2147483648) (hQ : Q (some (.int (k j))) (q_nd M0 i n k l r sz)) : q_Call G L d mX4_kindOf 0 0 [.ref i, .int (nI j)] (q_nd M0 i n k l r sz) Q := by
  refine q_Call.of [(0, .ref i), (1, .int (nI j))] rfl ?_
  refine q_X.run sX4_kindOf [] 20 ?_
  simp (maxSteps := 10000000) (disch := omega) only [↓q_run_s, q_stop_n, q_stop_c, q_lg_c, q_ls_d, q_ld_n, q_ld_c, q_cat_i, q_cat_r, q_cat_n, q_wd_n, q_wd_c, q_bx_1, q_bx_2, q_bx_3, q_bx_4, q_bx_5, q_bx_6, q_bx_7, q_bx_8, q_pop_0, q_pop_s, ↓reduceIte, Nat.reduceEqDiff, reduceCtorEq, eq_self, Bool.false_eq_true, Nat.reduceAdd, Nat.reduceSub, Nat.reduceMul, Nat.reduceLeDiff, Nat.reduceLT, Nat.le_refl, Nat.zero_le, true_and, and_true, false_and, and_false, or_false, false_or, true_or, or_true, not_true_eq_false, not_false_eq_true, if_true, if_false, List.getElem?_cons_zero, List.getElem?_cons_succ, List.set_cons_zero, List.set_cons_succ, List.length_cons, List.length_nil, ↓tX4_kindOf_0, ↓tX4_kindOf_1, ↓tX4_kindOf_4, ↓tX4_kindOf_5, ↓tX4_kindOf_6, ↓tX4_kindOf_9, ↓tX4_kindOf_12, ↓tX4_kindOf_13, ↓tX4_kindOf_16, ↓tX4_kindOf_17, ↓tX4_kindOf_18, ↓tX4_kindOf_21, ↓tX4_kindOf_22, ↓oAl, ↓oGet, ↓oGo, ↓oIald, ↓oIf1lt, ↓oIf2ge, ↓oIl, ↓oIret, ↓oK, q_set_s, q_set_n, z_clamp, z_ltI, z_leI, z_eqI, z_lt0, z_ge0, z_eq0I, z_gt0I, z_le0I, z_m1lt, z_m1ge, z_m1eq, z_m1eq', z_inT, z_add, z_sub, z_mul, z_div, z_rem, n_ltT, n_ltF, n_leT, n_leF, n_eqT, n_eqF, q_tl_i, q_tl_n, q_ap_n, q_ap_c, nd_0, nd_1]
  exact hQ
set_option maxRecDepth 100000 in
set_option maxHeartbeats 4000000 in
theorem c4_leftOf {j : Nat} (hj : j < sz) (hs : sz ≤ n) (hn : n < 2147483648) (hQ : Q (some (.int (l j))) (q_nd M0 i n k l r sz)) : q_Call G L d mX4_leftOf 0 0 [.ref i, .int (nI j)] (q_nd M0 i n k l r sz) Q := by
  refine q_Call.of [(0, .ref i), (1, .int (nI j))] rfl ?_
  refine q_X.run sX4_leftOf [] 20 ?_
  simp (maxSteps := 10000000) (disch := omega) only [↓q_run_s, q_stop_n, q_stop_c, q_lg_c, q_ls_d, q_ld_n, q_ld_c, q_cat_i, q_cat_r, q_cat_n, q_wd_n, q_wd_c, q_bx_1, q_bx_2, q_bx_3, q_bx_4, q_bx_5, q_bx_6, q_bx_7, q_bx_8, q_pop_0, q_pop_s, ↓reduceIte, Nat.reduceEqDiff, reduceCtorEq, eq_self, Bool.false_eq_true, Nat.reduceAdd, Nat.reduceSub, Nat.reduceMul, Nat.reduceLeDiff, Nat.reduceLT, Nat.le_refl, Nat.zero_le, true_and, and_true, false_and, and_false, or_false, false_or, true_or, or_true, not_true_eq_false, not_false_eq_true, if_true, if_false, List.getElem?_cons_zero, List.getElem?_cons_succ, List.set_cons_zero, List.set_cons_succ, List.length_cons, List.length_nil, ↓tX4_leftOf_0, ↓tX4_leftOf_1, ↓tX4_leftOf_4, ↓tX4_leftOf_5, ↓tX4_leftOf_6, ↓tX4_leftOf_9, ↓tX4_leftOf_12, ↓tX4_leftOf_13, ↓tX4_leftOf_16, ↓tX4_leftOf_17, ↓tX4_leftOf_18, ↓tX4_leftOf_21, ↓tX4_leftOf_22, ↓oAl, ↓oGet, ↓oGo, ↓oIald, ↓oIf1lt, ↓oIf2ge, ↓oIl, ↓oIret, ↓oK, q_set_s, q_set_n, z_clamp, z_ltI, z_leI, z_eqI, z_lt0, z_ge0, z_eq0I, z_gt0I, z_le0I, z_m1lt, z_m1ge, z_m1eq, z_m1eq', z_inT, z_add, z_sub, z_mul, z_div, z_rem, n_ltT, n_ltF, n_leT, n_leF, n_eqT, n_eqF, q_tl_i, q_tl_n, q_ap_n, q_ap_c, nd_0, nd_2]
  exact hQ
set_option maxRecDepth 100000 in
set_option maxHeartbeats 4000000 in
theorem c4_rightOf {j : Nat} (hj : j < sz) (hs : sz ≤ n) (hn : n < 2147483648) (hQ : Q (some (.int (r j))) (q_nd M0 i n k l r sz)) : q_Call G L d mX4_rightOf 0 0 [.ref i, .int (nI j)] (q_nd M0 i n k l r sz) Q := by
  refine q_Call.of [(0, .ref i), (1, .int (nI j))] rfl ?_
  refine q_X.run sX4_rightOf [] 20 ?_
  simp (maxSteps := 10000000) (disch := omega) only [↓q_run_s, q_stop_n, q_stop_c, q_lg_c, q_ls_d, q_ld_n, q_ld_c, q_cat_i, q_cat_r, q_cat_n, q_wd_n, q_wd_c, q_bx_1, q_bx_2, q_bx_3, q_bx_4, q_bx_5, q_bx_6, q_bx_7, q_bx_8, q_pop_0, q_pop_s, ↓reduceIte, Nat.reduceEqDiff, reduceCtorEq, eq_self, Bool.false_eq_true, Nat.reduceAdd, Nat.reduceSub, Nat.reduceMul, Nat.reduceLeDiff, Nat.reduceLT, Nat.le_refl, Nat.zero_le, true_and, and_true, false_and, and_false, or_false, false_or, true_or, or_true, not_true_eq_false, not_false_eq_true, if_true, if_false, List.getElem?_cons_zero, List.getElem?_cons_succ, List.set_cons_zero, List.set_cons_succ, List.length_cons, List.length_nil, ↓tX4_rightOf_0, ↓tX4_rightOf_1, ↓tX4_rightOf_4, ↓tX4_rightOf_5, ↓tX4_rightOf_6, ↓tX4_rightOf_9, ↓tX4_rightOf_12, ↓tX4_rightOf_13, ↓tX4_rightOf_16, ↓tX4_rightOf_17, ↓tX4_rightOf_18, ↓tX4_rightOf_21, ↓tX4_rightOf_22, ↓oAl, ↓oGet, ↓oGo, ↓oIald, ↓oIf1lt, ↓oIf2ge, ↓oIl, ↓oIret, ↓oK, q_set_s, q_set_n, z_clamp, z_ltI, z_leI, z_eqI, z_lt0, z_ge0, z_eq0I, z_gt0I, z_le0I, z_m1lt, z_m1ge, z_m1eq, z_m1eq', z_inT, z_add, z_sub, z_mul, z_div, z_rem, n_ltT, n_ltF, n_leT, n_leF, n_eqT, n_eqF, q_tl_i, q_tl_n, q_ap_n, q_ap_c, nd_0, nd_3]
  exact hQ
set_option maxRecDepth 100000 in
set_option maxHeartbeats 4000000 in
theorem c4_setRight {j : Nat} {y : Int32} (hj : j < sz) (hs : sz ≤ n) (hn : n < 2147483648) (hQ : Q none (q_nd M0 i n k l (upd r j y) sz)) : q_Call G L d mX4_setRight 0 0 [.ref i, .int (nI j), .int y] (q_nd M0 i n k l r sz) Q := by
  refine q_Call.of [(0, .ref i), (1, .int (nI j)), (2, .int y)] rfl ?_
  refine q_X.run sX4_setRight [] 20 ?_
  simp (maxSteps := 10000000) (disch := omega) only [↓q_run_s, q_stop_n, q_stop_c, q_lg_c, q_ls_d, q_ld_n, q_ld_c, q_cat_i, q_cat_r, q_cat_n, q_wd_n, q_wd_c, q_bx_1, q_bx_2, q_bx_3, q_bx_4, q_bx_5, q_bx_6, q_bx_7, q_bx_8, q_pop_0, q_pop_s, ↓reduceIte, Nat.reduceEqDiff, reduceCtorEq, eq_self, Bool.false_eq_true, Nat.reduceAdd, Nat.reduceSub, Nat.reduceMul, Nat.reduceLeDiff, Nat.reduceLT, Nat.le_refl, Nat.zero_le, true_and, and_true, false_and, and_false, or_false, false_or, true_or, or_true, not_true_eq_false, not_false_eq_true, if_true, if_false, List.getElem?_cons_zero, List.getElem?_cons_succ, List.set_cons_zero, List.set_cons_succ, List.length_cons, List.length_nil, ↓tX4_setRight_0, ↓tX4_setRight_1, ↓tX4_setRight_4, ↓tX4_setRight_5, ↓tX4_setRight_6, ↓tX4_setRight_9, ↓tX4_setRight_12, ↓tX4_setRight_13, ↓tX4_setRight_16, ↓tX4_setRight_17, ↓tX4_setRight_18, ↓tX4_setRight_19, ↓oAl, ↓oGet, ↓oIast, ↓oIf1lt, ↓oIf2ge, ↓oIl, ↓oVret, q_set_s, q_set_n, z_clamp, z_ltI, z_leI, z_eqI, z_lt0, z_ge0, z_eq0I, z_gt0I, z_le0I, z_m1lt, z_m1ge, z_m1eq, z_m1eq', z_inT, z_add, z_sub, z_mul, z_div, z_rem, n_ltT, n_ltF, n_leT, n_leF, n_eqT, n_eqF, q_tl_i, q_tl_n, q_ap_n, q_ap_c, nd_0, nd_3, nds_3]
  exact hQ
set_option maxRecDepth 100000 in
set_option maxHeartbeats 4000000 in
theorem c4_add {a x y : Int32} (hs : sz < n) (hn : n < 2147483648) (hQ : Q (some (.int (nI sz))) (q_nd M0 i n (upd k sz a) (upd l sz x) (upd r sz y) (sz + 1))) : q_Call G L d mX4_add 0 0 [.ref i, .int a, .int x, .int y] (q_nd M0 i n k l r sz) Q := by
  refine q_Call.of [(0, .ref i), (1, .int a), (2, .int x), (3, .int y)] rfl ?_
  refine q_X.run sX4_add [] 60 ?_
  simp (maxSteps := 10000000) (disch := omega) only [↓q_run_s, q_stop_n, q_stop_c, q_lg_c, q_ls_d, q_ld_n, q_ld_c, q_cat_i, q_cat_r, q_cat_n, q_wd_n, q_wd_c, q_bx_1, q_bx_2, q_bx_3, q_bx_4, q_bx_5, q_bx_6, q_bx_7, q_bx_8, q_pop_0, q_pop_s, ↓reduceIte, Nat.reduceEqDiff, reduceCtorEq, eq_self, Bool.false_eq_true, Nat.reduceAdd, Nat.reduceSub, Nat.reduceMul, Nat.reduceLeDiff, Nat.reduceLT, Nat.le_refl, Nat.zero_le, true_and, and_true, false_and, and_false, or_false, false_or, true_or, or_true, not_true_eq_false, not_false_eq_true, if_true, if_false, List.getElem?_cons_zero, List.getElem?_cons_succ, List.set_cons_zero, List.set_cons_succ, List.length_cons, List.length_nil, ↓tX4_add_0, ↓tX4_add_1, ↓tX4_add_4, ↓tX4_add_5, ↓tX4_add_8, ↓tX4_add_9, ↓tX4_add_12, ↓tX4_add_13, ↓tX4_add_14, ↓tX4_add_15, ↓tX4_add_18, ↓tX4_add_19, ↓tX4_add_22, ↓tX4_add_23, ↓tX4_add_24, ↓tX4_add_25, ↓tX4_add_28, ↓tX4_add_29, ↓tX4_add_32, ↓tX4_add_33, ↓tX4_add_34, ↓tX4_add_35, ↓tX4_add_38, ↓tX4_add_39, ↓tX4_add_42, ↓tX4_add_43, ↓tX4_add_44, ↓tX4_add_45, ↓tX4_add_46, ↓tX4_add_49, ↓tX4_add_50, ↓tX4_add_51, ↓tX4_add_54, ↓tX4_add_55, ↓tX4_add_58, ↓tX4_add_59, ↓tX4_add_60, ↓oAdd, ↓oAl, ↓oAlen, ↓oDup, ↓oGet, ↓oIast, ↓oIf2lt, ↓oIl, ↓oIret, ↓oK, ↓oPutI, ↓oSub, q_set_s, q_set_n, z_clamp, z_ltI, z_leI, z_eqI, z_lt0, z_ge0, z_eq0I, z_gt0I, z_le0I, z_m1lt, z_m1ge, z_m1eq, z_m1eq', z_inT, z_add, z_sub, z_mul, z_div, z_rem, n_ltT, n_ltF, n_leT, n_leF, n_eqT, n_eqF, q_tl_i, q_tl_n, q_ap_n, q_ap_c, nd_0, nd_1, nd_2, nd_3, nds_0, nds_1, nds_2, nds_3, Nat.add_sub_cancel]
  exact hQ
theorem q_own_eq {a : Nat} (h : a < 6) : q_own a = nI (m_pr a) := by
  have g : ∀ a : Nat, a < 6 → q_own a = nI (m_pr a) := by decide
  exact g a h
set_option maxRecDepth 100000 in
set_option maxHeartbeats 4000000 in
theorem c11_ownCost {a : Nat} (ha : a < 6) (hQ : Q (some (.int (nI (m_pr a)))) M) : q_Call G L d mX11_ownCost 0 0 [.int (nI a)] M Q := by
  refine q_Call.of [(0, .int (nI a))] rfl ?_
  refine q_X.mem fun hro _ => ?_
  obtain ⟨h1, -, -⟩ := hro
  refine q_X.run sX11_ownCost [] 20 ?_
  simp (maxSteps := 10000000) (disch := omega) only [↓q_run_s, q_stop_n, q_stop_c, q_lg_c, q_ls_d, q_ld_n, q_ld_c, q_cat_i, q_cat_r, q_cat_n, q_wd_n, q_wd_c, q_bx_1, q_bx_2, q_bx_3, q_bx_4, q_bx_5, q_bx_6, q_bx_7, q_bx_8, q_pop_0, q_pop_s, ↓reduceIte, Nat.reduceEqDiff, reduceCtorEq, eq_self, Bool.false_eq_true, Nat.reduceAdd, Nat.reduceSub, Nat.reduceMul, Nat.reduceLeDiff, Nat.reduceLT, Nat.le_refl, Nat.zero_le, true_and, and_true, false_and, and_false, or_false, false_or, true_or, or_true, not_true_eq_false, not_false_eq_true, if_true, if_false, List.getElem?_cons_zero, List.getElem?_cons_succ, List.set_cons_zero, List.set_cons_succ, List.length_cons, List.length_nil, ↓tX11_ownCost_0, ↓tX11_ownCost_1, ↓tX11_ownCost_4, ↓tX11_ownCost_5, ↓tX11_ownCost_8, ↓tX11_ownCost_9, ↓tX11_ownCost_12, ↓tX11_ownCost_15, ↓tX11_ownCost_16, ↓tX11_ownCost_17, ↓tX11_ownCost_20, ↓tX11_ownCost_21, ↓oAlen, ↓oGo, ↓oIald, ↓oIf1lt, ↓oIf2ge, ↓oIl, ↓oIret, ↓oK, ↓oStO, q_set_s, q_set_n, q_roO, q_roW, z_clamp, z_ltI, z_leI, z_eqI, z_lt0, z_ge0, z_eq0I, z_gt0I, z_le0I, z_m1lt, z_m1ge, z_m1eq, z_m1eq', z_inT, z_add, z_sub, z_mul, z_div, z_rem, n_ltT, n_ltF, n_leT, n_leF, n_eqT, n_eqF, q_tl_i, q_tl_n, q_ap_n, q_ap_c, h1]
  rw [q_own_eq ha]
  exact hQ
def q_sum (f : Nat → Nat) : Nat → Nat
  | 0 => 0
  | j + 1 => q_sum f j + f j
end
