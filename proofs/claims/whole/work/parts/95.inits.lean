/-! constructors of the small objects -/
theorem q_zero_2 : q_zero 2 = .inr (.inl (fun _ => 0)) := rfl
theorem q_zero_3 : q_zero 3 = .inl (fun _ => 0) := rfl
section
variable {G : qC} {L : Launch} {d : Nat} {Q : Option Value → qM → Prop} {i : Nat}
set_option maxRecDepth 100000 in
set_option maxHeartbeats 8000000 in
theorem c3_init {f : Nat → Option qE} (hd : 1 ≤ d) (hf : f i = some (.inr (3, [.null, .null, .null, .null, .null, .int 0]))) (hQ : Q none (q_me (i + 6, f) i (fun _ => 0) (fun _ _ => 0))) : q_Call G L d mX3_init 5 10531 [.ref i] (i + 1, f) Q := by
  have e : ∀ M : qM, M.1 = i + 6 → (∀ a, M.2 a = (q_me (i + 6, f) i (fun _ => 0) (fun _ _ => 0)).2 a) → Q none M := fun M h1 h2 => by
    rw [q_ext (M' := (q_me (i + 6, f) i (fun _ => 0) (fun _ _ => 0))) h1 h2]
    exact hQ
  refine q_Call.of [(0, .ref i)] rfl ?_
  refine q_X.run sX3_init [] 80 ?_
  simp (maxSteps := 10000000) (disch := omega) only [↓q_run_s, q_stop_n, q_stop_c, q_lg_c, q_ls_d, q_ld_n, q_ld_c, q_cat_i, q_cat_r, q_cat_n, q_wd_n, q_wd_c, q_bx_1, q_bx_2, q_bx_3, q_bx_4, q_bx_5, q_bx_6, q_bx_7, q_bx_8, q_pop_0, q_pop_s, ↓reduceIte, Nat.reduceEqDiff, reduceCtorEq, eq_self, Bool.false_eq_true, Nat.reduceAdd, Nat.reduceSub, Nat.reduceMul, Nat.reduceLeDiff, Nat.reduceLT, Nat.le_refl, Nat.zero_le, true_and, and_true, false_and, and_false, or_false, false_or, true_or, or_true, not_true_eq_false, not_false_eq_true, if_true, if_false, List.getElem?_cons_zero, List.getElem?_cons_succ, List.set_cons_zero, List.set_cons_succ, List.length_cons, List.length_nil, ↓tX3_init_0, ↓tX3_init_1, ↓tX3_init_4, ↓tX3_init_5, ↓tX3_init_8, ↓tX3_init_10, ↓tX3_init_13, ↓tX3_init_14, ↓tX3_init_17, ↓tX3_init_19, ↓tX3_init_22, ↓tX3_init_23, ↓tX3_init_24, ↓tX3_init_26, ↓tX3_init_29, ↓tX3_init_30, ↓tX3_init_31, ↓tX3_init_33, ↓tX3_init_36, ↓tX3_init_37, ↓tX3_init_38, ↓tX3_init_40, ↓tX3_init_43, ↓oAl, ↓oK, ↓oNewa, ↓oObj, ↓oPutR, ↓oVret, q_set_s, q_set_n, z_clamp, z_ltI, z_leI, z_eqI, z_lt0, z_ge0, z_eq0I, z_gt0I, z_le0I, z_m1lt, z_m1ge, z_m1eq, z_m1eq', z_inT, z_add, z_sub, z_mul, z_div, z_rem, n_ltT, n_ltF, n_leT, n_leF, n_eqT, n_eqF, z_11, q_tl_i, q_tl_n, q_ap_n, q_ap_c, q_newP, q_setP, va_up_ne, va_up_self, hf]
  refine e _ rfl fun a => ?_
  rcases (show a < i ∨ a = i ∨ a = i + 1 ∨ a = i + 2 ∨ a = i + 3 ∨ a = i + 4 ∨ a = i + 5 ∨ i + 6 ≤ a by omega) with g | g | g | g | g | g | g | g
  · simp (disch := omega) only [va_up_ne]
    exact (q_og_out (M0 := (i + 6, f)) (i := i) (E := meE i (fun _ => 0) (fun _ _ => 0)) (Or.inl g)).symm
  · rw [g]
    simp (disch := omega) only [va_up_ne, va_up_self]
    exact (me_0 (M0 := (i + 6, f)) (i := i) (s := fun _ => 0) (A := fun _ _ => 0)).symm
  · rw [g]
    simp (disch := omega) only [va_up_ne, va_up_self]
    exact (me_a0 (M0 := (i + 6, f)) (i := i) (s := fun _ => 0) (A := fun _ _ => 0)).symm
  · rw [g]
    simp (disch := omega) only [va_up_ne, va_up_self]
    exact (me_a1 (M0 := (i + 6, f)) (i := i) (s := fun _ => 0) (A := fun _ _ => 0)).symm
  · rw [g]
    simp (disch := omega) only [va_up_ne, va_up_self]
    exact (me_a2 (M0 := (i + 6, f)) (i := i) (s := fun _ => 0) (A := fun _ _ => 0)).symm
  · rw [g]
    simp (disch := omega) only [va_up_ne, va_up_self]
    exact (me_a3 (M0 := (i + 6, f)) (i := i) (s := fun _ => 0) (A := fun _ _ => 0)).symm
  · rw [g]
    simp (disch := omega) only [va_up_ne, va_up_self]
    exact (me_a4 (M0 := (i + 6, f)) (i := i) (s := fun _ => 0) (A := fun _ _ => 0)).symm
  · simp (disch := omega) only [va_up_ne]
    exact (q_og_out (M0 := (i + 6, f)) (i := i) (E := meE i (fun _ => 0) (fun _ _ => 0)) (Or.inr (meE_none (by omega)))).symm
set_option maxRecDepth 100000 in
set_option maxHeartbeats 8000000 in
theorem c8_init {n : Nat} {f : Nat → Option qE} (hd : 1 ≤ d) (hf : f i = some (.inr (8, [.null, .null]))) (hn : n ≤ 1000000) (hQ : Q none (q_sp (i + 3, f) i n (fun _ _ => 0))) : q_Call G L d mX8_init 2 (3 + n) [.ref i, .int (nI n)] (i + 1, f) Q := by
  have e : ∀ M : qM, M.1 = i + 3 → (∀ a, M.2 a = (q_sp (i + 3, f) i n (fun _ _ => 0)).2 a) → Q none M := fun M h1 h2 => by
    rw [q_ext (M' := (q_sp (i + 3, f) i n (fun _ _ => 0))) h1 h2]
    exact hQ
  refine q_Call.of [(0, .ref i), (1, .int (nI n))] rfl ?_
  refine q_X.run sX8_init [] 80 ?_
  simp (maxSteps := 10000000) (disch := omega) only [↓q_run_s, q_stop_n, q_stop_c, q_lg_c, q_ls_d, q_ld_n, q_ld_c, q_cat_i, q_cat_r, q_cat_n, q_wd_n, q_wd_c, q_bx_1, q_bx_2, q_bx_3, q_bx_4, q_bx_5, q_bx_6, q_bx_7, q_bx_8, q_pop_0, q_pop_s, ↓reduceIte, Nat.reduceEqDiff, reduceCtorEq, eq_self, Bool.false_eq_true, Nat.reduceAdd, Nat.reduceSub, Nat.reduceMul, Nat.reduceLeDiff, Nat.reduceLT, Nat.le_refl, Nat.zero_le, true_and, and_true, false_and, and_false, or_false, false_or, true_or, or_true, not_true_eq_false, not_false_eq_true, if_true, if_false, List.getElem?_cons_zero, List.getElem?_cons_succ, List.set_cons_zero, List.set_cons_succ, List.length_cons, List.length_nil, ↓tX8_init_0, ↓tX8_init_1, ↓tX8_init_4, ↓tX8_init_5, ↓tX8_init_6, ↓tX8_init_8, ↓tX8_init_11, ↓tX8_init_12, ↓tX8_init_13, ↓tX8_init_14, ↓tX8_init_17, ↓tX8_init_19, ↓tX8_init_22, ↓oAl, ↓oIl, ↓oK, ↓oMax, ↓oNewa, ↓oObj, ↓oPutR, ↓oVret, q_set_s, q_set_n, z_clamp, z_ltI, z_leI, z_eqI, z_lt0, z_ge0, z_eq0I, z_gt0I, z_le0I, z_m1lt, z_m1ge, z_m1eq, z_m1eq', z_inT, z_add, z_sub, z_mul, z_div, z_rem, n_ltT, n_ltF, n_leT, n_leF, n_eqT, n_eqF, z_11, q_tl_i, q_tl_n, q_ap_n, q_ap_c, q_newP, q_setP, va_up_ne, va_up_self, hf]
  refine e _ rfl fun a => ?_
  rcases (show a < i ∨ a = i ∨ a = i + 1 ∨ a = i + 2 ∨ i + 3 ≤ a by omega) with g | g | g | g | g
  · simp (disch := omega) only [va_up_ne]
    exact (q_og_out (M0 := (i + 3, f)) (i := i) (E := spE i n (fun _ _ => 0)) (Or.inl g)).symm
  · rw [g]
    simp (disch := omega) only [va_up_ne, va_up_self]
    exact (sp_0 (M0 := (i + 3, f)) (i := i) (n := n) (B := fun _ _ => 0)).symm
  · rw [g]
    simp (disch := omega) only [va_up_ne, va_up_self]
    exact (sp_a1 (M0 := (i + 3, f)) (i := i) (n := n) (B := fun _ _ => 0)).symm
  · rw [g]
    simp (disch := omega) only [va_up_ne, va_up_self]
    exact (sp_a0 (M0 := (i + 3, f)) (i := i) (n := n) (B := fun _ _ => 0)).symm
  · simp (disch := omega) only [va_up_ne]
    exact (q_og_out (M0 := (i + 3, f)) (i := i) (E := spE i n (fun _ _ => 0)) (Or.inr (spE_none (by omega)))).symm
set_option maxRecDepth 100000 in
set_option maxHeartbeats 8000000 in
theorem c0_init {f : Nat → Option qE} (hd : 1 ≤ d) (hf : f i = some (.inr (0, [.null, .null, .null, .null, .null, .null, .int 0, .int 0, .int 0]))) (hQ : Q none (q_au (i + 7, f) i (fun _ => 0) (fun _ _ => 0))) : q_Call G L d mX0_init 6 240 [.ref i] (i + 1, f) Q := by
  have e : ∀ M : qM, M.1 = i + 7 → (∀ a, M.2 a = (q_au (i + 7, f) i (fun _ => 0) (fun _ _ => 0)).2 a) → Q none M := fun M h1 h2 => by
    rw [q_ext (M' := (q_au (i + 7, f) i (fun _ => 0) (fun _ _ => 0))) h1 h2]
    exact hQ
  refine q_Call.of [(0, .ref i)] rfl ?_
  refine q_X.run sX0_init [] 80 ?_
  simp (maxSteps := 10000000) (disch := omega) only [↓q_run_s, q_stop_n, q_stop_c, q_lg_c, q_ls_d, q_ld_n, q_ld_c, q_cat_i, q_cat_r, q_cat_n, q_wd_n, q_wd_c, q_bx_1, q_bx_2, q_bx_3, q_bx_4, q_bx_5, q_bx_6, q_bx_7, q_bx_8, q_pop_0, q_pop_s, ↓reduceIte, Nat.reduceEqDiff, reduceCtorEq, eq_self, Bool.false_eq_true, Nat.reduceAdd, Nat.reduceSub, Nat.reduceMul, Nat.reduceLeDiff, Nat.reduceLT, Nat.le_refl, Nat.zero_le, true_and, and_true, false_and, and_false, or_false, false_or, true_or, or_true, not_true_eq_false, not_false_eq_true, if_true, if_false, List.getElem?_cons_zero, List.getElem?_cons_succ, List.set_cons_zero, List.set_cons_succ, List.length_cons, List.length_nil, ↓tX0_init_0, ↓tX0_init_1, ↓tX0_init_4, ↓tX0_init_5, ↓tX0_init_7, ↓tX0_init_9, ↓tX0_init_12, ↓tX0_init_13, ↓tX0_init_15, ↓tX0_init_17, ↓tX0_init_20, ↓tX0_init_21, ↓tX0_init_23, ↓tX0_init_25, ↓tX0_init_28, ↓tX0_init_29, ↓tX0_init_31, ↓tX0_init_33, ↓tX0_init_36, ↓tX0_init_37, ↓tX0_init_38, ↓tX0_init_40, ↓tX0_init_43, ↓tX0_init_44, ↓tX0_init_47, ↓tX0_init_49, ↓tX0_init_52, ↓oAl, ↓oK, ↓oNewa, ↓oObj, ↓oPutR, ↓oVret, q_set_s, q_set_n, z_clamp, z_ltI, z_leI, z_eqI, z_lt0, z_ge0, z_eq0I, z_gt0I, z_le0I, z_m1lt, z_m1ge, z_m1eq, z_m1eq', z_inT, z_add, z_sub, z_mul, z_div, z_rem, n_ltT, n_ltF, n_leT, n_leF, n_eqT, n_eqF, z_11, q_tl_i, q_tl_n, q_ap_n, q_ap_c, q_newP, q_setP, va_up_ne, va_up_self, hf]
  refine e _ rfl fun a => ?_
  rcases (show a < i ∨ a = i ∨ a = i + 1 ∨ a = i + 2 ∨ a = i + 3 ∨ a = i + 4 ∨ a = i + 5 ∨ a = i + 6 ∨ i + 7 ≤ a by omega) with g | g | g | g | g | g | g | g | g
  · simp (disch := omega) only [va_up_ne]
    exact (q_og_out (M0 := (i + 7, f)) (i := i) (E := auE i (fun _ => 0) (fun _ _ => 0)) (Or.inl g)).symm
  · rw [g]
    simp (disch := omega) only [va_up_ne, va_up_self]
    exact (au_0 (M0 := (i + 7, f)) (i := i) (s := fun _ => 0) (A := fun _ _ => 0)).symm
  · rw [g]
    simp (disch := omega) only [va_up_ne, va_up_self]
    exact (au_a0 (M0 := (i + 7, f)) (i := i) (s := fun _ => 0) (A := fun _ _ => 0)).symm
  · rw [g]
    simp (disch := omega) only [va_up_ne, va_up_self]
    exact (au_a1 (M0 := (i + 7, f)) (i := i) (s := fun _ => 0) (A := fun _ _ => 0)).symm
  · rw [g]
    simp (disch := omega) only [va_up_ne, va_up_self]
    exact (au_a2 (M0 := (i + 7, f)) (i := i) (s := fun _ => 0) (A := fun _ _ => 0)).symm
  · rw [g]
    simp (disch := omega) only [va_up_ne, va_up_self]
    exact (au_a3 (M0 := (i + 7, f)) (i := i) (s := fun _ => 0) (A := fun _ _ => 0)).symm
  · rw [g]
    simp (disch := omega) only [va_up_ne, va_up_self]
    exact (au_a4 (M0 := (i + 7, f)) (i := i) (s := fun _ => 0) (A := fun _ _ => 0)).symm
  · rw [g]
    simp (disch := omega) only [va_up_ne, va_up_self]
    exact (au_a5 (M0 := (i + 7, f)) (i := i) (s := fun _ => 0) (A := fun _ _ => 0)).symm
  · simp (disch := omega) only [va_up_ne]
    exact (q_og_out (M0 := (i + 7, f)) (i := i) (E := auE i (fun _ => 0) (fun _ _ => 0)) (Or.inr (auE_none (by omega)))).symm
set_option maxRecDepth 100000 in
set_option maxHeartbeats 8000000 in
theorem c5_init {f : Nat → Option qE} (hd : 1 ≤ d) (hf : f i = some (.inr (5, [.null, .null, .int 0]))) (hQ : Q none (q_pa (i + 3, f) i (fun _ => 0) (fun _ _ => 0))) : q_Call G L d mX5_init 2 8450 [.ref i] (i + 1, f) Q := by
  have e : ∀ M : qM, M.1 = i + 3 → (∀ a, M.2 a = (q_pa (i + 3, f) i (fun _ => 0) (fun _ _ => 0)).2 a) → Q none M := fun M h1 h2 => by
    rw [q_ext (M' := (q_pa (i + 3, f) i (fun _ => 0) (fun _ _ => 0))) h1 h2]
    exact hQ
  refine q_Call.of [(0, .ref i)] rfl ?_
  refine q_X.run sX5_init [] 80 ?_
  simp (maxSteps := 10000000) (disch := omega) only [↓q_run_s, q_stop_n, q_stop_c, q_lg_c, q_ls_d, q_ld_n, q_ld_c, q_cat_i, q_cat_r, q_cat_n, q_wd_n, q_wd_c, q_bx_1, q_bx_2, q_bx_3, q_bx_4, q_bx_5, q_bx_6, q_bx_7, q_bx_8, q_pop_0, q_pop_s, ↓reduceIte, Nat.reduceEqDiff, reduceCtorEq, eq_self, Bool.false_eq_true, Nat.reduceAdd, Nat.reduceSub, Nat.reduceMul, Nat.reduceLeDiff, Nat.reduceLT, Nat.le_refl, Nat.zero_le, true_and, and_true, false_and, and_false, or_false, false_or, true_or, or_true, not_true_eq_false, not_false_eq_true, if_true, if_false, List.getElem?_cons_zero, List.getElem?_cons_succ, List.set_cons_zero, List.set_cons_succ, List.length_cons, List.length_nil, ↓tX5_init_0, ↓tX5_init_1, ↓tX5_init_4, ↓tX5_init_5, ↓tX5_init_8, ↓tX5_init_10, ↓tX5_init_13, ↓tX5_init_14, ↓tX5_init_17, ↓tX5_init_19, ↓tX5_init_22, ↓oAl, ↓oK, ↓oNewa, ↓oObj, ↓oPutR, ↓oVret, q_set_s, q_set_n, z_clamp, z_ltI, z_leI, z_eqI, z_lt0, z_ge0, z_eq0I, z_gt0I, z_le0I, z_m1lt, z_m1ge, z_m1eq, z_m1eq', z_inT, z_add, z_sub, z_mul, z_div, z_rem, n_ltT, n_ltF, n_leT, n_leF, n_eqT, n_eqF, z_11, q_tl_i, q_tl_n, q_ap_n, q_ap_c, q_newP, q_setP, va_up_ne, va_up_self, hf]
  refine e _ rfl fun a => ?_
  rcases (show a < i ∨ a = i ∨ a = i + 1 ∨ a = i + 2 ∨ i + 3 ≤ a by omega) with g | g | g | g | g
  · simp (disch := omega) only [va_up_ne]
    exact (q_og_out (M0 := (i + 3, f)) (i := i) (E := paE i (fun _ => 0) (fun _ _ => 0)) (Or.inl g)).symm
  · rw [g]
    simp (disch := omega) only [va_up_ne, va_up_self]
    exact (pa_0 (M0 := (i + 3, f)) (i := i) (s := fun _ => 0) (A := fun _ _ => 0)).symm
  · rw [g]
    simp (disch := omega) only [va_up_ne, va_up_self]
    exact (pa_a0 (M0 := (i + 3, f)) (i := i) (s := fun _ => 0) (A := fun _ _ => 0)).symm
  · rw [g]
    simp (disch := omega) only [va_up_ne, va_up_self]
    exact (pa_a1 (M0 := (i + 3, f)) (i := i) (s := fun _ => 0) (A := fun _ _ => 0)).symm
  · simp (disch := omega) only [va_up_ne]
    exact (q_og_out (M0 := (i + 3, f)) (i := i) (E := paE i (fun _ => 0) (fun _ _ => 0)) (Or.inr (paE_none (by omega)))).symm
set_option maxRecDepth 100000 in
set_option maxHeartbeats 8000000 in
theorem c7_init {f : Nat → Option qE} (hd : 1 ≤ d) (hf : f i = some (.inr (7, [.null, .null, .null, .null, .int 0, .int 0]))) (hQ : Q none (q_sh (i + 5, f) i (fun _ => 0) (fun _ _ => 0))) : q_Call G L d mX7_init 4 80 [.ref i] (i + 1, f) Q := by
  have e : ∀ M : qM, M.1 = i + 5 → (∀ a, M.2 a = (q_sh (i + 5, f) i (fun _ => 0) (fun _ _ => 0)).2 a) → Q none M := fun M h1 h2 => by
    rw [q_ext (M' := (q_sh (i + 5, f) i (fun _ => 0) (fun _ _ => 0))) h1 h2]
    exact hQ
  refine q_Call.of [(0, .ref i)] rfl ?_
  refine q_X.run sX7_init [] 80 ?_
  simp (maxSteps := 10000000) (disch := omega) only [↓q_run_s, q_stop_n, q_stop_c, q_lg_c, q_ls_d, q_ld_n, q_ld_c, q_cat_i, q_cat_r, q_cat_n, q_wd_n, q_wd_c, q_bx_1, q_bx_2, q_bx_3, q_bx_4, q_bx_5, q_bx_6, q_bx_7, q_bx_8, q_pop_0, q_pop_s, ↓reduceIte, Nat.reduceEqDiff, reduceCtorEq, eq_self, Bool.false_eq_true, Nat.reduceAdd, Nat.reduceSub, Nat.reduceMul, Nat.reduceLeDiff, Nat.reduceLT, Nat.le_refl, Nat.zero_le, true_and, and_true, false_and, and_false, or_false, false_or, true_or, or_true, not_true_eq_false, not_false_eq_true, if_true, if_false, List.getElem?_cons_zero, List.getElem?_cons_succ, List.set_cons_zero, List.set_cons_succ, List.length_cons, List.length_nil, ↓tX7_init_0, ↓tX7_init_1, ↓tX7_init_4, ↓tX7_init_5, ↓tX7_init_7, ↓tX7_init_9, ↓tX7_init_12, ↓tX7_init_13, ↓tX7_init_15, ↓tX7_init_17, ↓tX7_init_20, ↓tX7_init_21, ↓tX7_init_23, ↓tX7_init_25, ↓tX7_init_28, ↓tX7_init_29, ↓tX7_init_31, ↓tX7_init_33, ↓tX7_init_36, ↓oAl, ↓oK, ↓oNewa, ↓oObj, ↓oPutR, ↓oVret, q_set_s, q_set_n, z_clamp, z_ltI, z_leI, z_eqI, z_lt0, z_ge0, z_eq0I, z_gt0I, z_le0I, z_m1lt, z_m1ge, z_m1eq, z_m1eq', z_inT, z_add, z_sub, z_mul, z_div, z_rem, n_ltT, n_ltF, n_leT, n_leF, n_eqT, n_eqF, z_11, q_tl_i, q_tl_n, q_ap_n, q_ap_c, q_newP, q_setP, va_up_ne, va_up_self, hf]
  refine e _ rfl fun a => ?_
  rcases (show a < i ∨ a = i ∨ a = i + 1 ∨ a = i + 2 ∨ a = i + 3 ∨ a = i + 4 ∨ i + 5 ≤ a by omega) with g | g | g | g | g | g | g
  · simp (disch := omega) only [va_up_ne]
    exact (q_og_out (M0 := (i + 5, f)) (i := i) (E := shE i (fun _ => 0) (fun _ _ => 0)) (Or.inl g)).symm
  · rw [g]
    simp (disch := omega) only [va_up_ne, va_up_self]
    exact (sh_0 (M0 := (i + 5, f)) (i := i) (s := fun _ => 0) (A := fun _ _ => 0)).symm
  · rw [g]
    simp (disch := omega) only [va_up_ne, va_up_self]
    exact (sh_a0 (M0 := (i + 5, f)) (i := i) (s := fun _ => 0) (A := fun _ _ => 0)).symm
  · rw [g]
    simp (disch := omega) only [va_up_ne, va_up_self]
    exact (sh_a1 (M0 := (i + 5, f)) (i := i) (s := fun _ => 0) (A := fun _ _ => 0)).symm
  · rw [g]
    simp (disch := omega) only [va_up_ne, va_up_self]
    exact (sh_a2 (M0 := (i + 5, f)) (i := i) (s := fun _ => 0) (A := fun _ _ => 0)).symm
  · rw [g]
    simp (disch := omega) only [va_up_ne, va_up_self]
    exact (sh_a3 (M0 := (i + 5, f)) (i := i) (s := fun _ => 0) (A := fun _ _ => 0)).symm
  · simp (disch := omega) only [va_up_ne]
    exact (q_og_out (M0 := (i + 5, f)) (i := i) (E := shE i (fun _ => 0) (fun _ _ => 0)) (Or.inr (shE_none (by omega)))).symm
set_option maxRecDepth 100000 in
set_option maxHeartbeats 8000000 in
theorem c9_init {f : Nat → Option qE} (hd : 1 ≤ d) (hf : f i = some (.inr (9, [.null]))) (hQ : Q none (q_wa (i + 2, f) i (fun _ _ => 0))) : q_Call G L d mX9_init 1 845 [.ref i] (i + 1, f) Q := by
  have e : ∀ M : qM, M.1 = i + 2 → (∀ a, M.2 a = (q_wa (i + 2, f) i (fun _ _ => 0)).2 a) → Q none M := fun M h1 h2 => by
    rw [q_ext (M' := (q_wa (i + 2, f) i (fun _ _ => 0))) h1 h2]
    exact hQ
  refine q_Call.of [(0, .ref i)] rfl ?_
  refine q_X.run sX9_init [] 80 ?_
  simp (maxSteps := 10000000) (disch := omega) only [↓q_run_s, q_stop_n, q_stop_c, q_lg_c, q_ls_d, q_ld_n, q_ld_c, q_cat_i, q_cat_r, q_cat_n, q_wd_n, q_wd_c, q_bx_1, q_bx_2, q_bx_3, q_bx_4, q_bx_5, q_bx_6, q_bx_7, q_bx_8, q_pop_0, q_pop_s, ↓reduceIte, Nat.reduceEqDiff, reduceCtorEq, eq_self, Bool.false_eq_true, Nat.reduceAdd, Nat.reduceSub, Nat.reduceMul, Nat.reduceLeDiff, Nat.reduceLT, Nat.le_refl, Nat.zero_le, true_and, and_true, false_and, and_false, or_false, false_or, true_or, or_true, not_true_eq_false, not_false_eq_true, if_true, if_false, List.getElem?_cons_zero, List.getElem?_cons_succ, List.set_cons_zero, List.set_cons_succ, List.length_cons, List.length_nil, ↓tX9_init_0, ↓tX9_init_1, ↓tX9_init_4, ↓tX9_init_5, ↓tX9_init_8, ↓tX9_init_10, ↓tX9_init_13, ↓oAl, ↓oK, ↓oNewa, ↓oObj, ↓oPutR, ↓oVret, q_set_s, q_set_n, z_clamp, z_ltI, z_leI, z_eqI, z_lt0, z_ge0, z_eq0I, z_gt0I, z_le0I, z_m1lt, z_m1ge, z_m1eq, z_m1eq', z_inT, z_add, z_sub, z_mul, z_div, z_rem, n_ltT, n_ltF, n_leT, n_leF, n_eqT, n_eqF, z_11, q_tl_i, q_tl_n, q_ap_n, q_ap_c, q_newP, q_setP, va_up_ne, va_up_self, hf]
  refine e _ rfl fun a => ?_
  rcases (show a < i ∨ a = i ∨ a = i + 1 ∨ i + 2 ≤ a by omega) with g | g | g | g
  · simp (disch := omega) only [va_up_ne]
    exact (q_og_out (M0 := (i + 2, f)) (i := i) (E := waE i (fun _ _ => 0)) (Or.inl g)).symm
  · rw [g]
    simp (disch := omega) only [va_up_ne, va_up_self]
    exact (wa_0 (M0 := (i + 2, f)) (i := i) (A := fun _ _ => 0)).symm
  · rw [g]
    simp (disch := omega) only [va_up_ne, va_up_self]
    exact (wa_a0 (M0 := (i + 2, f)) (i := i) (A := fun _ _ => 0)).symm
  · simp (disch := omega) only [va_up_ne]
    exact (q_og_out (M0 := (i + 2, f)) (i := i) (E := waE i (fun _ _ => 0)) (Or.inr (waE_none (by omega)))).symm
set_option maxRecDepth 100000 in
set_option maxHeartbeats 8000000 in
theorem c10_init {f : Nat → Option qE} (hd : 1 ≤ d) (hf : f i = some (.inr (10, [.null, .int 0]))) (hQ : Q none (q_wr (i + 2, f) i (fun _ => 0) (fun _ _ => 0))) : q_Call G L d mX10_init 1 128 [.ref i] (i + 1, f) Q := by
  have e : ∀ M : qM, M.1 = i + 2 → (∀ a, M.2 a = (q_wr (i + 2, f) i (fun _ => 0) (fun _ _ => 0)).2 a) → Q none M := fun M h1 h2 => by
    rw [q_ext (M' := (q_wr (i + 2, f) i (fun _ => 0) (fun _ _ => 0))) h1 h2]
    exact hQ
  refine q_Call.of [(0, .ref i)] rfl ?_
  refine q_X.run sX10_init [] 80 ?_
  simp (maxSteps := 10000000) (disch := omega) only [↓q_run_s, q_stop_n, q_stop_c, q_lg_c, q_ls_d, q_ld_n, q_ld_c, q_cat_i, q_cat_r, q_cat_n, q_wd_n, q_wd_c, q_bx_1, q_bx_2, q_bx_3, q_bx_4, q_bx_5, q_bx_6, q_bx_7, q_bx_8, q_pop_0, q_pop_s, ↓reduceIte, Nat.reduceEqDiff, reduceCtorEq, eq_self, Bool.false_eq_true, Nat.reduceAdd, Nat.reduceSub, Nat.reduceMul, Nat.reduceLeDiff, Nat.reduceLT, Nat.le_refl, Nat.zero_le, true_and, and_true, false_and, and_false, or_false, false_or, true_or, or_true, not_true_eq_false, not_false_eq_true, if_true, if_false, List.getElem?_cons_zero, List.getElem?_cons_succ, List.set_cons_zero, List.set_cons_succ, List.length_cons, List.length_nil, ↓tX10_init_0, ↓tX10_init_1, ↓tX10_init_4, ↓tX10_init_5, ↓tX10_init_8, ↓tX10_init_10, ↓tX10_init_13, ↓oAl, ↓oK, ↓oNewa, ↓oObj, ↓oPutR, ↓oVret, q_set_s, q_set_n, z_clamp, z_ltI, z_leI, z_eqI, z_lt0, z_ge0, z_eq0I, z_gt0I, z_le0I, z_m1lt, z_m1ge, z_m1eq, z_m1eq', z_inT, z_add, z_sub, z_mul, z_div, z_rem, n_ltT, n_ltF, n_leT, n_leF, n_eqT, n_eqF, z_11, q_tl_i, q_tl_n, q_ap_n, q_ap_c, q_newP, q_setP, va_up_ne, va_up_self, hf]
  refine e _ rfl fun a => ?_
  rcases (show a < i ∨ a = i ∨ a = i + 1 ∨ i + 2 ≤ a by omega) with g | g | g | g
  · simp (disch := omega) only [va_up_ne]
    exact (q_og_out (M0 := (i + 2, f)) (i := i) (E := wrE i (fun _ => 0) (fun _ _ => 0)) (Or.inl g)).symm
  · rw [g]
    simp (disch := omega) only [va_up_ne, va_up_self]
    exact (wr_0 (M0 := (i + 2, f)) (i := i) (s := fun _ => 0) (A := fun _ _ => 0)).symm
  · rw [g]
    simp (disch := omega) only [va_up_ne, va_up_self]
    exact (wr_a0 (M0 := (i + 2, f)) (i := i) (s := fun _ => 0) (A := fun _ _ => 0)).symm
  · simp (disch := omega) only [va_up_ne]
    exact (q_og_out (M0 := (i + 2, f)) (i := i) (E := wrE i (fun _ => 0) (fun _ _ => 0)) (Or.inr (wrE_none (by omega)))).symm
end
