/-! the class: Finder counts rows, the evenest one -/
theorem z_o_le : ∀ g j, z_o j ≤ z_o (j + g)
  | 0, j => Nat.le_refl _
  | g + 1, j => Nat.le_trans (z_o_le g j) (Nat.le_add_right _ _)
theorem e_rw_o {n v : Nat} (hn : n ≤ 3) (hv : v < 3 ^ n) : e_rw (z_o n + v) = 3 ^ n + v := by
  obtain ⟨e0, e1, e2, e3, e4, -⟩ := z_o5
  unfold e_rw
  obtain rfl | rfl | rfl | rfl : n = 0 ∨ n = 1 ∨ n = 2 ∨ n = 3 := by omega
  · have hv : v < 1 := hv
    rw [e0, if_pos (by omega)]
    show 1 + (0 + v) = 1 + v
    omega
  · have hv : v < 3 := hv
    rw [e1, if_neg (by omega), if_pos (by omega)]
    show 3 + (1 + v - 1) = 3 + v
    omega
  · have hv : v < 9 := hv
    rw [e2, if_neg (by omega), if_neg (by omega), if_pos (by omega)]
    show 9 + (4 + v - 4) = 9 + v
    omega
  · have hv : v < 27 := hv
    rw [e3, if_neg (by omega), if_neg (by omega), if_neg (by omega)]
    show 27 + (13 + v - 13) = 27 + v
    omega
theorem z_dec3 {k : Nat} (hk : k < 40) : ∃ n v, n ≤ 3 ∧ v < 3 ^ n ∧ k = z_o n + v := by
  obtain ⟨n, v, hn, hv, e⟩ := z_dec (k := k) (by omega)
  obtain ⟨-, -, -, -, e4, -⟩ := z_o5
  refine ⟨n, v, ?_, hv, e⟩
  apply Classical.byContradiction
  intro g
  have e' : n = 4 := by omega
  subst e'
  omega
theorem e_hr_iff {n v x : Nat} (hn : n ≤ 3) (hv : v < 3 ^ n) : e_hr (z_o n + v) x ↔ z_S (e_t x) n v := by
  constructor
  · rintro ⟨n', v', hn', hv', e, h⟩
    obtain ⟨e1, e2⟩ := z_o_inj (by omega) hv hn' hv' e
    subst e1 e2
    exact h
  · exact fun h => ⟨n, v, by omega, hv, rfl, h⟩
theorem z_ob {n v : Nat} (hn : n ≤ 3) (hv : v < 3 ^ n) : z_o n + v = (if n < 3 then z_b n v else 13 + v) := by
  obtain ⟨e0, e1, e2, e3, e4, -⟩ := z_o5
  obtain rfl | rfl | rfl | rfl : n = 0 ∨ n = 1 ∨ n = 2 ∨ n = 3 := by omega
  · have hv : v < 1 := hv
    rw [e0, if_pos (by decide)]
    show 0 + v = 0
    omega
  · rw [e1, if_pos (by decide)]; rfl
  · rw [e2, if_pos (by decide)]; rfl
  · rw [e3, if_neg (by decide)]
theorem e_hr_eq {k x y : Nat} (h : z_eq (e_t x) (e_t y)) (hx : e_hr k x) : e_hr k y := by
  obtain ⟨n, v, hn, hv, e, hz⟩ := hx
  exact ⟨n, v, hn, hv, e, (h n v hn hv).mp hz⟩
noncomputable def f_one (p : Prop) : Nat := @ite Nat p (Classical.propDecidable _) 1 0
theorem f_one_T {p : Prop} (h : p) : f_one p = 1 := if_pos h
theorem f_one_F {p : Prop} (h : ¬ p) : f_one p = 0 := if_neg h
section
variable {G : qC} {L : Launch} {d : Nat} {Q : Option Value → qM → Prop} {M : qM} {M0 : qM} {i : Nat} {X : Nat → Nat} {s : Nat → Int32} {A : Nat → Nat → Int32} {B : Nat → Nat → Int64} {Ac : Nat → Nat → Int32} {kc lc rc : Nat → Int32} {sh : Nat → Int32} {Ah : Nat → Nat → Int32} {sm : Nat → Int32} {Am : Nat → Nat → Int32} {S tb : Nat} {D : Nat → yD} {μ : Nat → Nat} {z : Nat}
set_option maxRecDepth 100000 in
set_option maxHeartbeats 8000000 in
theorem c2_rowBy {n v : Nat} (hn : n ≤ 3) (hv : v < 3 ^ n) (hQ : Q (some (.int (nI (3 ^ n + v)))) M) : q_Call G L d mX2_rowBy 0 0 [.int (nI (z_o n + v))] M Q := by
  have hp : 3 ^ n ≤ 27 := Nat.pow_le_pow_right (n := 3) (by decide) hn
  have ho : z_o n ≤ 13 := by
    have := z_o_le (3 - n) n
    rw [show n + (3 - n) = 3 by omega] at this
    obtain ⟨-, -, -, e3, -⟩ := z_o5
    omega
  have loop : ∀ (g j rest : Nat), g + j = n → rest + z_o j = z_o n + v → q_X G L d mX2_rowBy 0 0 Q 4 [(1, .int (nI rest)), (2, .int (nI j))] [] M 0 0 := by
    intro g
    induction g with
    | zero =>
      intro j rest hj hr
      have e : j = n := by omega
      subst e
      have e : rest = v := by omega
      subst e
      refine q_X.mem fun hro _ => ?_
      obtain ⟨-, h2, -⟩ := hro
      refine q_X.run sX2_rowBy [] 40 ?_
      simp (maxSteps := 10000000) (disch := omega) only [↓q_run_s, q_stop_n, q_stop_c, q_lg_c, q_ls_d, q_ld_n, q_ld_c, q_cat_i, q_cat_r, q_cat_n, q_wd_n, q_wd_c, q_bx_1, q_bx_2, q_bx_3, q_bx_4, q_bx_5, q_bx_6, q_bx_7, q_bx_8, q_pop_0, q_pop_s, ↓reduceIte, Nat.reduceEqDiff, reduceCtorEq, eq_self, Bool.false_eq_true, Nat.reduceAdd, Nat.reduceSub, Nat.reduceMul, Nat.reduceLeDiff, Nat.reduceLT, Nat.le_refl, Nat.zero_le, true_and, and_true, false_and, and_false, or_false, false_or, true_or, or_true, not_true_eq_false, not_false_eq_true, if_true, if_false, List.getElem?_cons_zero, List.getElem?_cons_succ, List.set_cons_zero, List.set_cons_succ, List.length_cons, List.length_nil, ↓tX2_rowBy_0, ↓tX2_rowBy_1, ↓tX2_rowBy_2, ↓tX2_rowBy_3, ↓tX2_rowBy_4, ↓tX2_rowBy_5, ↓tX2_rowBy_8, ↓tX2_rowBy_9, ↓tX2_rowBy_12, ↓tX2_rowBy_13, ↓tX2_rowBy_16, ↓tX2_rowBy_17, ↓tX2_rowBy_18, ↓tX2_rowBy_21, ↓tX2_rowBy_24, ↓tX2_rowBy_25, ↓tX2_rowBy_26, ↓tX2_rowBy_27, ↓tX2_rowBy_28, ↓tX2_rowBy_29, ↓tX2_rowBy_30, ↓tX2_rowBy_33, ↓tX2_rowBy_34, ↓tX2_rowBy_35, ↓tX2_rowBy_36, ↓tX2_rowBy_37, ↓tX2_rowBy_40, ↓tX2_rowBy_43, ↓tX2_rowBy_44, ↓oAdd, ↓oAlen, ↓oGo, ↓oIald, ↓oIf2ge, ↓oIl, ↓oInc, ↓oIret, ↓oIs, ↓oK, ↓oStW, ↓oSub, q_set_s, q_set_n, q_roO, q_roW, z_clamp, z_ltI, z_leI, z_eqI, z_lt0, z_ge0, z_eq0I, z_gt0I, z_le0I, z_m1lt, z_m1ge, z_m1eq, z_m1eq', z_inT, z_add, z_sub, z_mul, z_div, z_rem, n_ltT, n_ltF, n_leT, n_leF, n_eqT, n_eqF, z_11, q_tl_i, q_tl_n, q_ap_n, q_ap_c, h2, q_pow]
      exact hQ
    | succ g ih =>
      intro j rest hj hr
      have h3 := q_pow_le (n := j) (by omega)
      have hle : z_o (j + 1) ≤ z_o n := by
        have := z_o_le g (j + 1)
        rw [show j + 1 + g = n by omega] at this
        exact this
      have hz1 : z_o (j + 1) = z_o j + 3 ^ j := rfl
      have h' := ih (j + 1) (rest - 3 ^ j) (by omega) (by omega)
      refine q_X.mem fun hro _ => ?_
      obtain ⟨-, h2, -⟩ := hro
      refine q_X.run sX2_rowBy [4] 40 ?_
      simp (maxSteps := 10000000) (disch := omega) only [↓q_run_s, q_stop_n, q_stop_c, q_lg_c, q_ls_d, q_ld_n, q_ld_c, q_cat_i, q_cat_r, q_cat_n, q_wd_n, q_wd_c, q_bx_1, q_bx_2, q_bx_3, q_bx_4, q_bx_5, q_bx_6, q_bx_7, q_bx_8, q_pop_0, q_pop_s, ↓reduceIte, Nat.reduceEqDiff, reduceCtorEq, eq_self, Bool.false_eq_true, Nat.reduceAdd, Nat.reduceSub, Nat.reduceMul, Nat.reduceLeDiff, Nat.reduceLT, Nat.le_refl, Nat.zero_le, true_and, and_true, false_and, and_false, or_false, false_or, true_or, or_true, not_true_eq_false, not_false_eq_true, if_true, if_false, List.getElem?_cons_zero, List.getElem?_cons_succ, List.set_cons_zero, List.set_cons_succ, List.length_cons, List.length_nil, ↓tX2_rowBy_0, ↓tX2_rowBy_1, ↓tX2_rowBy_2, ↓tX2_rowBy_3, ↓tX2_rowBy_4, ↓tX2_rowBy_5, ↓tX2_rowBy_8, ↓tX2_rowBy_9, ↓tX2_rowBy_12, ↓tX2_rowBy_13, ↓tX2_rowBy_16, ↓tX2_rowBy_17, ↓tX2_rowBy_18, ↓tX2_rowBy_21, ↓tX2_rowBy_24, ↓tX2_rowBy_25, ↓tX2_rowBy_26, ↓tX2_rowBy_27, ↓tX2_rowBy_28, ↓tX2_rowBy_29, ↓tX2_rowBy_30, ↓tX2_rowBy_33, ↓tX2_rowBy_34, ↓tX2_rowBy_35, ↓tX2_rowBy_36, ↓tX2_rowBy_37, ↓tX2_rowBy_40, ↓tX2_rowBy_43, ↓tX2_rowBy_44, ↓oAdd, ↓oAlen, ↓oGo, ↓oIald, ↓oIf2ge, ↓oIl, ↓oInc, ↓oIret, ↓oIs, ↓oK, ↓oStW, ↓oSub, q_set_s, q_set_n, q_roO, q_roW, z_clamp, z_ltI, z_leI, z_eqI, z_lt0, z_ge0, z_eq0I, z_gt0I, z_le0I, z_m1lt, z_m1ge, z_m1eq, z_m1eq', z_inT, z_add, z_sub, z_mul, z_div, z_rem, n_ltT, n_ltF, n_leT, n_leF, n_eqT, n_eqF, z_11, q_tl_i, q_tl_n, q_ap_n, q_ap_c, h2, q_pow]
      refine q_X.lv2 _ ?_ h'
      exact ⟨rfl, rfl, trivial⟩
  have h' := loop n 0 (z_o n + v) (by omega) rfl
  refine q_Call.of [(0, .int (nI (z_o n + v)))] rfl ?_
  refine q_X.run sX2_rowBy [4] 40 ?_
  simp (maxSteps := 10000000) (disch := omega) only [↓q_run_s, q_stop_n, q_stop_c, q_lg_c, q_ls_d, q_ld_n, q_ld_c, q_cat_i, q_cat_r, q_cat_n, q_wd_n, q_wd_c, q_bx_1, q_bx_2, q_bx_3, q_bx_4, q_bx_5, q_bx_6, q_bx_7, q_bx_8, q_pop_0, q_pop_s, ↓reduceIte, Nat.reduceEqDiff, reduceCtorEq, eq_self, Bool.false_eq_true, Nat.reduceAdd, Nat.reduceSub, Nat.reduceMul, Nat.reduceLeDiff, Nat.reduceLT, Nat.le_refl, Nat.zero_le, true_and, and_true, false_and, and_false, or_false, false_or, true_or, or_true, not_true_eq_false, not_false_eq_true, if_true, if_false, List.getElem?_cons_zero, List.getElem?_cons_succ, List.set_cons_zero, List.set_cons_succ, List.length_cons, List.length_nil, ↓tX2_rowBy_0, ↓tX2_rowBy_1, ↓tX2_rowBy_2, ↓tX2_rowBy_3, ↓tX2_rowBy_4, ↓tX2_rowBy_5, ↓tX2_rowBy_8, ↓tX2_rowBy_9, ↓tX2_rowBy_12, ↓tX2_rowBy_13, ↓tX2_rowBy_16, ↓tX2_rowBy_17, ↓tX2_rowBy_18, ↓tX2_rowBy_21, ↓tX2_rowBy_24, ↓tX2_rowBy_25, ↓tX2_rowBy_26, ↓tX2_rowBy_27, ↓tX2_rowBy_28, ↓tX2_rowBy_29, ↓tX2_rowBy_30, ↓tX2_rowBy_33, ↓tX2_rowBy_34, ↓tX2_rowBy_35, ↓tX2_rowBy_36, ↓tX2_rowBy_37, ↓tX2_rowBy_40, ↓tX2_rowBy_43, ↓tX2_rowBy_44, ↓oAdd, ↓oAlen, ↓oGo, ↓oIald, ↓oIf2ge, ↓oIl, ↓oInc, ↓oIret, ↓oIs, ↓oK, ↓oStW, ↓oSub, q_set_s, q_set_n, q_roO, q_roW, z_clamp, z_ltI, z_leI, z_eqI, z_lt0, z_ge0, z_eq0I, z_gt0I, z_le0I, z_m1lt, z_m1ge, z_m1eq, z_m1eq', z_inT, z_add, z_sub, z_mul, z_div, z_rem, n_ltT, n_ltF, n_leT, n_leF, n_eqT, n_eqF, z_11, q_tl_i, q_tl_n, q_ap_n, q_ap_c]
  refine q_X.lv2 _ ?_ h'
  exact ⟨rfl, rfl, trivial⟩
set_option maxRecDepth 100000 in
set_option maxHeartbeats 8000000 in
theorem c2_addRows {x y : Nat} {cnt : Nat → Nat} (hO : f_On M0 i X Ac kc lc rc sh Ah sm Am) (hx : x < 1284) (hM : z_M (Am 0) x (e_t y)) (h9 : ∀ k, k < 40 → A 9 k = nI (cnt k) ∧ cnt k < 100000) (hd : 2 ≤ d) (hQ : ∀ g, (∀ k, k < 40 → g k = nI (cnt k + f_one (e_hr k y))) → Q none (q_fj (q_sp M0 (i + X 2 + 9) 4937 B) i X s (va_up A 9 g))) : q_Call G L d mX2_addRows 0 0 [.ref i, .int (nI x)] (q_fj (q_sp M0 (i + X 2 + 9) 4937 B) i X s A) Q := by
  have hO' := fun s A B => (hO.sp (n := 4937) (B := B)).fi (X := X) (s := s) (A := A)
  have h3 := fun s A B => (hO' s A B).p3
  have loop : ∀ (g k : Nat) (f : Nat → Int32), g + k = 40 → (∀ q, q < 40 → f q = nI (cnt q + (if q < k then f_one (e_hr q y) else 0))) → q_X G L d mX2_addRows 0 0 Q 2 [(0, .ref i), (1, .int (nI x)), (2, .int (nI k))] [] (q_fj (q_sp M0 (i + X 2 + 9) 4937 B) i X s (va_up A 9 f)) 0 0 := by
    intro g
    induction g with
    | zero =>
      intro k f hk hf
      have e : k = 40 := by omega
      subst e
      have h' := hQ f fun q hq => by rw [hf q hq, if_pos hq]
      refine q_X.run sX2_addRows [] 20 ?_
      simp (maxSteps := 10000000) (disch := omega) only [↓q_run_s, q_stop_n, q_stop_c, q_lg_c, q_ls_d, q_ld_n, q_ld_c, q_cat_i, q_cat_r, q_cat_n, q_wd_n, q_wd_c, q_bx_1, q_bx_2, q_bx_3, q_bx_4, q_bx_5, q_bx_6, q_bx_7, q_bx_8, q_pop_0, q_pop_s, ↓reduceIte, Nat.reduceEqDiff, reduceCtorEq, eq_self, Bool.false_eq_true, Nat.reduceAdd, Nat.reduceSub, Nat.reduceMul, Nat.reduceLeDiff, Nat.reduceLT, Nat.le_refl, Nat.zero_le, true_and, and_true, false_and, and_false, or_false, false_or, true_or, or_true, not_true_eq_false, not_false_eq_true, if_true, if_false, List.getElem?_cons_zero, List.getElem?_cons_succ, List.set_cons_zero, List.set_cons_succ, List.length_cons, List.length_nil, ↓tX2_addRows_0, ↓tX2_addRows_1, ↓tX2_addRows_2, ↓tX2_addRows_3, ↓tX2_addRows_5, ↓tX2_addRows_8, ↓tX2_addRows_9, ↓tX2_addRows_12, ↓tX2_addRows_13, ↓tX2_addRows_14, ↓tX2_addRows_17, ↓tX2_addRows_20, ↓tX2_addRows_21, ↓tX2_addRows_24, ↓tX2_addRows_25, ↓tX2_addRows_26, ↓tX2_addRows_27, ↓tX2_addRows_28, ↓tX2_addRows_29, ↓tX2_addRows_30, ↓tX2_addRows_33, ↓tX2_addRows_36, ↓oAdd, ↓oAl, ↓oCallV, ↓oDup2, ↓oGet, ↓oGo, ↓oIald, ↓oIast, ↓oIf1eq, ↓oIf2ge, ↓oIl, ↓oInc, ↓oIs, ↓oK, ↓oVret, q_set_s, q_set_n, fj_0, fjO_len, q_up_a, me_0, meO_len, fjO_2, fjO_9, fj_a9, fjs_a9, z_clamp, z_ltI, z_leI, z_eqI, z_lt0, z_ge0, z_eq0I, z_gt0I, z_le0I, z_m1lt, z_m1ge, z_m1eq, z_m1eq', z_inT, z_add, z_sub, z_mul, z_div, z_rem, n_ltT, n_ltF, n_leT, n_leF, n_eqT, n_eqF, z_11, q_tl_i, q_tl_n, q_ap_n, q_ap_c]
      exact h'
    | succ g ih =>
      intro k f hk hf
      have hk40 : k < 40 := by omega
      obtain ⟨n, v, hn, hv, ek⟩ := z_dec3 hk40
      have hfk : f k = nI (cnt k) := by rw [hf k hk40, if_neg (by omega), Nat.add_zero]
      have hck := (h9 k hk40).2
      refine q_X.run sX2_addRows [] 20 ?_
      simp (maxSteps := 10000000) (disch := omega) only [↓q_run_s, q_stop_n, q_stop_c, q_lg_c, q_ls_d, q_ld_n, q_ld_c, q_cat_i, q_cat_r, q_cat_n, q_wd_n, q_wd_c, q_bx_1, q_bx_2, q_bx_3, q_bx_4, q_bx_5, q_bx_6, q_bx_7, q_bx_8, q_pop_0, q_pop_s, ↓reduceIte, Nat.reduceEqDiff, reduceCtorEq, eq_self, Bool.false_eq_true, Nat.reduceAdd, Nat.reduceSub, Nat.reduceMul, Nat.reduceLeDiff, Nat.reduceLT, Nat.le_refl, Nat.zero_le, true_and, and_true, false_and, and_false, or_false, false_or, true_or, or_true, not_true_eq_false, not_false_eq_true, if_true, if_false, List.getElem?_cons_zero, List.getElem?_cons_succ, List.set_cons_zero, List.set_cons_succ, List.length_cons, List.length_nil, ↓tX2_addRows_0, ↓tX2_addRows_1, ↓tX2_addRows_2, ↓tX2_addRows_3, ↓tX2_addRows_5, ↓tX2_addRows_8, ↓tX2_addRows_9, ↓tX2_addRows_12, ↓tX2_addRows_13, ↓tX2_addRows_14, ↓tX2_addRows_17, ↓tX2_addRows_20, ↓tX2_addRows_21, ↓tX2_addRows_24, ↓tX2_addRows_25, ↓tX2_addRows_26, ↓tX2_addRows_27, ↓tX2_addRows_28, ↓tX2_addRows_29, ↓tX2_addRows_30, ↓tX2_addRows_33, ↓tX2_addRows_36, ↓oAdd, ↓oAl, ↓oCallV, ↓oDup2, ↓oGet, ↓oGo, ↓oIald, ↓oIast, ↓oIf1eq, ↓oIf2ge, ↓oIl, ↓oInc, ↓oIs, ↓oK, ↓oVret, q_set_s, q_set_n, fj_0, fjO_len, q_up_a, me_0, meO_len, fjO_2, fjO_9, fj_a9, fjs_a9, z_clamp, z_ltI, z_leI, z_eqI, z_lt0, z_ge0, z_eq0I, z_gt0I, z_le0I, z_m1lt, z_m1ge, z_m1eq, z_m1eq', z_inT, z_add, z_sub, z_mul, z_div, z_rem, n_ltT, n_ltF, n_leT, n_leF, n_eqT, n_eqF, z_11, q_tl_i, q_tl_n, q_ap_n, q_ap_c, h3]
      refine d3_hasRow (hO' _ _ _).2.2.2.1 hx hM hn hv (ek.trans (z_ob hn hv)) (by omega) (fun hz => ?_) (fun hz => ?_)
      · have h' := ih (k + 1) (upd f k (nI (cnt k + 1))) (by omega) (fun q hq => by
          by_cases c : q = k
          · subst c
            rw [q_ud_s, if_pos (by omega), f_one_T (by rw [ek]; exact (e_hr_iff hn hv).mpr hz)]
          · rw [q_ud_n _ _ c, hf q hq]
            by_cases c2 : q < k
            · rw [if_pos c2, if_pos (by omega)]
            · rw [if_neg c2, if_neg (by omega)])
        refine q_X.run sX2_addRows [2] 40 ?_
        simp (maxSteps := 10000000) (disch := omega) only [↓q_run_s, q_stop_n, q_stop_c, q_lg_c, q_ls_d, q_ld_n, q_ld_c, q_cat_i, q_cat_r, q_cat_n, q_wd_n, q_wd_c, q_bx_1, q_bx_2, q_bx_3, q_bx_4, q_bx_5, q_bx_6, q_bx_7, q_bx_8, q_pop_0, q_pop_s, ↓reduceIte, Nat.reduceEqDiff, reduceCtorEq, eq_self, Bool.false_eq_true, Nat.reduceAdd, Nat.reduceSub, Nat.reduceMul, Nat.reduceLeDiff, Nat.reduceLT, Nat.le_refl, Nat.zero_le, true_and, and_true, false_and, and_false, or_false, false_or, true_or, or_true, not_true_eq_false, not_false_eq_true, if_true, if_false, List.getElem?_cons_zero, List.getElem?_cons_succ, List.set_cons_zero, List.set_cons_succ, List.length_cons, List.length_nil, ↓tX2_addRows_0, ↓tX2_addRows_1, ↓tX2_addRows_2, ↓tX2_addRows_3, ↓tX2_addRows_5, ↓tX2_addRows_8, ↓tX2_addRows_9, ↓tX2_addRows_12, ↓tX2_addRows_13, ↓tX2_addRows_14, ↓tX2_addRows_17, ↓tX2_addRows_20, ↓tX2_addRows_21, ↓tX2_addRows_24, ↓tX2_addRows_25, ↓tX2_addRows_26, ↓tX2_addRows_27, ↓tX2_addRows_28, ↓tX2_addRows_29, ↓tX2_addRows_30, ↓tX2_addRows_33, ↓tX2_addRows_36, ↓oAdd, ↓oAl, ↓oCallV, ↓oDup2, ↓oGet, ↓oGo, ↓oIald, ↓oIast, ↓oIf1eq, ↓oIf2ge, ↓oIl, ↓oInc, ↓oIs, ↓oK, ↓oVret, q_set_s, q_set_n, fj_0, fjO_len, q_up_a, me_0, meO_len, fjO_2, fjO_9, fj_a9, fjs_a9, z_clamp, z_ltI, z_leI, z_eqI, z_lt0, z_ge0, z_eq0I, z_gt0I, z_le0I, z_m1lt, z_m1ge, z_m1eq, z_m1eq', z_inT, z_add, z_sub, z_mul, z_div, z_rem, n_ltT, n_ltF, n_leT, n_leF, n_eqT, n_eqF, z_11, q_tl_i, q_tl_n, q_ap_n, q_ap_c, hfk]
        refine q_X.lv2 _ ?_ h'
        exact ⟨rfl, rfl, rfl, trivial⟩
      · have h' := ih (k + 1) f (by omega) (fun q hq => by
          rw [hf q hq]
          by_cases c : q = k
          · subst c
            rw [if_neg (by omega), if_pos (by omega), f_one_F (by rw [ek]; exact fun g => hz ((e_hr_iff hn hv).mp g))]
          · by_cases c2 : q < k
            · rw [if_pos c2, if_pos (by omega)]
            · rw [if_neg c2, if_neg (by omega)])
        refine q_X.run sX2_addRows [2] 40 ?_
        simp (maxSteps := 10000000) (disch := omega) only [↓q_run_s, q_stop_n, q_stop_c, q_lg_c, q_ls_d, q_ld_n, q_ld_c, q_cat_i, q_cat_r, q_cat_n, q_wd_n, q_wd_c, q_bx_1, q_bx_2, q_bx_3, q_bx_4, q_bx_5, q_bx_6, q_bx_7, q_bx_8, q_pop_0, q_pop_s, ↓reduceIte, Nat.reduceEqDiff, reduceCtorEq, eq_self, Bool.false_eq_true, Nat.reduceAdd, Nat.reduceSub, Nat.reduceMul, Nat.reduceLeDiff, Nat.reduceLT, Nat.le_refl, Nat.zero_le, true_and, and_true, false_and, and_false, or_false, false_or, true_or, or_true, not_true_eq_false, not_false_eq_true, if_true, if_false, List.getElem?_cons_zero, List.getElem?_cons_succ, List.set_cons_zero, List.set_cons_succ, List.length_cons, List.length_nil, ↓tX2_addRows_0, ↓tX2_addRows_1, ↓tX2_addRows_2, ↓tX2_addRows_3, ↓tX2_addRows_5, ↓tX2_addRows_8, ↓tX2_addRows_9, ↓tX2_addRows_12, ↓tX2_addRows_13, ↓tX2_addRows_14, ↓tX2_addRows_17, ↓tX2_addRows_20, ↓tX2_addRows_21, ↓tX2_addRows_24, ↓tX2_addRows_25, ↓tX2_addRows_26, ↓tX2_addRows_27, ↓tX2_addRows_28, ↓tX2_addRows_29, ↓tX2_addRows_30, ↓tX2_addRows_33, ↓tX2_addRows_36, ↓oAdd, ↓oAl, ↓oCallV, ↓oDup2, ↓oGet, ↓oGo, ↓oIald, ↓oIast, ↓oIf1eq, ↓oIf2ge, ↓oIl, ↓oInc, ↓oIs, ↓oK, ↓oVret, q_set_s, q_set_n, fj_0, fjO_len, q_up_a, me_0, meO_len, fjO_2, fjO_9, fj_a9, fjs_a9, z_clamp, z_ltI, z_leI, z_eqI, z_lt0, z_ge0, z_eq0I, z_gt0I, z_le0I, z_m1lt, z_m1ge, z_m1eq, z_m1eq', z_inT, z_add, z_sub, z_mul, z_div, z_rem, n_ltT, n_ltF, n_leT, n_leF, n_eqT, n_eqF, z_11, q_tl_i, q_tl_n, q_ap_n, q_ap_c]
        refine q_X.lv2 _ ?_ h'
        exact ⟨rfl, rfl, rfl, trivial⟩
  have h' := loop 40 0 (A 9) rfl (fun q hq => by rw [(h9 q hq).1, if_neg (by omega), Nat.add_zero])
  rw [q_upid] at h'
  refine q_Call.of [(0, .ref i), (1, .int (nI x))] rfl ?_
  refine q_X.run sX2_addRows [2] 20 ?_
  simp (maxSteps := 10000000) (disch := omega) only [↓q_run_s, q_stop_n, q_stop_c, q_lg_c, q_ls_d, q_ld_n, q_ld_c, q_cat_i, q_cat_r, q_cat_n, q_wd_n, q_wd_c, q_bx_1, q_bx_2, q_bx_3, q_bx_4, q_bx_5, q_bx_6, q_bx_7, q_bx_8, q_pop_0, q_pop_s, ↓reduceIte, Nat.reduceEqDiff, reduceCtorEq, eq_self, Bool.false_eq_true, Nat.reduceAdd, Nat.reduceSub, Nat.reduceMul, Nat.reduceLeDiff, Nat.reduceLT, Nat.le_refl, Nat.zero_le, true_and, and_true, false_and, and_false, or_false, false_or, true_or, or_true, not_true_eq_false, not_false_eq_true, if_true, if_false, List.getElem?_cons_zero, List.getElem?_cons_succ, List.set_cons_zero, List.set_cons_succ, List.length_cons, List.length_nil, ↓tX2_addRows_0, ↓tX2_addRows_1, ↓tX2_addRows_2, ↓tX2_addRows_3, ↓tX2_addRows_5, ↓tX2_addRows_8, ↓tX2_addRows_9, ↓tX2_addRows_12, ↓tX2_addRows_13, ↓tX2_addRows_14, ↓tX2_addRows_17, ↓tX2_addRows_20, ↓tX2_addRows_21, ↓tX2_addRows_24, ↓tX2_addRows_25, ↓tX2_addRows_26, ↓tX2_addRows_27, ↓tX2_addRows_28, ↓tX2_addRows_29, ↓tX2_addRows_30, ↓tX2_addRows_33, ↓tX2_addRows_36, ↓oAdd, ↓oAl, ↓oCallV, ↓oDup2, ↓oGet, ↓oGo, ↓oIald, ↓oIast, ↓oIf1eq, ↓oIf2ge, ↓oIl, ↓oInc, ↓oIs, ↓oK, ↓oVret, q_set_s, q_set_n, fj_0, fjO_len, q_up_a, me_0, meO_len, fjO_2, fjO_9, fj_a9, fjs_a9, z_clamp, z_ltI, z_leI, z_eqI, z_lt0, z_ge0, z_eq0I, z_gt0I, z_le0I, z_m1lt, z_m1ge, z_m1eq, z_m1eq', z_inT, z_add, z_sub, z_mul, z_div, z_rem, n_ltT, n_ltF, n_leT, n_leF, n_eqT, n_eqF, z_11, q_tl_i, q_tl_n, q_ap_n, q_ap_c]
  refine q_X.lv2 _ ?_ h'
  exact ⟨rfl, rfl, rfl, trivial⟩
set_option maxRecDepth 100000 in
set_option maxHeartbeats 8000000 in
theorem c2_countRows {n : Nat} {l : List Nat} (hO : f_On M0 i X Ac kc lc rc sh Ah sm Am) (hMu : f_Mu (A 3) sm Am μ z) (h8 : s 8 = nI n) (hl : ∀ x, x ∈ l → x < 4937) (hnd : ∀ (j j' x y : Nat), j < j' → l[j]? = some x → l[j']? = some y → ¬ z_eq (e_t x) (e_t y)) (hMet : f_Met (A 7) μ n (fun y => y ∈ l)) (hd : 3 ≤ d) (hQ : ∀ g, (∀ k, k < 40 → g k = nI (e_N l k)) → Q none (q_fj (q_sp M0 (i + X 2 + 9) 4937 B) i X s (va_up A 9 g))) : q_Call G L d mX2_countRows 0 0 [.ref i] (q_fj (q_sp M0 (i + X 2 + 9) 4937 B) i X s A) Q := by
  have hO' := fun s A B => (hO.sp (n := 4937) (B := B)).fi (X := X) (s := s) (A := A)
  have h3 := fun s A B => (hO' s A B).p3
  have hz : z ≤ 1284 := hMu.2.1.1
  have h5 := hMu.1
  have loop : ∀ (g x : Nat) (f : Nat → Int32), g + x = z → (∀ k, k < 40 → f k = nI (f_cn (fun x => ∃ y, y ∈ l ∧ μ y = x ∧ e_hr k y) x)) → q_X G L d mX2_countRows 0 0 Q 24 [(0, .ref i), (1, .int (nI z)), (2, .int (nI x))] [] (q_fj (q_sp M0 (i + X 2 + 9) 4937 B) i X s (va_up A 9 f)) 0 0 := by
    intro g
    induction g with
    | zero =>
      intro x f hx hf
      have e : x = z := by omega
      subst e
      have h' := hQ f fun k hk => by
        rw [hf k hk]
        congr 1
        refine Eq.trans ?_ (f_cn_ct (R := e_hr k) (μ := μ) (l := l) (z := x) (fun y hy => (hMu.2.2 y (hl y hy)).2.1) (fun j j' a b hj ha hb e => hnd j j' a b hj ha hb ((f_Mu_eq hMu (hl a (List.mem_of_getElem? ha)) (hl b (List.mem_of_getElem? hb))).mp e)) l.length (Nat.le_refl _))
        refine f_cn_cg x fun x' _ => ⟨fun ⟨y, y1, y2, y3⟩ => ?_, fun ⟨j, _, y, y1, y2, y3⟩ => ⟨y, List.mem_of_getElem? y1, y2, y3⟩⟩
        obtain ⟨j, hj, e⟩ := List.mem_iff_getElem.mp y1
        exact ⟨j, hj, y, by rw [List.getElem?_eq_getElem hj, e], y2, y3⟩
      refine q_X.run sX2_countRows [] 20 ?_
      simp (maxSteps := 10000000) (disch := omega) only [↓q_run_s, q_stop_n, q_stop_c, q_lg_c, q_ls_d, q_ld_n, q_ld_c, q_cat_i, q_cat_r, q_cat_n, q_wd_n, q_wd_c, q_bx_1, q_bx_2, q_bx_3, q_bx_4, q_bx_5, q_bx_6, q_bx_7, q_bx_8, q_pop_0, q_pop_s, ↓reduceIte, Nat.reduceEqDiff, reduceCtorEq, eq_self, Bool.false_eq_true, Nat.reduceAdd, Nat.reduceSub, Nat.reduceMul, Nat.reduceLeDiff, Nat.reduceLT, Nat.le_refl, Nat.zero_le, true_and, and_true, false_and, and_false, or_false, false_or, true_or, or_true, not_true_eq_false, not_false_eq_true, if_true, if_false, List.getElem?_cons_zero, List.getElem?_cons_succ, List.set_cons_zero, List.set_cons_succ, List.length_cons, List.length_nil, ↓tX2_countRows_0, ↓tX2_countRows_1, ↓tX2_countRows_4, ↓tX2_countRows_5, ↓tX2_countRows_8, ↓tX2_countRows_9, ↓tX2_countRows_12, ↓tX2_countRows_15, ↓tX2_countRows_18, ↓tX2_countRows_21, ↓tX2_countRows_22, ↓tX2_countRows_23, ↓tX2_countRows_24, ↓tX2_countRows_25, ↓tX2_countRows_26, ↓tX2_countRows_29, ↓tX2_countRows_30, ↓tX2_countRows_33, ↓tX2_countRows_34, ↓tX2_countRows_35, ↓tX2_countRows_36, ↓tX2_countRows_39, ↓tX2_countRows_42, ↓tX2_countRows_43, ↓tX2_countRows_44, ↓tX2_countRows_47, ↓tX2_countRows_50, ↓tX2_countRows_53, ↓oAl, ↓oCallS, ↓oCallV, ↓oGet, ↓oGo, ↓oIald, ↓oIf2ge, ↓oIf2ne, ↓oIl, ↓oInc, ↓oIs, ↓oK, ↓oMin, ↓oVret, q_set_s, q_set_n, fj_0, fjO_len, q_up_a, me_0, meO_len, fjO_9, fj_a9, fjO_2, fjO_7, fj_a7, fjO_8, z_clamp, z_ltI, z_leI, z_eqI, z_lt0, z_ge0, z_eq0I, z_gt0I, z_le0I, z_m1lt, z_m1ge, z_m1eq, z_m1eq', z_inT, z_add, z_sub, z_mul, z_div, z_rem, n_ltT, n_ltF, n_leT, n_leF, n_eqT, n_eqF, z_11, q_tl_i, q_tl_n, q_ap_n, q_ap_c]
      exact h'
    | succ g ih =>
      intro x f hx hf
      have hxz : x < z := by omega
      obtain ⟨⟨kk, k1, k2⟩, hm⟩ := hMet x (by omega)
      by_cases c : A 7 x = nI n
      · obtain ⟨y, hy, ey⟩ := hm.mp c
        have hy' := hl y hy
        have hzM : z_M (Am 0) x (e_t y) := ey ▸ (hMu.2.2 y hy').2.2
        refine q_X.run sX2_countRows [] 40 ?_
        simp (maxSteps := 10000000) (disch := omega) only [↓q_run_s, q_stop_n, q_stop_c, q_lg_c, q_ls_d, q_ld_n, q_ld_c, q_cat_i, q_cat_r, q_cat_n, q_wd_n, q_wd_c, q_bx_1, q_bx_2, q_bx_3, q_bx_4, q_bx_5, q_bx_6, q_bx_7, q_bx_8, q_pop_0, q_pop_s, ↓reduceIte, Nat.reduceEqDiff, reduceCtorEq, eq_self, Bool.false_eq_true, Nat.reduceAdd, Nat.reduceSub, Nat.reduceMul, Nat.reduceLeDiff, Nat.reduceLT, Nat.le_refl, Nat.zero_le, true_and, and_true, false_and, and_false, or_false, false_or, true_or, or_true, not_true_eq_false, not_false_eq_true, if_true, if_false, List.getElem?_cons_zero, List.getElem?_cons_succ, List.set_cons_zero, List.set_cons_succ, List.length_cons, List.length_nil, ↓tX2_countRows_0, ↓tX2_countRows_1, ↓tX2_countRows_4, ↓tX2_countRows_5, ↓tX2_countRows_8, ↓tX2_countRows_9, ↓tX2_countRows_12, ↓tX2_countRows_15, ↓tX2_countRows_18, ↓tX2_countRows_21, ↓tX2_countRows_22, ↓tX2_countRows_23, ↓tX2_countRows_24, ↓tX2_countRows_25, ↓tX2_countRows_26, ↓tX2_countRows_29, ↓tX2_countRows_30, ↓tX2_countRows_33, ↓tX2_countRows_34, ↓tX2_countRows_35, ↓tX2_countRows_36, ↓tX2_countRows_39, ↓tX2_countRows_42, ↓tX2_countRows_43, ↓tX2_countRows_44, ↓tX2_countRows_47, ↓tX2_countRows_50, ↓tX2_countRows_53, ↓oAl, ↓oCallS, ↓oCallV, ↓oGet, ↓oGo, ↓oIald, ↓oIf2ge, ↓oIf2ne, ↓oIl, ↓oInc, ↓oIs, ↓oK, ↓oMin, ↓oVret, q_set_s, q_set_n, fj_0, fjO_len, q_up_a, me_0, meO_len, fjO_9, fj_a9, fjO_2, fjO_7, fj_a7, fjO_8, z_clamp, z_ltI, z_leI, z_eqI, z_lt0, z_ge0, z_eq0I, z_gt0I, z_le0I, z_m1lt, z_m1ge, z_m1eq, z_m1eq', z_inT, z_add, z_sub, z_mul, z_div, z_rem, n_ltT, n_ltF, n_leT, n_leF, n_eqT, n_eqF, z_11, q_tl_i, q_tl_n, q_ap_n, q_ap_c, h8, c]
        refine c2_addRows (cnt := fun k => f_cn (fun x => ∃ y, y ∈ l ∧ μ y = x ∧ e_hr k y) x) hO (by omega) hzM (fun k hk => ⟨by rw [va_up_self]; exact hf k hk, by have := f_cn_le (P := fun x => ∃ y, y ∈ l ∧ μ y = x ∧ e_hr k y) x; omega⟩) (by omega) fun f' hf' => ?_
        rw [q_upup]
        have h' := ih (x + 1) f' (by omega) (fun k hk => by
          rw [hf' k hk]
          congr 1
          by_cases ch : e_hr k y
          · rw [f_one_T ch, f_cn_T ⟨y, hy, ey, ch⟩]
          · rw [f_one_F ch, f_cn_F]
            · rfl
            · rintro ⟨y', g1, g2, g3⟩
              exact ch (e_hr_eq ((f_Mu_eq hMu (hl y' g1) hy').mp (g2.trans ey.symm)) g3))
        refine q_X.run sX2_countRows [24] 40 ?_
        simp (maxSteps := 10000000) (disch := omega) only [↓q_run_s, q_stop_n, q_stop_c, q_lg_c, q_ls_d, q_ld_n, q_ld_c, q_cat_i, q_cat_r, q_cat_n, q_wd_n, q_wd_c, q_bx_1, q_bx_2, q_bx_3, q_bx_4, q_bx_5, q_bx_6, q_bx_7, q_bx_8, q_pop_0, q_pop_s, ↓reduceIte, Nat.reduceEqDiff, reduceCtorEq, eq_self, Bool.false_eq_true, Nat.reduceAdd, Nat.reduceSub, Nat.reduceMul, Nat.reduceLeDiff, Nat.reduceLT, Nat.le_refl, Nat.zero_le, true_and, and_true, false_and, and_false, or_false, false_or, true_or, or_true, not_true_eq_false, not_false_eq_true, if_true, if_false, List.getElem?_cons_zero, List.getElem?_cons_succ, List.set_cons_zero, List.set_cons_succ, List.length_cons, List.length_nil, ↓tX2_countRows_0, ↓tX2_countRows_1, ↓tX2_countRows_4, ↓tX2_countRows_5, ↓tX2_countRows_8, ↓tX2_countRows_9, ↓tX2_countRows_12, ↓tX2_countRows_15, ↓tX2_countRows_18, ↓tX2_countRows_21, ↓tX2_countRows_22, ↓tX2_countRows_23, ↓tX2_countRows_24, ↓tX2_countRows_25, ↓tX2_countRows_26, ↓tX2_countRows_29, ↓tX2_countRows_30, ↓tX2_countRows_33, ↓tX2_countRows_34, ↓tX2_countRows_35, ↓tX2_countRows_36, ↓tX2_countRows_39, ↓tX2_countRows_42, ↓tX2_countRows_43, ↓tX2_countRows_44, ↓tX2_countRows_47, ↓tX2_countRows_50, ↓tX2_countRows_53, ↓oAl, ↓oCallS, ↓oCallV, ↓oGet, ↓oGo, ↓oIald, ↓oIf2ge, ↓oIf2ne, ↓oIl, ↓oInc, ↓oIs, ↓oK, ↓oMin, ↓oVret, q_set_s, q_set_n, fj_0, fjO_len, q_up_a, me_0, meO_len, fjO_9, fj_a9, fjO_2, fjO_7, fj_a7, fjO_8, z_clamp, z_ltI, z_leI, z_eqI, z_lt0, z_ge0, z_eq0I, z_gt0I, z_le0I, z_m1lt, z_m1ge, z_m1eq, z_m1eq', z_inT, z_add, z_sub, z_mul, z_div, z_rem, n_ltT, n_ltF, n_leT, n_leF, n_eqT, n_eqF, z_11, q_tl_i, q_tl_n, q_ap_n, q_ap_c]
        refine q_X.lv2 _ ?_ h'
        exact ⟨rfl, rfl, rfl, trivial⟩
      · have h' := ih (x + 1) f (by omega) (fun k hk => by
          rw [hf k hk, f_cn_F]
          rintro ⟨y, g1, g2, g3⟩
          exact c (hm.mpr ⟨y, g1, g2⟩))
        refine q_X.run sX2_countRows [24] 40 ?_
        simp (maxSteps := 10000000) (disch := omega) only [↓q_run_s, q_stop_n, q_stop_c, q_lg_c, q_ls_d, q_ld_n, q_ld_c, q_cat_i, q_cat_r, q_cat_n, q_wd_n, q_wd_c, q_bx_1, q_bx_2, q_bx_3, q_bx_4, q_bx_5, q_bx_6, q_bx_7, q_bx_8, q_pop_0, q_pop_s, ↓reduceIte, Nat.reduceEqDiff, reduceCtorEq, eq_self, Bool.false_eq_true, Nat.reduceAdd, Nat.reduceSub, Nat.reduceMul, Nat.reduceLeDiff, Nat.reduceLT, Nat.le_refl, Nat.zero_le, true_and, and_true, false_and, and_false, or_false, false_or, true_or, or_true, not_true_eq_false, not_false_eq_true, if_true, if_false, List.getElem?_cons_zero, List.getElem?_cons_succ, List.set_cons_zero, List.set_cons_succ, List.length_cons, List.length_nil, ↓tX2_countRows_0, ↓tX2_countRows_1, ↓tX2_countRows_4, ↓tX2_countRows_5, ↓tX2_countRows_8, ↓tX2_countRows_9, ↓tX2_countRows_12, ↓tX2_countRows_15, ↓tX2_countRows_18, ↓tX2_countRows_21, ↓tX2_countRows_22, ↓tX2_countRows_23, ↓tX2_countRows_24, ↓tX2_countRows_25, ↓tX2_countRows_26, ↓tX2_countRows_29, ↓tX2_countRows_30, ↓tX2_countRows_33, ↓tX2_countRows_34, ↓tX2_countRows_35, ↓tX2_countRows_36, ↓tX2_countRows_39, ↓tX2_countRows_42, ↓tX2_countRows_43, ↓tX2_countRows_44, ↓tX2_countRows_47, ↓tX2_countRows_50, ↓tX2_countRows_53, ↓oAl, ↓oCallS, ↓oCallV, ↓oGet, ↓oGo, ↓oIald, ↓oIf2ge, ↓oIf2ne, ↓oIl, ↓oInc, ↓oIs, ↓oK, ↓oMin, ↓oVret, q_set_s, q_set_n, fj_0, fjO_len, q_up_a, me_0, meO_len, fjO_9, fj_a9, fjO_2, fjO_7, fj_a7, fjO_8, z_clamp, z_ltI, z_leI, z_eqI, z_lt0, z_ge0, z_eq0I, z_gt0I, z_le0I, z_m1lt, z_m1ge, z_m1eq, z_m1eq', z_inT, z_add, z_sub, z_mul, z_div, z_rem, n_ltT, n_ltF, n_leT, n_leF, n_eqT, n_eqF, z_11, q_tl_i, q_tl_n, q_ap_n, q_ap_c, h8, c]
        refine q_X.lv2 _ ?_ h'
        exact ⟨rfl, rfl, rfl, trivial⟩
  refine q_Call.of [(0, .ref i)] rfl ?_
  refine q_X.run sX2_countRows [] 20 ?_
  simp (maxSteps := 10000000) (disch := omega) only [↓q_run_s, q_stop_n, q_stop_c, q_lg_c, q_ls_d, q_ld_n, q_ld_c, q_cat_i, q_cat_r, q_cat_n, q_wd_n, q_wd_c, q_bx_1, q_bx_2, q_bx_3, q_bx_4, q_bx_5, q_bx_6, q_bx_7, q_bx_8, q_pop_0, q_pop_s, ↓reduceIte, Nat.reduceEqDiff, reduceCtorEq, eq_self, Bool.false_eq_true, Nat.reduceAdd, Nat.reduceSub, Nat.reduceMul, Nat.reduceLeDiff, Nat.reduceLT, Nat.le_refl, Nat.zero_le, true_and, and_true, false_and, and_false, or_false, false_or, true_or, or_true, not_true_eq_false, not_false_eq_true, if_true, if_false, List.getElem?_cons_zero, List.getElem?_cons_succ, List.set_cons_zero, List.set_cons_succ, List.length_cons, List.length_nil, ↓tX2_countRows_0, ↓tX2_countRows_1, ↓tX2_countRows_4, ↓tX2_countRows_5, ↓tX2_countRows_8, ↓tX2_countRows_9, ↓tX2_countRows_12, ↓tX2_countRows_15, ↓tX2_countRows_18, ↓tX2_countRows_21, ↓tX2_countRows_22, ↓tX2_countRows_23, ↓tX2_countRows_24, ↓tX2_countRows_25, ↓tX2_countRows_26, ↓tX2_countRows_29, ↓tX2_countRows_30, ↓tX2_countRows_33, ↓tX2_countRows_34, ↓tX2_countRows_35, ↓tX2_countRows_36, ↓tX2_countRows_39, ↓tX2_countRows_42, ↓tX2_countRows_43, ↓tX2_countRows_44, ↓tX2_countRows_47, ↓tX2_countRows_50, ↓tX2_countRows_53, ↓oAl, ↓oCallS, ↓oCallV, ↓oGet, ↓oGo, ↓oIald, ↓oIf2ge, ↓oIf2ne, ↓oIl, ↓oInc, ↓oIs, ↓oK, ↓oMin, ↓oVret, q_set_s, q_set_n, fj_0, fjO_len, q_up_a, me_0, meO_len, fjO_9, fj_a9, fjO_2, fjO_7, fj_a7, fjO_8, z_clamp, z_ltI, z_leI, z_eqI, z_lt0, z_ge0, z_eq0I, z_gt0I, z_le0I, z_m1lt, z_m1ge, z_m1eq, z_m1eq', z_inT, z_add, z_sub, z_mul, z_div, z_rem, n_ltT, n_ltF, n_leT, n_leF, n_eqT, n_eqF, z_11, q_tl_i, q_tl_n, q_ap_n, q_ap_c]
  refine cJ_fill (by decide) fj_a9 fun g0 hg0 => ?_
  rw [fjs_a9]
  have h' := loop z 0 g0 (by omega) (fun k hk => hg0 k hk)
  refine q_X.run sX2_countRows [] 20 ?_
  simp (maxSteps := 10000000) (disch := omega) only [↓q_run_s, q_stop_n, q_stop_c, q_lg_c, q_ls_d, q_ld_n, q_ld_c, q_cat_i, q_cat_r, q_cat_n, q_wd_n, q_wd_c, q_bx_1, q_bx_2, q_bx_3, q_bx_4, q_bx_5, q_bx_6, q_bx_7, q_bx_8, q_pop_0, q_pop_s, ↓reduceIte, Nat.reduceEqDiff, reduceCtorEq, eq_self, Bool.false_eq_true, Nat.reduceAdd, Nat.reduceSub, Nat.reduceMul, Nat.reduceLeDiff, Nat.reduceLT, Nat.le_refl, Nat.zero_le, true_and, and_true, false_and, and_false, or_false, false_or, true_or, or_true, not_true_eq_false, not_false_eq_true, if_true, if_false, List.getElem?_cons_zero, List.getElem?_cons_succ, List.set_cons_zero, List.set_cons_succ, List.length_cons, List.length_nil, ↓tX2_countRows_0, ↓tX2_countRows_1, ↓tX2_countRows_4, ↓tX2_countRows_5, ↓tX2_countRows_8, ↓tX2_countRows_9, ↓tX2_countRows_12, ↓tX2_countRows_15, ↓tX2_countRows_18, ↓tX2_countRows_21, ↓tX2_countRows_22, ↓tX2_countRows_23, ↓tX2_countRows_24, ↓tX2_countRows_25, ↓tX2_countRows_26, ↓tX2_countRows_29, ↓tX2_countRows_30, ↓tX2_countRows_33, ↓tX2_countRows_34, ↓tX2_countRows_35, ↓tX2_countRows_36, ↓tX2_countRows_39, ↓tX2_countRows_42, ↓tX2_countRows_43, ↓tX2_countRows_44, ↓tX2_countRows_47, ↓tX2_countRows_50, ↓tX2_countRows_53, ↓oAl, ↓oCallS, ↓oCallV, ↓oGet, ↓oGo, ↓oIald, ↓oIf2ge, ↓oIf2ne, ↓oIl, ↓oInc, ↓oIs, ↓oK, ↓oMin, ↓oVret, q_set_s, q_set_n, fj_0, fjO_len, q_up_a, me_0, meO_len, fjO_9, fj_a9, fjO_2, fjO_7, fj_a7, fjO_8, z_clamp, z_ltI, z_leI, z_eqI, z_lt0, z_ge0, z_eq0I, z_gt0I, z_le0I, z_m1lt, z_m1ge, z_m1eq, z_m1eq', z_inT, z_add, z_sub, z_mul, z_div, z_rem, n_ltT, n_ltF, n_leT, n_leF, n_eqT, n_eqF, z_11, q_tl_i, q_tl_n, q_ap_n, q_ap_c, h3]
  refine d3_size (hO' _ _ _).2.2.2.1 ?_
  refine q_X.run sX2_countRows [24] 20 ?_
  simp (maxSteps := 10000000) (disch := omega) only [↓q_run_s, q_stop_n, q_stop_c, q_lg_c, q_ls_d, q_ld_n, q_ld_c, q_cat_i, q_cat_r, q_cat_n, q_wd_n, q_wd_c, q_bx_1, q_bx_2, q_bx_3, q_bx_4, q_bx_5, q_bx_6, q_bx_7, q_bx_8, q_pop_0, q_pop_s, ↓reduceIte, Nat.reduceEqDiff, reduceCtorEq, eq_self, Bool.false_eq_true, Nat.reduceAdd, Nat.reduceSub, Nat.reduceMul, Nat.reduceLeDiff, Nat.reduceLT, Nat.le_refl, Nat.zero_le, true_and, and_true, false_and, and_false, or_false, false_or, true_or, or_true, not_true_eq_false, not_false_eq_true, if_true, if_false, List.getElem?_cons_zero, List.getElem?_cons_succ, List.set_cons_zero, List.set_cons_succ, List.length_cons, List.length_nil, ↓tX2_countRows_0, ↓tX2_countRows_1, ↓tX2_countRows_4, ↓tX2_countRows_5, ↓tX2_countRows_8, ↓tX2_countRows_9, ↓tX2_countRows_12, ↓tX2_countRows_15, ↓tX2_countRows_18, ↓tX2_countRows_21, ↓tX2_countRows_22, ↓tX2_countRows_23, ↓tX2_countRows_24, ↓tX2_countRows_25, ↓tX2_countRows_26, ↓tX2_countRows_29, ↓tX2_countRows_30, ↓tX2_countRows_33, ↓tX2_countRows_34, ↓tX2_countRows_35, ↓tX2_countRows_36, ↓tX2_countRows_39, ↓tX2_countRows_42, ↓tX2_countRows_43, ↓tX2_countRows_44, ↓tX2_countRows_47, ↓tX2_countRows_50, ↓tX2_countRows_53, ↓oAl, ↓oCallS, ↓oCallV, ↓oGet, ↓oGo, ↓oIald, ↓oIf2ge, ↓oIf2ne, ↓oIl, ↓oInc, ↓oIs, ↓oK, ↓oMin, ↓oVret, q_set_s, q_set_n, fj_0, fjO_len, q_up_a, me_0, meO_len, fjO_9, fj_a9, fjO_2, fjO_7, fj_a7, fjO_8, z_clamp, z_ltI, z_leI, z_eqI, z_lt0, z_ge0, z_eq0I, z_gt0I, z_le0I, z_m1lt, z_m1ge, z_m1eq, z_m1eq', z_inT, z_add, z_sub, z_mul, z_div, z_rem, n_ltT, n_ltF, n_leT, n_leF, n_eqT, n_eqF, z_11, q_tl_i, q_tl_n, q_ap_n, q_ap_c, h5]
  refine q_X.lv2 _ ?_ h'
  exact ⟨rfl, rfl, rfl, trivial⟩
end
