/-! the class: Finder, what it rests on, leaves -/
theorem shE_none {i : Nat} {s : Nat → Int32} {A : Nat → Nat → Int32} {q : Nat} (h : 5 ≤ q) : shE i s A q = none := by
  obtain ⟨q, rfl⟩ : ∃ k, q = k + 5 := ⟨q - 5, by omega⟩
  rfl
theorem meE_none {i : Nat} {s : Nat → Int32} {A : Nat → Nat → Int32} {q : Nat} (h : 6 ≤ q) : meE i s A q = none := by
  obtain ⟨q, rfl⟩ : ∃ k, q = k + 6 := ⟨q - 6, by omega⟩
  rfl
def f_On (M : qM) (i : Nat) (X : Nat → Nat) (Ac : Nat → Nat → Int32) (kc lc rc : Nat → Int32) (sh : Nat → Int32) (Ah : Nat → Nat → Int32) (sm : Nat → Int32) (Am : Nat → Nat → Int32) : Prop := q_ca M (X 0) Ac = M ∧ q_isN M (X 0 + 1) 4937 kc lc rc 4937 ∧ q_sh M (X 1) sh Ah = M ∧ q_me M (i + X 2 + 1) sm Am = M ∧ (X 0 + 9 ≤ i ∨ i < X 0 ∧ X 0 + 9 ≤ i + X 2 + 1) ∧ X 1 + 5 ≤ i
section
variable {M : qM} {i : Nat} {Ac : Nat → Nat → Int32} {kc lc rc : Nat → Int32} {sh : Nat → Int32} {Ah : Nat → Nat → Int32} {sm : Nat → Int32} {Am : Nat → Nat → Int32} {X : Nat → Nat} {s : Nat → Int32} {A : Nat → Nat → Int32} {B : Nat → Nat → Int64} {n : Nat}
theorem f_On.fi (h : f_On M i X Ac kc lc rc sh Ah sm Am) : f_On (q_fj M i X s A) i X Ac kc lc rc sh Ah sm Am := by
  obtain ⟨h1, h2, h3, h4, h5, h6⟩ := h
  refine ⟨q_og_keep h1 fun x g1 g2 => ?_, h2.og fun q hq => ?_, q_og_keep h3 fun x g1 g2 => Or.inr (shE_none (by omega)), q_og_keep h4 fun x g1 g2 => ?_, h5, h6⟩
  · by_cases c : X 0 + 9 ≤ x
    · exact Or.inr (caE_none (by omega))
    · exact Or.inl (fjE_none (by omega) (by omega))
  · by_cases c : X 0 + 9 ≤ i
    · exact Or.inl (by omega)
    · exact Or.inr (fjE_none (by omega) (by omega))
  · by_cases c : x < i + X 2 + 7
    · exact Or.inl (fjE_none (by omega) (by omega))
    · exact Or.inr (meE_none (by omega))
theorem f_On.sp (h : f_On M i X Ac kc lc rc sh Ah sm Am) : f_On (q_sp M (i + X 2 + 9) n B) i X Ac kc lc rc sh Ah sm Am := by
  obtain ⟨h1, h2, h3, h4, h5, h6⟩ := h
  exact ⟨q_og_keep h1 fun x g1 g2 => Or.inr (caE_none (by omega)), h2.og fun q hq => Or.inl (by omega), q_og_keep h3 fun x g1 g2 => Or.inr (shE_none (by omega)), q_og_keep h4 fun x g1 g2 => Or.inr (meE_none (by omega)), h5, h6⟩
theorem f_On.p1 (h : f_On M i X Ac kc lc rc sh Ah sm Am) : M.2 (X 0) = some (.inr (1, caO (X 0))) := by rw [← h.1]; exact ca_0
theorem f_On.p7 (h : f_On M i X Ac kc lc rc sh Ah sm Am) : M.2 (X 1) = some (.inr (7, shO (X 1) sh)) := by rw [← h.2.2.1]; exact sh_0
theorem f_On.p3 (h : f_On M i X Ac kc lc rc sh Ah sm Am) : M.2 (i + X 2 + 1) = some (.inr (3, meO (i + X 2 + 1) sm)) := by rw [← h.2.2.2.1]; exact me_0
theorem fj_sp {M0 : qM} : q_fj (q_sp M0 (i + X 2 + 9) n B) i X s A = q_sp (q_fj M0 i X s A) (i + X 2 + 9) n B := q_og_comm fun a g1 g2 => by
  by_cases c : a < i + X 2 + 12
  · exact Or.inr (fjE_none (by omega) (by omega))
  · exact Or.inl (spE_none (by omega))
end
/-- with which of the first J showings each pattern agrees -/
def f_Ag (A : Nat → Nat → Int32) (D : Nat → yD) (J : Nat) : Prop := ∀ p, p < 4937 → ∃ a, A 4 p = nI a ∧ a < 1048576 ∧ ∀ j, a.testBit j = true ↔ j < J ∧ y_ag (e_t p) (D j)
def f_V (S tb : Nat) (D : Nat → yD) (p V : Nat) : Prop := V < 1048576 ∧ ∀ j, V.testBit j = true ↔ j < S ∧ tb.testBit j = false ∧ ¬ y_ag (e_t p) (D j)
theorem f_V_0 {S tb p V : Nat} {D : Nat → yD} (h : f_V S tb D p V) : V = 0 ↔ y_all (e_t p) D (fun j => tb.testBit j) S := by
  constructor
  · intro e j hj hb
    apply Classical.byContradiction
    intro hn
    have := (h.2 j).mpr ⟨hj, hb, hn⟩
    rw [e, Nat.zero_testBit] at this
    cases this
  · intro hy
    apply Nat.eq_of_testBit_eq
    intro j
    rw [Nat.zero_testBit]
    apply Bool.eq_false_iff.mpr
    intro hb
    obtain ⟨h1, h2, h3⟩ := (h.2 j).mp hb
    exact h3 (hy j h1 h2)
theorem f_V_sum {S tb p V : Nat} {D : Nat → yD} (h : f_V S tb D p V) : ∀ n, n ≤ S → x_sum (fun j => (D j).2.2.2.2) V n = q_sum (y_pay (e_t p) D (fun j => tb.testBit j)) n
  | 0, _ => rfl
  | n + 1, hn => by
    have ih := f_V_sum h n (by omega)
    show _ = q_sum (y_pay (e_t p) D (fun j => tb.testBit j)) n + y_pay (e_t p) D (fun j => tb.testBit j) n
    rw [← ih]
    by_cases c : V.testBit n = true
    · obtain ⟨-, h2, h3⟩ := (h.2 n).mp c
      rw [x_sum_T c, y_pay_p]
      rintro (g | g)
      · rw [h2] at g; cases g
      · exact h3 g
    · rw [x_sum_F c, y_pay_0, Nat.add_zero]
      apply Classical.byContradiction
      intro g
      exact c ((h.2 n).mpr ⟨by omega, Bool.eq_false_iff.mpr fun g' => g (Or.inl g'), fun g' => g (Or.inr g')⟩)
section
variable {G : qC} {L : Launch} {d : Nat} {Q : Option Value → qM → Prop} {M : qM} {M0 : qM} {i : Nat} {X : Nat → Nat} {s : Nat → Int32} {A : Nat → Nat → Int32} {B : Nat → Nat → Int64} {Ac : Nat → Nat → Int32} {kc lc rc : Nat → Int32} {sh : Nat → Int32} {Ah : Nat → Nat → Int32} {sm : Nat → Int32} {Am : Nat → Nat → Int32} {S tb : Nat} {D : Nat → yD}
theorem d7_size {i : Nat} (hM : q_sh M i sh Ah = M) (hQ : Q (some (.int (sh 4))) M) : q_Call G L d mX7_size 0 0 [.ref i] M Q := by
  have h := c7_size (G := G) (L := L) (d := d) (Q := Q) (M0 := M) (i := i) (s := sh) (A := Ah)
  rw [hM] at h
  exact h hQ
theorem d7_rowOf {i k sz : Nat} (hM : q_sh M i sh Ah = M) (h4 : sh 4 = nI sz) (hs : sz ≤ 20) (hk : k < sz) (hd : 1 ≤ d) (hQ : Q (some (.int (Ah 0 k))) M) : q_Call G L d mX7_rowOf 0 0 [.ref i, .int (nI k)] M Q := by
  have h := c7_rowOf (G := G) (L := L) (d := d) (Q := Q) (M0 := M) (i := i) (s := sh) (A := Ah) h4 hs hk hd
  rw [hM] at h
  exact h hQ
theorem d7_standing {i sz tb : Nat} (hM : q_sh M i sh Ah = M) (h4 : sh 4 = nI sz) (h5 : sh 5 = nI tb) (hs : sz ≤ 20) (hQ : Q (some (.int (nI (x_st sz tb)))) M) : q_Call G L d mX7_standing 0 0 [.ref i] M Q := by
  have h := c7_standing (G := G) (L := L) (d := d) (Q := Q) (M0 := M) (i := i) (s := sh) (A := Ah) h4 h5 hs
  rw [hM] at h
  exact h hQ
theorem d7_priceOf {i sz S : Nat} {p : Nat → Nat} (hM : q_sh M i sh Ah = M) (h4 : sh 4 = nI sz) (hs : sz ≤ 20) (hS : S < 1048576) (hp : ∀ j, j < sz → Ah 3 j = nI (p j) ∧ p j ≤ 99) (hQ : Q (some (.int (nI (x_sum p S sz)))) M) : q_Call G L d mX7_priceOf 0 0 [.ref i, .int (nI S)] M Q := by
  have h := c7_priceOf (G := G) (L := L) (d := d) (Q := Q) (M0 := M) (i := i) (s := sh) (A := Ah) h4 hs hS hp
  rw [hM] at h
  exact h hQ
theorem d7_isSo {t : qT} {i j X : Nat} (hM : q_sh M i sh Ah = M) (hS : w_Shw sh Ah S D tb) (hj : j < S) (hX : s_W (D j).1 X (y_sp t (D j))) (hd : 2 ≤ d) (hT : y_ag t (D j) → Q (some (.int (nI 1))) M) (hF : ¬ y_ag t (D j) → Q (some (.int (nI 0))) M) : q_Call G L d mX7_isSo 0 0 [.ref i, .int (nI j), .long (nL X)] M Q := by
  have h := c7_isSo (G := G) (L := L) (d := d) (Q := Q) (M0 := M) (i := i) (s := sh) (A := Ah) hS hj hX hd
  rw [hM] at h
  exact h hT hF
set_option maxRecDepth 100000 in
set_option maxHeartbeats 8000000 in
theorem c3_size {i : Nat} (hQ : Q (some (.int (s 5))) (q_me M0 i s A)) : q_Call G L d mX3_size 0 0 [.ref i] (q_me M0 i s A) Q := by
  refine q_Call.of [(0, .ref i)] rfl ?_
  refine q_X.run sX3_size [] 20 ?_
  simp (maxSteps := 10000000) (disch := omega) only [↓q_run_s, q_stop_n, q_stop_c, q_lg_c, q_ls_d, q_ld_n, q_ld_c, q_cat_i, q_cat_r, q_cat_n, q_wd_n, q_wd_c, q_bx_1, q_bx_2, q_bx_3, q_bx_4, q_bx_5, q_bx_6, q_bx_7, q_bx_8, q_pop_0, q_pop_s, ↓reduceIte, Nat.reduceEqDiff, reduceCtorEq, eq_self, Bool.false_eq_true, Nat.reduceAdd, Nat.reduceSub, Nat.reduceMul, Nat.reduceLeDiff, Nat.reduceLT, Nat.le_refl, Nat.zero_le, true_and, and_true, false_and, and_false, or_false, false_or, true_or, or_true, not_true_eq_false, not_false_eq_true, if_true, if_false, List.getElem?_cons_zero, List.getElem?_cons_succ, List.set_cons_zero, List.set_cons_succ, List.length_cons, List.length_nil, ↓tX3_size_0, ↓tX3_size_1, ↓tX3_size_4, ↓oAl, ↓oGet, ↓oIret, q_set_s, q_set_n, me_0, meO_len, q_up_a, meO_5, z_clamp, z_ltI, z_leI, z_eqI, z_lt0, z_ge0, z_eq0I, z_gt0I, z_le0I, z_m1lt, z_m1ge, z_m1eq, z_m1eq', z_inT, z_add, z_sub, z_mul, z_div, z_rem, n_ltT, n_ltF, n_leT, n_leF, n_eqT, n_eqF, z_11, q_tl_i, q_tl_n, q_ap_n, q_ap_c]
  exact hQ
theorem d3_size {i : Nat} (hM : q_me M i sm Am = M) (hQ : Q (some (.int (sm 5))) M) : q_Call G L d mX3_size 0 0 [.ref i] M Q := by
  have h := c3_size (G := G) (L := L) (d := d) (Q := Q) (M0 := M) (i := i) (s := sm) (A := Am)
  rw [hM] at h
  exact h hQ
theorem d3_hasRow {i m k n v : Nat} {t : qT} (hMe : q_me M i sm Am = M) (hm : m < 1284) (hM : z_M (Am 0) m t) (hn : n ≤ 3) (hv : v < 3 ^ n) (hk : k = (if n < 3 then z_b n v else 13 + v)) (hd : 1 ≤ d) (hT : z_S t n v → Q (some (.int (nI 1))) M) (hF : ¬ z_S t n v → Q (some (.int (nI 0))) M) : q_Call G L d mX3_hasRow 0 0 [.ref i, .int (nI m), .int (nI k)] M Q := by
  have h := c3_hasRow (G := G) (L := L) (d := d) (Q := Q) (M0 := M) (i := i) (s := sm) (A := Am) hm hM hn hv hk hd
  rw [hMe] at h
  exact h hT hF
set_option maxRecDepth 100000 in
set_option maxHeartbeats 8000000 in
theorem c2_meaningAt {p : Nat} (hp : p < 4937) (hQ : Q (some (.int (A 3 p))) (q_fj (q_sp M0 (i + X 2 + 9) 4937 B) i X s A)) : q_Call G L d mX2_meaningAt 0 0 [.ref i, .int (nI p)] (q_fj (q_sp M0 (i + X 2 + 9) 4937 B) i X s A) Q := by
  refine q_Call.of [(0, .ref i), (1, .int (nI p))] rfl ?_
  refine q_X.run sX2_meaningAt [] 30 ?_
  simp (maxSteps := 10000000) (disch := omega) only [↓q_run_s, q_stop_n, q_stop_c, q_lg_c, q_ls_d, q_ld_n, q_ld_c, q_cat_i, q_cat_r, q_cat_n, q_wd_n, q_wd_c, q_bx_1, q_bx_2, q_bx_3, q_bx_4, q_bx_5, q_bx_6, q_bx_7, q_bx_8, q_pop_0, q_pop_s, ↓reduceIte, Nat.reduceEqDiff, reduceCtorEq, eq_self, Bool.false_eq_true, Nat.reduceAdd, Nat.reduceSub, Nat.reduceMul, Nat.reduceLeDiff, Nat.reduceLT, Nat.le_refl, Nat.zero_le, true_and, and_true, false_and, and_false, or_false, false_or, true_or, or_true, not_true_eq_false, not_false_eq_true, if_true, if_false, List.getElem?_cons_zero, List.getElem?_cons_succ, List.set_cons_zero, List.set_cons_succ, List.length_cons, List.length_nil, ↓tX2_meaningAt_0, ↓tX2_meaningAt_1, ↓tX2_meaningAt_4, ↓tX2_meaningAt_5, ↓tX2_meaningAt_6, ↓tX2_meaningAt_9, ↓tX2_meaningAt_10, ↓tX2_meaningAt_13, ↓tX2_meaningAt_14, ↓tX2_meaningAt_17, ↓tX2_meaningAt_18, ↓tX2_meaningAt_19, ↓tX2_meaningAt_22, ↓tX2_meaningAt_23, ↓oAl, ↓oAlen, ↓oGet, ↓oGo, ↓oIald, ↓oIf1lt, ↓oIf2ge, ↓oIl, ↓oIret, ↓oK, q_set_s, q_set_n, fj_0, fjO_len, q_up_a, fjO_3, fj_a3, z_clamp, z_ltI, z_leI, z_eqI, z_lt0, z_ge0, z_eq0I, z_gt0I, z_le0I, z_m1lt, z_m1ge, z_m1eq, z_m1eq', z_inT, z_add, z_sub, z_mul, z_div, z_rem, n_ltT, n_ltF, n_leT, n_leF, n_eqT, n_eqF, z_11, q_tl_i, q_tl_n, q_ap_n, q_ap_c]
  exact hQ
set_option maxRecDepth 100000 in
set_option maxHeartbeats 8000000 in
theorem c2_foundSoFar (hQ : Q (some (.int (s 16))) (q_fj (q_sp M0 (i + X 2 + 9) 4937 B) i X s A)) : q_Call G L d mX2_foundSoFar 0 0 [.ref i] (q_fj (q_sp M0 (i + X 2 + 9) 4937 B) i X s A) Q := by
  refine q_Call.of [(0, .ref i)] rfl ?_
  refine q_X.run sX2_foundSoFar [] 30 ?_
  simp (maxSteps := 10000000) (disch := omega) only [↓q_run_s, q_stop_n, q_stop_c, q_lg_c, q_ls_d, q_ld_n, q_ld_c, q_cat_i, q_cat_r, q_cat_n, q_wd_n, q_wd_c, q_bx_1, q_bx_2, q_bx_3, q_bx_4, q_bx_5, q_bx_6, q_bx_7, q_bx_8, q_pop_0, q_pop_s, ↓reduceIte, Nat.reduceEqDiff, reduceCtorEq, eq_self, Bool.false_eq_true, Nat.reduceAdd, Nat.reduceSub, Nat.reduceMul, Nat.reduceLeDiff, Nat.reduceLT, Nat.le_refl, Nat.zero_le, true_and, and_true, false_and, and_false, or_false, false_or, true_or, or_true, not_true_eq_false, not_false_eq_true, if_true, if_false, List.getElem?_cons_zero, List.getElem?_cons_succ, List.set_cons_zero, List.set_cons_succ, List.length_cons, List.length_nil, ↓tX2_foundSoFar_0, ↓tX2_foundSoFar_1, ↓tX2_foundSoFar_4, ↓oAl, ↓oGet, ↓oIret, q_set_s, q_set_n, fj_0, fjO_len, q_up_a, fjO_16, z_clamp, z_ltI, z_leI, z_eqI, z_lt0, z_ge0, z_eq0I, z_gt0I, z_le0I, z_m1lt, z_m1ge, z_m1eq, z_m1eq', z_inT, z_add, z_sub, z_mul, z_div, z_rem, n_ltT, n_ltF, n_leT, n_leF, n_eqT, n_eqF, z_11, q_tl_i, q_tl_n, q_ap_n, q_ap_c]
  exact hQ
set_option maxRecDepth 100000 in
set_option maxHeartbeats 8000000 in
theorem c2_haveAskedRow (hQ : Q (some (.int (s 10))) (q_fj (q_sp M0 (i + X 2 + 9) 4937 B) i X s A)) : q_Call G L d mX2_haveAskedRow 0 0 [.ref i] (q_fj (q_sp M0 (i + X 2 + 9) 4937 B) i X s A) Q := by
  refine q_Call.of [(0, .ref i)] rfl ?_
  refine q_X.run sX2_haveAskedRow [] 30 ?_
  simp (maxSteps := 10000000) (disch := omega) only [↓q_run_s, q_stop_n, q_stop_c, q_lg_c, q_ls_d, q_ld_n, q_ld_c, q_cat_i, q_cat_r, q_cat_n, q_wd_n, q_wd_c, q_bx_1, q_bx_2, q_bx_3, q_bx_4, q_bx_5, q_bx_6, q_bx_7, q_bx_8, q_pop_0, q_pop_s, ↓reduceIte, Nat.reduceEqDiff, reduceCtorEq, eq_self, Bool.false_eq_true, Nat.reduceAdd, Nat.reduceSub, Nat.reduceMul, Nat.reduceLeDiff, Nat.reduceLT, Nat.le_refl, Nat.zero_le, true_and, and_true, false_and, and_false, or_false, false_or, true_or, or_true, not_true_eq_false, not_false_eq_true, if_true, if_false, List.getElem?_cons_zero, List.getElem?_cons_succ, List.set_cons_zero, List.set_cons_succ, List.length_cons, List.length_nil, ↓tX2_haveAskedRow_0, ↓tX2_haveAskedRow_1, ↓tX2_haveAskedRow_4, ↓oAl, ↓oGet, ↓oIret, q_set_s, q_set_n, fj_0, fjO_len, q_up_a, fjO_10, z_clamp, z_ltI, z_leI, z_eqI, z_lt0, z_ge0, z_eq0I, z_gt0I, z_le0I, z_m1lt, z_m1ge, z_m1eq, z_m1eq', z_inT, z_add, z_sub, z_mul, z_div, z_rem, n_ltT, n_ltF, n_leT, n_leF, n_eqT, n_eqF, z_11, q_tl_i, q_tl_n, q_ap_n, q_ap_c]
  exact hQ
set_option maxRecDepth 100000 in
set_option maxHeartbeats 8000000 in
theorem c2_hasBegun {n : Nat} (h12 : s 12 = nI n) (hn : n < 2147483648) (hT : 0 < n → Q (some (.int (nI 1))) (q_fj (q_sp M0 (i + X 2 + 9) 4937 B) i X s A)) (hF : n = 0 → Q (some (.int (nI 0))) (q_fj (q_sp M0 (i + X 2 + 9) 4937 B) i X s A)) : q_Call G L d mX2_hasBegun 0 0 [.ref i] (q_fj (q_sp M0 (i + X 2 + 9) 4937 B) i X s A) Q := by
  refine q_Call.of [(0, .ref i)] rfl ?_
  by_cases c : n = 0
  · have h' := hF c
    subst c
    refine q_X.run sX2_hasBegun [] 30 ?_
    simp (maxSteps := 10000000) (disch := omega) only [↓q_run_s, q_stop_n, q_stop_c, q_lg_c, q_ls_d, q_ld_n, q_ld_c, q_cat_i, q_cat_r, q_cat_n, q_wd_n, q_wd_c, q_bx_1, q_bx_2, q_bx_3, q_bx_4, q_bx_5, q_bx_6, q_bx_7, q_bx_8, q_pop_0, q_pop_s, ↓reduceIte, Nat.reduceEqDiff, reduceCtorEq, eq_self, Bool.false_eq_true, Nat.reduceAdd, Nat.reduceSub, Nat.reduceMul, Nat.reduceLeDiff, Nat.reduceLT, Nat.le_refl, Nat.zero_le, true_and, and_true, false_and, and_false, or_false, false_or, true_or, or_true, not_true_eq_false, not_false_eq_true, if_true, if_false, List.getElem?_cons_zero, List.getElem?_cons_succ, List.set_cons_zero, List.set_cons_succ, List.length_cons, List.length_nil, ↓tX2_hasBegun_0, ↓tX2_hasBegun_1, ↓tX2_hasBegun_4, ↓tX2_hasBegun_7, ↓tX2_hasBegun_8, ↓tX2_hasBegun_11, ↓tX2_hasBegun_12, ↓oAl, ↓oGet, ↓oGo, ↓oIf1le, ↓oK, ↓oZret, q_set_s, q_set_n, fj_0, fjO_len, q_up_a, fjO_12, z_clamp, z_ltI, z_leI, z_eqI, z_lt0, z_ge0, z_eq0I, z_gt0I, z_le0I, z_m1lt, z_m1ge, z_m1eq, z_m1eq', z_inT, z_add, z_sub, z_mul, z_div, z_rem, n_ltT, n_ltF, n_leT, n_leF, n_eqT, n_eqF, z_11, q_tl_i, q_tl_n, q_ap_n, q_ap_c, h12]
    exact h'
  · have h' := hT (by omega)
    refine q_X.run sX2_hasBegun [] 30 ?_
    simp (maxSteps := 10000000) (disch := omega) only [↓q_run_s, q_stop_n, q_stop_c, q_lg_c, q_ls_d, q_ld_n, q_ld_c, q_cat_i, q_cat_r, q_cat_n, q_wd_n, q_wd_c, q_bx_1, q_bx_2, q_bx_3, q_bx_4, q_bx_5, q_bx_6, q_bx_7, q_bx_8, q_pop_0, q_pop_s, ↓reduceIte, Nat.reduceEqDiff, reduceCtorEq, eq_self, Bool.false_eq_true, Nat.reduceAdd, Nat.reduceSub, Nat.reduceMul, Nat.reduceLeDiff, Nat.reduceLT, Nat.le_refl, Nat.zero_le, true_and, and_true, false_and, and_false, or_false, false_or, true_or, or_true, not_true_eq_false, not_false_eq_true, if_true, if_false, List.getElem?_cons_zero, List.getElem?_cons_succ, List.set_cons_zero, List.set_cons_succ, List.length_cons, List.length_nil, ↓tX2_hasBegun_0, ↓tX2_hasBegun_1, ↓tX2_hasBegun_4, ↓tX2_hasBegun_7, ↓tX2_hasBegun_8, ↓tX2_hasBegun_11, ↓tX2_hasBegun_12, ↓oAl, ↓oGet, ↓oGo, ↓oIf1le, ↓oK, ↓oZret, q_set_s, q_set_n, fj_0, fjO_len, q_up_a, fjO_12, z_clamp, z_ltI, z_leI, z_eqI, z_lt0, z_ge0, z_eq0I, z_gt0I, z_le0I, z_m1lt, z_m1ge, z_m1eq, z_m1eq', z_inT, z_add, z_sub, z_mul, z_div, z_rem, n_ltT, n_ltF, n_leT, n_leF, n_eqT, n_eqF, z_11, q_tl_i, q_tl_n, q_ap_n, q_ap_c, h12]
    exact h'
set_option maxRecDepth 100000 in
set_option maxHeartbeats 8000000 in
theorem c2_isNew7 {m : Nat} {t : Int32} (hm : m < 1284) (hT : A 7 m ≠ t → Q (some (.int (nI 1))) (q_fj (q_sp M0 (i + X 2 + 9) 4937 B) i X s (va_up A 7 (upd (A 7) m t)))) (hF : A 7 m = t → Q (some (.int (nI 0))) (q_fj (q_sp M0 (i + X 2 + 9) 4937 B) i X s A)) : q_Call G L d mX2_isNew 0 0 [.ref (i + X 2 + 12), .int (nI m), .int t] (q_fj (q_sp M0 (i + X 2 + 9) 4937 B) i X s A) Q := by
  refine q_Call.of [(0, .ref (i + X 2 + 12)), (1, .int (nI m)), (2, .int t)] rfl ?_
  by_cases c : A 7 m = t
  · have h' := hF c
    refine q_X.run sX2_isNew [] 30 ?_
    simp (maxSteps := 10000000) (disch := omega) only [↓q_run_s, q_stop_n, q_stop_c, q_lg_c, q_ls_d, q_ld_n, q_ld_c, q_cat_i, q_cat_r, q_cat_n, q_wd_n, q_wd_c, q_bx_1, q_bx_2, q_bx_3, q_bx_4, q_bx_5, q_bx_6, q_bx_7, q_bx_8, q_pop_0, q_pop_s, ↓reduceIte, Nat.reduceEqDiff, reduceCtorEq, eq_self, Bool.false_eq_true, Nat.reduceAdd, Nat.reduceSub, Nat.reduceMul, Nat.reduceLeDiff, Nat.reduceLT, Nat.le_refl, Nat.zero_le, true_and, and_true, false_and, and_false, or_false, false_or, true_or, or_true, not_true_eq_false, not_false_eq_true, if_true, if_false, List.getElem?_cons_zero, List.getElem?_cons_succ, List.set_cons_zero, List.set_cons_succ, List.length_cons, List.length_nil, ↓tX2_isNew_0, ↓tX2_isNew_1, ↓tX2_isNew_4, ↓tX2_isNew_5, ↓tX2_isNew_6, ↓tX2_isNew_7, ↓tX2_isNew_10, ↓tX2_isNew_11, ↓tX2_isNew_12, ↓tX2_isNew_13, ↓tX2_isNew_14, ↓tX2_isNew_17, ↓tX2_isNew_18, ↓tX2_isNew_19, ↓tX2_isNew_20, ↓tX2_isNew_21, ↓tX2_isNew_22, ↓tX2_isNew_23, ↓tX2_isNew_24, ↓oAl, ↓oAlen, ↓oIald, ↓oIast, ↓oIf1lt, ↓oIf2ge, ↓oIf2ne, ↓oIl, ↓oK, ↓oZret, q_set_s, q_set_n, z_clamp, z_ltI, z_leI, z_eqI, z_lt0, z_ge0, z_eq0I, z_gt0I, z_le0I, z_m1lt, z_m1ge, z_m1eq, z_m1eq', z_inT, z_add, z_sub, z_mul, z_div, z_rem, n_ltT, n_ltF, n_leT, n_leF, n_eqT, n_eqF, z_11, q_tl_i, q_tl_n, q_ap_n, q_ap_c, c, fj_a7, fjs_a7]
    exact h'
  · have h' := hT c
    refine q_X.run sX2_isNew [] 30 ?_
    simp (maxSteps := 10000000) (disch := omega) only [↓q_run_s, q_stop_n, q_stop_c, q_lg_c, q_ls_d, q_ld_n, q_ld_c, q_cat_i, q_cat_r, q_cat_n, q_wd_n, q_wd_c, q_bx_1, q_bx_2, q_bx_3, q_bx_4, q_bx_5, q_bx_6, q_bx_7, q_bx_8, q_pop_0, q_pop_s, ↓reduceIte, Nat.reduceEqDiff, reduceCtorEq, eq_self, Bool.false_eq_true, Nat.reduceAdd, Nat.reduceSub, Nat.reduceMul, Nat.reduceLeDiff, Nat.reduceLT, Nat.le_refl, Nat.zero_le, true_and, and_true, false_and, and_false, or_false, false_or, true_or, or_true, not_true_eq_false, not_false_eq_true, if_true, if_false, List.getElem?_cons_zero, List.getElem?_cons_succ, List.set_cons_zero, List.set_cons_succ, List.length_cons, List.length_nil, ↓tX2_isNew_0, ↓tX2_isNew_1, ↓tX2_isNew_4, ↓tX2_isNew_5, ↓tX2_isNew_6, ↓tX2_isNew_7, ↓tX2_isNew_10, ↓tX2_isNew_11, ↓tX2_isNew_12, ↓tX2_isNew_13, ↓tX2_isNew_14, ↓tX2_isNew_17, ↓tX2_isNew_18, ↓tX2_isNew_19, ↓tX2_isNew_20, ↓tX2_isNew_21, ↓tX2_isNew_22, ↓tX2_isNew_23, ↓tX2_isNew_24, ↓oAl, ↓oAlen, ↓oIald, ↓oIast, ↓oIf1lt, ↓oIf2ge, ↓oIf2ne, ↓oIl, ↓oK, ↓oZret, q_set_s, q_set_n, z_clamp, z_ltI, z_leI, z_eqI, z_lt0, z_ge0, z_eq0I, z_gt0I, z_le0I, z_m1lt, z_m1ge, z_m1eq, z_m1eq', z_inT, z_add, z_sub, z_mul, z_div, z_rem, n_ltT, n_ltF, n_leT, n_leF, n_eqT, n_eqF, z_11, q_tl_i, q_tl_n, q_ap_n, q_ap_c, c, fj_a7, fjs_a7]
    exact h'
set_option maxRecDepth 100000 in
set_option maxHeartbeats 8000000 in
theorem c2_isNew11 {m : Nat} {t : Int32} (hm : m < 1284) (hT : A 11 m ≠ t → Q (some (.int (nI 1))) (q_fj (q_sp M0 (i + X 2 + 9) 4937 B) i X s (va_up A 11 (upd (A 11) m t)))) (hF : A 11 m = t → Q (some (.int (nI 0))) (q_fj (q_sp M0 (i + X 2 + 9) 4937 B) i X s A)) : q_Call G L d mX2_isNew 0 0 [.ref (i + X 2 + 14), .int (nI m), .int t] (q_fj (q_sp M0 (i + X 2 + 9) 4937 B) i X s A) Q := by
  refine q_Call.of [(0, .ref (i + X 2 + 14)), (1, .int (nI m)), (2, .int t)] rfl ?_
  by_cases c : A 11 m = t
  · have h' := hF c
    refine q_X.run sX2_isNew [] 30 ?_
    simp (maxSteps := 10000000) (disch := omega) only [↓q_run_s, q_stop_n, q_stop_c, q_lg_c, q_ls_d, q_ld_n, q_ld_c, q_cat_i, q_cat_r, q_cat_n, q_wd_n, q_wd_c, q_bx_1, q_bx_2, q_bx_3, q_bx_4, q_bx_5, q_bx_6, q_bx_7, q_bx_8, q_pop_0, q_pop_s, ↓reduceIte, Nat.reduceEqDiff, reduceCtorEq, eq_self, Bool.false_eq_true, Nat.reduceAdd, Nat.reduceSub, Nat.reduceMul, Nat.reduceLeDiff, Nat.reduceLT, Nat.le_refl, Nat.zero_le, true_and, and_true, false_and, and_false, or_false, false_or, true_or, or_true, not_true_eq_false, not_false_eq_true, if_true, if_false, List.getElem?_cons_zero, List.getElem?_cons_succ, List.set_cons_zero, List.set_cons_succ, List.length_cons, List.length_nil, ↓tX2_isNew_0, ↓tX2_isNew_1, ↓tX2_isNew_4, ↓tX2_isNew_5, ↓tX2_isNew_6, ↓tX2_isNew_7, ↓tX2_isNew_10, ↓tX2_isNew_11, ↓tX2_isNew_12, ↓tX2_isNew_13, ↓tX2_isNew_14, ↓tX2_isNew_17, ↓tX2_isNew_18, ↓tX2_isNew_19, ↓tX2_isNew_20, ↓tX2_isNew_21, ↓tX2_isNew_22, ↓tX2_isNew_23, ↓tX2_isNew_24, ↓oAl, ↓oAlen, ↓oIald, ↓oIast, ↓oIf1lt, ↓oIf2ge, ↓oIf2ne, ↓oIl, ↓oK, ↓oZret, q_set_s, q_set_n, z_clamp, z_ltI, z_leI, z_eqI, z_lt0, z_ge0, z_eq0I, z_gt0I, z_le0I, z_m1lt, z_m1ge, z_m1eq, z_m1eq', z_inT, z_add, z_sub, z_mul, z_div, z_rem, n_ltT, n_ltF, n_leT, n_leF, n_eqT, n_eqF, z_11, q_tl_i, q_tl_n, q_ap_n, q_ap_c, c, fj_a11, fjs_a11]
    exact h'
  · have h' := hT c
    refine q_X.run sX2_isNew [] 30 ?_
    simp (maxSteps := 10000000) (disch := omega) only [↓q_run_s, q_stop_n, q_stop_c, q_lg_c, q_ls_d, q_ld_n, q_ld_c, q_cat_i, q_cat_r, q_cat_n, q_wd_n, q_wd_c, q_bx_1, q_bx_2, q_bx_3, q_bx_4, q_bx_5, q_bx_6, q_bx_7, q_bx_8, q_pop_0, q_pop_s, ↓reduceIte, Nat.reduceEqDiff, reduceCtorEq, eq_self, Bool.false_eq_true, Nat.reduceAdd, Nat.reduceSub, Nat.reduceMul, Nat.reduceLeDiff, Nat.reduceLT, Nat.le_refl, Nat.zero_le, true_and, and_true, false_and, and_false, or_false, false_or, true_or, or_true, not_true_eq_false, not_false_eq_true, if_true, if_false, List.getElem?_cons_zero, List.getElem?_cons_succ, List.set_cons_zero, List.set_cons_succ, List.length_cons, List.length_nil, ↓tX2_isNew_0, ↓tX2_isNew_1, ↓tX2_isNew_4, ↓tX2_isNew_5, ↓tX2_isNew_6, ↓tX2_isNew_7, ↓tX2_isNew_10, ↓tX2_isNew_11, ↓tX2_isNew_12, ↓tX2_isNew_13, ↓tX2_isNew_14, ↓tX2_isNew_17, ↓tX2_isNew_18, ↓tX2_isNew_19, ↓tX2_isNew_20, ↓tX2_isNew_21, ↓tX2_isNew_22, ↓tX2_isNew_23, ↓tX2_isNew_24, ↓oAl, ↓oAlen, ↓oIald, ↓oIast, ↓oIf1lt, ↓oIf2ge, ↓oIf2ne, ↓oIl, ↓oK, ↓oZret, q_set_s, q_set_n, z_clamp, z_ltI, z_leI, z_eqI, z_lt0, z_ge0, z_eq0I, z_gt0I, z_le0I, z_m1lt, z_m1ge, z_m1eq, z_m1eq', z_inT, z_add, z_sub, z_mul, z_div, z_rem, n_ltT, n_ltF, n_leT, n_leF, n_eqT, n_eqF, z_11, q_tl_i, q_tl_n, q_ap_n, q_ap_c, c, fj_a11, fjs_a11]
    exact h'
set_option maxRecDepth 100000 in
set_option maxHeartbeats 8000000 in
theorem c2_isOfKinds {p K : Nat} (hO : f_On M0 i X Ac kc lc rc sh Ah sm Am) (hC : k_Cat Ac kc lc rc) (hp : p < 4937) (hK : K < 64) (hd : 1 ≤ d) (hT : t_uses (e_t p) &&& (K ^^^ 4294967295) = 0 → Q (some (.int (nI 1))) (q_fj (q_sp M0 (i + X 2 + 9) 4937 B) i X s A)) (hF : ¬ t_uses (e_t p) &&& (K ^^^ 4294967295) = 0 → Q (some (.int (nI 0))) (q_fj (q_sp M0 (i + X 2 + 9) 4937 B) i X s A)) : q_Call G L d mX2_isOfKinds 0 0 [.ref i, .int (nI p), .int (nI K)] (q_fj (q_sp M0 (i + X 2 + 9) 4937 B) i X s A) Q := by
  have hO' := (hO.sp (n := 4937) (B := B)).fi (X := X) (s := s) (A := A)
  have h1 := hO'.p1
  refine q_Call.of [(0, .ref i), (1, .int (nI p)), (2, .int (nI K))] rfl ?_
  refine q_X.run sX2_isOfKinds [] 30 ?_
  simp (maxSteps := 10000000) (disch := omega) only [↓q_run_s, q_stop_n, q_stop_c, q_lg_c, q_ls_d, q_ld_n, q_ld_c, q_cat_i, q_cat_r, q_cat_n, q_wd_n, q_wd_c, q_bx_1, q_bx_2, q_bx_3, q_bx_4, q_bx_5, q_bx_6, q_bx_7, q_bx_8, q_pop_0, q_pop_s, ↓reduceIte, Nat.reduceEqDiff, reduceCtorEq, eq_self, Bool.false_eq_true, Nat.reduceAdd, Nat.reduceSub, Nat.reduceMul, Nat.reduceLeDiff, Nat.reduceLT, Nat.le_refl, Nat.zero_le, true_and, and_true, false_and, and_false, or_false, false_or, true_or, or_true, not_true_eq_false, not_false_eq_true, if_true, if_false, List.getElem?_cons_zero, List.getElem?_cons_succ, List.set_cons_zero, List.set_cons_succ, List.length_cons, List.length_nil, ↓tX2_isOfKinds_0, ↓tX2_isOfKinds_1, ↓tX2_isOfKinds_4, ↓tX2_isOfKinds_5, ↓tX2_isOfKinds_8, ↓tX2_isOfKinds_9, ↓tX2_isOfKinds_10, ↓tX2_isOfKinds_11, ↓tX2_isOfKinds_12, ↓tX2_isOfKinds_15, ↓tX2_isOfKinds_16, ↓tX2_isOfKinds_19, ↓tX2_isOfKinds_20, ↓oAl, ↓oAnd, ↓oCallV, ↓oGet, ↓oGo, ↓oIf1ne, ↓oIl, ↓oK, ↓oXor, ↓oZret, q_set_s, q_set_n, fj_0, fjO_len, q_up_a, ca_0, caO_len, fjO_0, z_clamp, z_ltI, z_leI, z_eqI, z_lt0, z_ge0, z_eq0I, z_gt0I, z_le0I, z_m1lt, z_m1ge, z_m1eq, z_m1eq', z_inT, z_add, z_sub, z_mul, z_div, z_rem, n_ltT, n_ltF, n_leT, n_leF, n_eqT, n_eqF, z_11, q_tl_i, q_tl_n, q_ap_n, q_ap_c, h1]
  refine c1_kindsOf hO'.1 hp ?_
  obtain ⟨x, y, he⟩ := e_at hp
  have hu := (hC.1 p _ he).2.2.2
  have hu' : Ac 2 p = nI (t_uses (e_t p)) := hu
  have hul := t_uses_lt (e_t p)
  have hlt : t_uses (e_t p) &&& (K ^^^ 4294967295) < 2147483648 := Nat.lt_of_le_of_lt Nat.and_le_left (by omega)
  by_cases c1 : t_uses (e_t p) &&& (K ^^^ 4294967295) = 0
  · have h' := hT c1
    refine q_X.run sX2_isOfKinds [] 30 ?_
    simp (maxSteps := 10000000) (disch := omega) only [↓q_run_s, q_stop_n, q_stop_c, q_lg_c, q_ls_d, q_ld_n, q_ld_c, q_cat_i, q_cat_r, q_cat_n, q_wd_n, q_wd_c, q_bx_1, q_bx_2, q_bx_3, q_bx_4, q_bx_5, q_bx_6, q_bx_7, q_bx_8, q_pop_0, q_pop_s, ↓reduceIte, Nat.reduceEqDiff, reduceCtorEq, eq_self, Bool.false_eq_true, Nat.reduceAdd, Nat.reduceSub, Nat.reduceMul, Nat.reduceLeDiff, Nat.reduceLT, Nat.le_refl, Nat.zero_le, true_and, and_true, false_and, and_false, or_false, false_or, true_or, or_true, not_true_eq_false, not_false_eq_true, if_true, if_false, List.getElem?_cons_zero, List.getElem?_cons_succ, List.set_cons_zero, List.set_cons_succ, List.length_cons, List.length_nil, ↓tX2_isOfKinds_0, ↓tX2_isOfKinds_1, ↓tX2_isOfKinds_4, ↓tX2_isOfKinds_5, ↓tX2_isOfKinds_8, ↓tX2_isOfKinds_9, ↓tX2_isOfKinds_10, ↓tX2_isOfKinds_11, ↓tX2_isOfKinds_12, ↓tX2_isOfKinds_15, ↓tX2_isOfKinds_16, ↓tX2_isOfKinds_19, ↓tX2_isOfKinds_20, ↓oAl, ↓oAnd, ↓oCallV, ↓oGet, ↓oGo, ↓oIf1ne, ↓oIl, ↓oK, ↓oXor, ↓oZret, q_set_s, q_set_n, fj_0, fjO_len, q_up_a, ca_0, caO_len, fjO_0, z_clamp, z_ltI, z_leI, z_eqI, z_lt0, z_ge0, z_eq0I, z_gt0I, z_le0I, z_m1lt, z_m1ge, z_m1eq, z_m1eq', z_inT, z_add, z_sub, z_mul, z_div, z_rem, n_ltT, n_ltF, n_leT, n_leF, n_eqT, n_eqF, z_11, q_tl_i, q_tl_n, q_ap_n, q_ap_c, hu', z_m1n, z_xor, z_and, c1]
    exact h'
  · have h' := hF c1
    refine q_X.run sX2_isOfKinds [] 30 ?_
    simp (maxSteps := 10000000) (disch := omega) only [↓q_run_s, q_stop_n, q_stop_c, q_lg_c, q_ls_d, q_ld_n, q_ld_c, q_cat_i, q_cat_r, q_cat_n, q_wd_n, q_wd_c, q_bx_1, q_bx_2, q_bx_3, q_bx_4, q_bx_5, q_bx_6, q_bx_7, q_bx_8, q_pop_0, q_pop_s, ↓reduceIte, Nat.reduceEqDiff, reduceCtorEq, eq_self, Bool.false_eq_true, Nat.reduceAdd, Nat.reduceSub, Nat.reduceMul, Nat.reduceLeDiff, Nat.reduceLT, Nat.le_refl, Nat.zero_le, true_and, and_true, false_and, and_false, or_false, false_or, true_or, or_true, not_true_eq_false, not_false_eq_true, if_true, if_false, List.getElem?_cons_zero, List.getElem?_cons_succ, List.set_cons_zero, List.set_cons_succ, List.length_cons, List.length_nil, ↓tX2_isOfKinds_0, ↓tX2_isOfKinds_1, ↓tX2_isOfKinds_4, ↓tX2_isOfKinds_5, ↓tX2_isOfKinds_8, ↓tX2_isOfKinds_9, ↓tX2_isOfKinds_10, ↓tX2_isOfKinds_11, ↓tX2_isOfKinds_12, ↓tX2_isOfKinds_15, ↓tX2_isOfKinds_16, ↓tX2_isOfKinds_19, ↓tX2_isOfKinds_20, ↓oAl, ↓oAnd, ↓oCallV, ↓oGet, ↓oGo, ↓oIf1ne, ↓oIl, ↓oK, ↓oXor, ↓oZret, q_set_s, q_set_n, fj_0, fjO_len, q_up_a, ca_0, caO_len, fjO_0, z_clamp, z_ltI, z_leI, z_eqI, z_lt0, z_ge0, z_eq0I, z_gt0I, z_le0I, z_m1lt, z_m1ge, z_m1eq, z_m1eq', z_inT, z_add, z_sub, z_mul, z_div, z_rem, n_ltT, n_ltF, n_leT, n_leF, n_eqT, n_eqF, z_11, q_tl_i, q_tl_n, q_ap_n, q_ap_c, hu', z_m1n, z_xor, z_and, c1]
    exact h'
set_option maxRecDepth 100000 in
set_option maxHeartbeats 8000000 in
theorem c2_against {p : Nat} (hO : f_On M0 i X Ac kc lc rc sh Ah sm Am) (hS : w_Shw sh Ah S D tb) (hA : f_Ag A D S) (hp : p < 4937) (hd : 1 ≤ d) (hQ : ∀ V, f_V S tb D p V → Q (some (.int (nI V))) (q_fj (q_sp M0 (i + X 2 + 9) 4937 B) i X s A)) : q_Call G L d mX2_against 0 0 [.ref i, .int (nI p)] (q_fj (q_sp M0 (i + X 2 + 9) 4937 B) i X s A) Q := by
  have hO' := (hO.sp (n := 4937) (B := B)).fi (X := X) (s := s) (A := A)
  have h7 := hO'.p7
  obtain ⟨a, ha, hal, hab⟩ := hA p hp
  refine q_Call.of [(0, .ref i), (1, .int (nI p))] rfl ?_
  refine q_X.run sX2_against [] 30 ?_
  simp (maxSteps := 10000000) (disch := omega) only [↓q_run_s, q_stop_n, q_stop_c, q_lg_c, q_ls_d, q_ld_n, q_ld_c, q_cat_i, q_cat_r, q_cat_n, q_wd_n, q_wd_c, q_bx_1, q_bx_2, q_bx_3, q_bx_4, q_bx_5, q_bx_6, q_bx_7, q_bx_8, q_pop_0, q_pop_s, ↓reduceIte, Nat.reduceEqDiff, reduceCtorEq, eq_self, Bool.false_eq_true, Nat.reduceAdd, Nat.reduceSub, Nat.reduceMul, Nat.reduceLeDiff, Nat.reduceLT, Nat.le_refl, Nat.zero_le, true_and, and_true, false_and, and_false, or_false, false_or, true_or, or_true, not_true_eq_false, not_false_eq_true, if_true, if_false, List.getElem?_cons_zero, List.getElem?_cons_succ, List.set_cons_zero, List.set_cons_succ, List.length_cons, List.length_nil, ↓tX2_against_0, ↓tX2_against_1, ↓tX2_against_4, ↓tX2_against_5, ↓tX2_against_8, ↓tX2_against_11, ↓tX2_against_12, ↓tX2_against_15, ↓tX2_against_18, ↓tX2_against_19, ↓tX2_against_22, ↓tX2_against_23, ↓tX2_against_24, ↓tX2_against_25, ↓tX2_against_26, ↓tX2_against_27, ↓tX2_against_30, ↓tX2_against_31, ↓oAl, ↓oAnd, ↓oCallV, ↓oGet, ↓oGo, ↓oIald, ↓oIf1lt, ↓oIf2ge, ↓oIl, ↓oIret, ↓oK, ↓oXor, q_set_s, q_set_n, fj_0, fjO_len, q_up_a, sh_0, shO_len, fjO_1, fjO_4, fj_a4, z_clamp, z_ltI, z_leI, z_eqI, z_lt0, z_ge0, z_eq0I, z_gt0I, z_le0I, z_m1lt, z_m1ge, z_m1eq, z_m1eq', z_inT, z_add, z_sub, z_mul, z_div, z_rem, n_ltT, n_ltF, n_leT, n_leF, n_eqT, n_eqF, z_11, q_tl_i, q_tl_n, q_ap_n, q_ap_c, h7]
  refine d7_standing hO'.2.2.1 hS.1 hS.2.2.1.1 hS.2.1 ?_
  have hsl := x_st_lt (sz := S) (tb := tb) hS.2.1
  have hle : x_st S tb &&& (a ^^^ 4294967295) ≤ x_st S tb := Nat.and_le_left
  have h' := hQ (x_st S tb &&& (a ^^^ 4294967295)) ⟨by omega, fun j => by
    rw [Nat.testBit_and, Bool.and_eq_true, x_st_bit hS.2.1, Nat.testBit_xor, z_all]
    constructor
    · rintro ⟨⟨g1, g2⟩, g3⟩
      have := hS.2.1
      rw [decide_eq_true (by omega : j < 32), Bool.xor_true, Bool.not_eq_true'] at g3
      exact ⟨g1, g2, fun g => by rw [(hab j).mpr ⟨g1, g⟩] at g3; cases g3⟩
    · rintro ⟨g1, g2, g3⟩
      have := hS.2.1
      rw [decide_eq_true (by omega : j < 32), Bool.xor_true, Bool.not_eq_true']
      exact ⟨⟨g1, g2⟩, Bool.eq_false_iff.mpr fun g => g3 ((hab j).mp g).2⟩⟩
  generalize x_st S tb = st at *
  refine q_X.run sX2_against [] 30 ?_
  simp (maxSteps := 10000000) (disch := omega) only [↓q_run_s, q_stop_n, q_stop_c, q_lg_c, q_ls_d, q_ld_n, q_ld_c, q_cat_i, q_cat_r, q_cat_n, q_wd_n, q_wd_c, q_bx_1, q_bx_2, q_bx_3, q_bx_4, q_bx_5, q_bx_6, q_bx_7, q_bx_8, q_pop_0, q_pop_s, ↓reduceIte, Nat.reduceEqDiff, reduceCtorEq, eq_self, Bool.false_eq_true, Nat.reduceAdd, Nat.reduceSub, Nat.reduceMul, Nat.reduceLeDiff, Nat.reduceLT, Nat.le_refl, Nat.zero_le, true_and, and_true, false_and, and_false, or_false, false_or, true_or, or_true, not_true_eq_false, not_false_eq_true, if_true, if_false, List.getElem?_cons_zero, List.getElem?_cons_succ, List.set_cons_zero, List.set_cons_succ, List.length_cons, List.length_nil, ↓tX2_against_0, ↓tX2_against_1, ↓tX2_against_4, ↓tX2_against_5, ↓tX2_against_8, ↓tX2_against_11, ↓tX2_against_12, ↓tX2_against_15, ↓tX2_against_18, ↓tX2_against_19, ↓tX2_against_22, ↓tX2_against_23, ↓tX2_against_24, ↓tX2_against_25, ↓tX2_against_26, ↓tX2_against_27, ↓tX2_against_30, ↓tX2_against_31, ↓oAl, ↓oAnd, ↓oCallV, ↓oGet, ↓oGo, ↓oIald, ↓oIf1lt, ↓oIf2ge, ↓oIl, ↓oIret, ↓oK, ↓oXor, q_set_s, q_set_n, fj_0, fjO_len, q_up_a, sh_0, shO_len, fjO_1, fjO_4, fj_a4, z_clamp, z_ltI, z_leI, z_eqI, z_lt0, z_ge0, z_eq0I, z_gt0I, z_le0I, z_m1lt, z_m1ge, z_m1eq, z_m1eq', z_inT, z_add, z_sub, z_mul, z_div, z_rem, n_ltT, n_ltF, n_leT, n_leF, n_eqT, n_eqF, z_11, q_tl_i, q_tl_n, q_ap_n, q_ap_c, ha, z_m1n, z_xor, z_and]
  exact h'
set_option maxRecDepth 100000 in
set_option maxHeartbeats 8000000 in
theorem c2_priceOf {p : Nat} (hO : f_On M0 i X Ac kc lc rc sh Ah sm Am) (hS : w_Shw sh Ah S D tb) (hA : f_Ag A D S) (hp : p < 4937) (hd : 2 ≤ d) (hQ : Q (some (.int (nI (q_sum (y_pay (e_t p) D (fun j => tb.testBit j)) S)))) (q_fj (q_sp M0 (i + X 2 + 9) 4937 B) i X s A)) : q_Call G L d mX2_priceOf 0 0 [.ref i, .int (nI p)] (q_fj (q_sp M0 (i + X 2 + 9) 4937 B) i X s A) Q := by
  have hO' := (hO.sp (n := 4937) (B := B)).fi (X := X) (s := s) (A := A)
  have h7 := hO'.p7
  refine q_Call.of [(0, .ref i), (1, .int (nI p))] rfl ?_
  refine q_X.run sX2_priceOf [] 30 ?_
  simp (maxSteps := 10000000) (disch := omega) only [↓q_run_s, q_stop_n, q_stop_c, q_lg_c, q_ls_d, q_ld_n, q_ld_c, q_cat_i, q_cat_r, q_cat_n, q_wd_n, q_wd_c, q_bx_1, q_bx_2, q_bx_3, q_bx_4, q_bx_5, q_bx_6, q_bx_7, q_bx_8, q_pop_0, q_pop_s, ↓reduceIte, Nat.reduceEqDiff, reduceCtorEq, eq_self, Bool.false_eq_true, Nat.reduceAdd, Nat.reduceSub, Nat.reduceMul, Nat.reduceLeDiff, Nat.reduceLT, Nat.le_refl, Nat.zero_le, true_and, and_true, false_and, and_false, or_false, false_or, true_or, or_true, not_true_eq_false, not_false_eq_true, if_true, if_false, List.getElem?_cons_zero, List.getElem?_cons_succ, List.set_cons_zero, List.set_cons_succ, List.length_cons, List.length_nil, ↓tX2_priceOf_0, ↓tX2_priceOf_1, ↓tX2_priceOf_4, ↓tX2_priceOf_5, ↓tX2_priceOf_6, ↓tX2_priceOf_9, ↓tX2_priceOf_12, ↓oAl, ↓oCallV, ↓oGet, ↓oIl, ↓oIret, q_set_s, q_set_n, fj_0, fjO_len, q_up_a, sh_0, shO_len, fjO_1, z_clamp, z_ltI, z_leI, z_eqI, z_lt0, z_ge0, z_eq0I, z_gt0I, z_le0I, z_m1lt, z_m1ge, z_m1eq, z_m1eq', z_inT, z_add, z_sub, z_mul, z_div, z_rem, n_ltT, n_ltF, n_leT, n_leF, n_eqT, n_eqF, z_11, q_tl_i, q_tl_n, q_ap_n, q_ap_c]
  refine c2_against hO hS hA hp (by omega) fun V hV => ?_
  refine q_X.run sX2_priceOf [] 30 ?_
  simp (maxSteps := 10000000) (disch := omega) only [↓q_run_s, q_stop_n, q_stop_c, q_lg_c, q_ls_d, q_ld_n, q_ld_c, q_cat_i, q_cat_r, q_cat_n, q_wd_n, q_wd_c, q_bx_1, q_bx_2, q_bx_3, q_bx_4, q_bx_5, q_bx_6, q_bx_7, q_bx_8, q_pop_0, q_pop_s, ↓reduceIte, Nat.reduceEqDiff, reduceCtorEq, eq_self, Bool.false_eq_true, Nat.reduceAdd, Nat.reduceSub, Nat.reduceMul, Nat.reduceLeDiff, Nat.reduceLT, Nat.le_refl, Nat.zero_le, true_and, and_true, false_and, and_false, or_false, false_or, true_or, or_true, not_true_eq_false, not_false_eq_true, if_true, if_false, List.getElem?_cons_zero, List.getElem?_cons_succ, List.set_cons_zero, List.set_cons_succ, List.length_cons, List.length_nil, ↓tX2_priceOf_0, ↓tX2_priceOf_1, ↓tX2_priceOf_4, ↓tX2_priceOf_5, ↓tX2_priceOf_6, ↓tX2_priceOf_9, ↓tX2_priceOf_12, ↓oAl, ↓oCallV, ↓oGet, ↓oIl, ↓oIret, q_set_s, q_set_n, fj_0, fjO_len, q_up_a, sh_0, shO_len, fjO_1, z_clamp, z_ltI, z_leI, z_eqI, z_lt0, z_ge0, z_eq0I, z_gt0I, z_le0I, z_m1lt, z_m1ge, z_m1eq, z_m1eq', z_inT, z_add, z_sub, z_mul, z_div, z_rem, n_ltT, n_ltF, n_leT, n_leF, n_eqT, n_eqF, z_11, q_tl_i, q_tl_n, q_ap_n, q_ap_c, h7]
  refine d7_priceOf (p := fun j => (D j).2.2.2.2) hO'.2.2.1 hS.1 hS.2.1 hV.1 (fun j hj => ⟨(hS.2.2.2 j hj).2.2.2.2, (hS.2.2.2 j hj).1.2.2.2.2.2.2.2⟩) ?_
  rw [f_V_sum hV S (Nat.le_refl _)]
  generalize q_sum (y_pay (e_t p) D (fun j => tb.testBit j)) S = ps at *
  refine q_X.run sX2_priceOf [] 30 ?_
  simp (maxSteps := 10000000) (disch := omega) only [↓q_run_s, q_stop_n, q_stop_c, q_lg_c, q_ls_d, q_ld_n, q_ld_c, q_cat_i, q_cat_r, q_cat_n, q_wd_n, q_wd_c, q_bx_1, q_bx_2, q_bx_3, q_bx_4, q_bx_5, q_bx_6, q_bx_7, q_bx_8, q_pop_0, q_pop_s, ↓reduceIte, Nat.reduceEqDiff, reduceCtorEq, eq_self, Bool.false_eq_true, Nat.reduceAdd, Nat.reduceSub, Nat.reduceMul, Nat.reduceLeDiff, Nat.reduceLT, Nat.le_refl, Nat.zero_le, true_and, and_true, false_and, and_false, or_false, false_or, true_or, or_true, not_true_eq_false, not_false_eq_true, if_true, if_false, List.getElem?_cons_zero, List.getElem?_cons_succ, List.set_cons_zero, List.set_cons_succ, List.length_cons, List.length_nil, ↓tX2_priceOf_0, ↓tX2_priceOf_1, ↓tX2_priceOf_4, ↓tX2_priceOf_5, ↓tX2_priceOf_6, ↓tX2_priceOf_9, ↓tX2_priceOf_12, ↓oAl, ↓oCallV, ↓oGet, ↓oIl, ↓oIret, q_set_s, q_set_n, fj_0, fjO_len, q_up_a, sh_0, shO_len, fjO_1, z_clamp, z_ltI, z_leI, z_eqI, z_lt0, z_ge0, z_eq0I, z_gt0I, z_le0I, z_m1lt, z_m1ge, z_m1eq, z_m1eq', z_inT, z_add, z_sub, z_mul, z_div, z_rem, n_ltT, n_ltF, n_leT, n_leF, n_eqT, n_eqF, z_11, q_tl_i, q_tl_n, q_ap_n, q_ap_c]
  exact hQ
set_option maxRecDepth 100000 in
set_option maxHeartbeats 8000000 in
theorem c2_begin {n K c : Nat} (hO : f_On M0 i X Ac kc lc rc sh Ah sm Am) (hC : k_Cat Ac kc lc rc) (h12 : s 12 = nI n) (hn : n < 100000) (hc2 : 2 ≤ c) (hc : c ≤ 10) (hd : 2 ≤ d) (hQ : Q none (q_fj (q_sp M0 (i + X 2 + 9) 4937 B) i X (va_up (va_up (va_up (va_up (va_up s 12 (nI (n + 1))) 13 (nI K)) 14 (nI 0)) 15 (nI (k_F (c + 1)))) 16 (nI 0)) A)) : q_Call G L d mX2_begin 0 0 [.ref i, .int (nI K), .int (nI c)] (q_fj (q_sp M0 (i + X 2 + 9) 4937 B) i X s A) Q := by
  have hO' := fun s A => (hO.sp (n := 4937) (B := B)).fi (X := X) (s := s) (A := A)
  have h1 := fun s A => (hO' s A).p1
  have hF : k_F (c + 1) ≤ 4937 := by
    have h : ∀ c : Nat, c < 11 → k_F (c + 1) ≤ 4937 := fun c hc => by
      have := k_F_mono (show c + 1 ≤ 11 by omega)
      have e : k_F 11 = 4937 := k_4937
      omega
    exact h c (by omega)
  refine q_Call.of [(0, .ref i), (1, .int (nI K)), (2, .int (nI c))] rfl ?_
  refine q_X.run sX2_begin [] 30 ?_
  simp (maxSteps := 10000000) (disch := omega) only [↓q_run_s, q_stop_n, q_stop_c, q_lg_c, q_ls_d, q_ld_n, q_ld_c, q_cat_i, q_cat_r, q_cat_n, q_wd_n, q_wd_c, q_bx_1, q_bx_2, q_bx_3, q_bx_4, q_bx_5, q_bx_6, q_bx_7, q_bx_8, q_pop_0, q_pop_s, ↓reduceIte, Nat.reduceEqDiff, reduceCtorEq, eq_self, Bool.false_eq_true, Nat.reduceAdd, Nat.reduceSub, Nat.reduceMul, Nat.reduceLeDiff, Nat.reduceLT, Nat.le_refl, Nat.zero_le, true_and, and_true, false_and, and_false, or_false, false_or, true_or, or_true, not_true_eq_false, not_false_eq_true, if_true, if_false, List.getElem?_cons_zero, List.getElem?_cons_succ, List.set_cons_zero, List.set_cons_succ, List.length_cons, List.length_nil, ↓tX2_begin_0, ↓tX2_begin_1, ↓tX2_begin_2, ↓tX2_begin_5, ↓tX2_begin_6, ↓tX2_begin_7, ↓tX2_begin_10, ↓tX2_begin_11, ↓tX2_begin_12, ↓tX2_begin_15, ↓tX2_begin_16, ↓tX2_begin_17, ↓tX2_begin_20, ↓tX2_begin_21, ↓tX2_begin_22, ↓tX2_begin_25, ↓tX2_begin_26, ↓tX2_begin_29, ↓tX2_begin_32, ↓tX2_begin_35, ↓tX2_begin_38, ↓tX2_begin_39, ↓tX2_begin_40, ↓tX2_begin_43, ↓oAdd, ↓oAl, ↓oCallV, ↓oDup, ↓oGet, ↓oIl, ↓oK, ↓oMin, ↓oPutI, ↓oVret, q_set_s, q_set_n, fj_0, fjO_len, q_up_a, ca_0, caO_len, fjO_12, fjOs_12, fjOs_13, fjOs_14, fjO_0, fjOs_15, fjOs_16, z_clamp, z_ltI, z_leI, z_eqI, z_lt0, z_ge0, z_eq0I, z_gt0I, z_le0I, z_m1lt, z_m1ge, z_m1eq, z_m1eq', z_inT, z_add, z_sub, z_mul, z_div, z_rem, n_ltT, n_ltF, n_leT, n_leF, n_eqT, n_eqF, z_11, q_tl_i, q_tl_n, q_ap_n, q_ap_c, h12, h1]
  refine c1_end (hO' _ _).1 (by omega) (by omega) ?_
  rw [hC.2 (c + 1) (by omega) (by omega)]
  generalize k_F (c + 1) = fc at *
  refine q_X.run sX2_begin [] 30 ?_
  simp (maxSteps := 10000000) (disch := omega) only [↓q_run_s, q_stop_n, q_stop_c, q_lg_c, q_ls_d, q_ld_n, q_ld_c, q_cat_i, q_cat_r, q_cat_n, q_wd_n, q_wd_c, q_bx_1, q_bx_2, q_bx_3, q_bx_4, q_bx_5, q_bx_6, q_bx_7, q_bx_8, q_pop_0, q_pop_s, ↓reduceIte, Nat.reduceEqDiff, reduceCtorEq, eq_self, Bool.false_eq_true, Nat.reduceAdd, Nat.reduceSub, Nat.reduceMul, Nat.reduceLeDiff, Nat.reduceLT, Nat.le_refl, Nat.zero_le, true_and, and_true, false_and, and_false, or_false, false_or, true_or, or_true, not_true_eq_false, not_false_eq_true, if_true, if_false, List.getElem?_cons_zero, List.getElem?_cons_succ, List.set_cons_zero, List.set_cons_succ, List.length_cons, List.length_nil, ↓tX2_begin_0, ↓tX2_begin_1, ↓tX2_begin_2, ↓tX2_begin_5, ↓tX2_begin_6, ↓tX2_begin_7, ↓tX2_begin_10, ↓tX2_begin_11, ↓tX2_begin_12, ↓tX2_begin_15, ↓tX2_begin_16, ↓tX2_begin_17, ↓tX2_begin_20, ↓tX2_begin_21, ↓tX2_begin_22, ↓tX2_begin_25, ↓tX2_begin_26, ↓tX2_begin_29, ↓tX2_begin_32, ↓tX2_begin_35, ↓tX2_begin_38, ↓tX2_begin_39, ↓tX2_begin_40, ↓tX2_begin_43, ↓oAdd, ↓oAl, ↓oCallV, ↓oDup, ↓oGet, ↓oIl, ↓oK, ↓oMin, ↓oPutI, ↓oVret, q_set_s, q_set_n, fj_0, fjO_len, q_up_a, ca_0, caO_len, fjO_12, fjOs_12, fjOs_13, fjOs_14, fjO_0, fjOs_15, fjOs_16, z_clamp, z_ltI, z_leI, z_eqI, z_lt0, z_ge0, z_eq0I, z_gt0I, z_le0I, z_m1lt, z_m1ge, z_m1eq, z_m1eq', z_inT, z_add, z_sub, z_mul, z_div, z_rem, n_ltT, n_ltF, n_leT, n_leF, n_eqT, n_eqF, z_11, q_tl_i, q_tl_n, q_ap_n, q_ap_c, h12]
  exact hQ
end
