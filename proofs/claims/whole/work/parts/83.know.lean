/-! the reference: number, know -/
def z_o : Nat → Nat
  | 0 => 0
  | n + 1 => z_o n + 3 ^ n
theorem z_o5 : z_o 0 = 0 ∧ z_o 1 = 1 ∧ z_o 2 = 4 ∧ z_o 3 = 13 ∧ z_o 4 = 40 ∧ z_o 5 = 121 := by decide
theorem z_dec {k : Nat} (hk : k < 121) : ∃ n v, n ≤ 4 ∧ v < 3 ^ n ∧ k = z_o n + v := by
  obtain ⟨e0, e1, e2, e3, e4, -⟩ := z_o5
  by_cases c1 : k < 1
  · exact ⟨0, k, by decide, by show k < 1; omega, by omega⟩
  · by_cases c2 : k < 4
    · exact ⟨1, k - 1, by decide, by show k - 1 < 3; omega, by omega⟩
    · by_cases c3 : k < 13
      · exact ⟨2, k - 4, by decide, by show k - 4 < 9; omega, by omega⟩
      · by_cases c4 : k < 40
        · exact ⟨3, k - 13, by decide, by show k - 13 < 27; omega, by omega⟩
        · exact ⟨4, k - 40, by decide, by show k - 40 < 81; omega, by omega⟩
theorem z_o_lt {n v : Nat} (hn : n ≤ 4) (hv : v < 3 ^ n) : z_o n + v < 121 := by
  obtain ⟨e0, e1, e2, e3, e4, e5⟩ := z_o5
  rcases (show n = 0 ∨ n = 1 ∨ n = 2 ∨ n = 3 ∨ n = 4 by omega) with g | g | g | g | g <;> subst g
  · have hv : v < 1 := hv; omega
  · have hv : v < 3 := hv; omega
  · have hv : v < 9 := hv; omega
  · have hv : v < 27 := hv; omega
  · have hv : v < 81 := hv; omega
theorem z_o_inj {n v n' v' : Nat} (hn : n ≤ 4) (hv : v < 3 ^ n) (hn' : n' ≤ 4) (hv' : v' < 3 ^ n') (h : z_o n + v = z_o n' + v') : n = n' ∧ v = v' := by
  obtain ⟨e0, e1, e2, e3, e4, e5⟩ := z_o5
  have p0 : 3 ^ 0 = 1 := rfl
  have p1 : 3 ^ 1 = 3 := rfl
  have p2 : 3 ^ 2 = 9 := rfl
  have p3 : 3 ^ 3 = 27 := rfl
  have p4 : 3 ^ 4 = 81 := rfl
  rcases (show n = 0 ∨ n = 1 ∨ n = 2 ∨ n = 3 ∨ n = 4 by omega) with g | g | g | g | g <;> subst g <;> rcases (show n' = 0 ∨ n' = 1 ∨ n' = 2 ∨ n' = 3 ∨ n' = 4 by omega) with g | g | g | g | g <;> subst g <;> omega
def m_Num (A : Nat → Nat → Int32) : Prop := ∀ n v, n ≤ 4 → v < 3 ^ n → A 47 (z_o n + v) = nI (3 ^ n + v)
def z_LHk (t : qT) (k Lo Hi : Nat) : Prop := Lo < 18446744073709551616 ∧ Hi < 144115188075855872 ∧ ∀ n v, n ≤ 4 → v < 3 ^ n → (z_o n + v < 64 → (Lo.testBit (z_o n + v) = true ↔ z_o n + v < k ∧ z_S t n v)) ∧ (64 ≤ z_o n + v → (Hi.testBit (z_o n + v - 64) = true ↔ z_o n + v < k ∧ z_S t n v))
def z_LH (t : qT) (Lo Hi : Nat) : Prop := Lo < 18446744073709551616 ∧ Hi < 144115188075855872 ∧ ∀ n v, n ≤ 4 → v < 3 ^ n → (z_o n + v < 64 → (Lo.testBit (z_o n + v) = true ↔ z_S t n v)) ∧ (64 ≤ z_o n + v → (Hi.testBit (z_o n + v - 64) = true ↔ z_S t n v))
theorem z_LHk_121 {t : qT} {Lo Hi : Nat} (h : z_LHk t 121 Lo Hi) : z_LH t Lo Hi := ⟨h.1, h.2.1, fun n v hn hv => ⟨fun g => ((h.2.2 n v hn hv).1 g).trans ⟨fun x => x.2, fun x => ⟨z_o_lt hn hv, x⟩⟩, fun g => ((h.2.2 n v hn hv).2 g).trans ⟨fun x => x.2, fun x => ⟨z_o_lt hn hv, x⟩⟩⟩⟩
/-- they mean the same -/
def z_eq (t t' : qT) : Prop := ∀ n v, n ≤ 4 → v < 3 ^ n → (z_S t n v ↔ z_S t' n v)
theorem z_LH_eq {t t' : qT} {Lo Hi Lo' Hi' : Nat} (h : z_LH t Lo Hi) (h' : z_LH t' Lo' Hi') : (Lo = Lo' ∧ Hi = Hi') ↔ z_eq t t' := by
  constructor
  · rintro ⟨e1, e2⟩ n v hn hv
    subst e1 e2
    by_cases c : z_o n + v < 64
    · rw [← (h.2.2 n v hn hv).1 c, ← (h'.2.2 n v hn hv).1 c]
    · rw [← (h.2.2 n v hn hv).2 (by omega), ← (h'.2.2 n v hn hv).2 (by omega)]
  · intro he
    constructor
    · apply Nat.eq_of_testBit_eq
      intro j
      apply Bool.eq_iff_iff.mpr
      by_cases c : j < 64
      · obtain ⟨n, v, hn, hv, e⟩ := z_dec (k := j) (by omega)
        subst e
        rw [(h.2.2 n v hn hv).1 c, (h'.2.2 n v hn hv).1 c]
        exact he n v hn hv
      · rw [Nat.testBit_lt_two_pow (Nat.lt_of_lt_of_le h.1 (Nat.pow_le_pow_right (n := 2) (i := 64) (j := j) (by decide) (by omega))), Nat.testBit_lt_two_pow (Nat.lt_of_lt_of_le h'.1 (Nat.pow_le_pow_right (n := 2) (i := 64) (j := j) (by decide) (by omega)))]
    · apply Nat.eq_of_testBit_eq
      intro j
      apply Bool.eq_iff_iff.mpr
      by_cases c : j < 57
      · obtain ⟨n, v, hn, hv, e⟩ := z_dec (k := j + 64) (by omega)
        have h1 := (h.2.2 n v hn hv).2 (by omega)
        have h2 := (h'.2.2 n v hn hv).2 (by omega)
        rw [← e, Nat.add_sub_cancel] at h1 h2
        rw [h1, h2]
        exact he n v hn hv
      · rw [Nat.testBit_lt_two_pow (Nat.lt_of_lt_of_le h.2.1 (Nat.pow_le_pow_right (n := 2) (i := 57) (j := j) (by decide) (by omega))), Nat.testBit_lt_two_pow (Nat.lt_of_lt_of_le h'.2.1 (Nat.pow_le_pow_right (n := 2) (i := 57) (j := j) (by decide) (by omega)))]
theorem l_shl1' {k : Nat} (hk : k < 64) : nL 1 <<< ((nI k).toInt64 &&& 63) = nL (2 ^ k) := l_shl1 hk
section
variable {G : qC} {L : Launch} {d : Nat} {Q : Option Value → qM → Prop} {M0 : qM} {r : Nat} {s : Nat → Int32} {A : Nat → Nat → Int32} {B : Nat → Nat → Int64}
set_option maxRecDepth 100000 in
set_option maxHeartbeats 8000000 in
theorem c12_number (h0 : A 47 0 = nI 0 ∨ m_Num A) (hQ : ∀ g, m_Num (va_up A 47 g) → Q none (q_md M0 r s (va_up A 47 g) B)) : q_Call G L d mX12_number 0 0 [.ref r] (q_md M0 r s A B) Q := by
  refine q_Call.of [(0, .ref r)] rfl ?_
  rcases h0 with h0 | h0
  · have inner : ∀ len, len ≤ 4 → (∀ g, (∀ n v, n ≤ len → v < 3 ^ n → g (z_o n + v) = nI (3 ^ n + v)) → q_X G L d mX12_number 0 0 Q 49 [(0, .ref r), (1, .int (nI (z_o len + 3 ^ len))), (2, .int (nI (3 ^ len))), (3, .int (nI len))] [] (q_md M0 r s (va_up A 47 g) B) 0 0) → ∀ (q v : Nat) (g : Nat → Int32), q + v = 3 ^ len → (∀ n v, n < len → v < 3 ^ n → g (z_o n + v) = nI (3 ^ n + v)) → (∀ v', v' < v → g (z_o len + v') = nI (3 ^ len + v')) → q_X G L d mX12_number 0 0 Q 24 [(0, .ref r), (1, .int (nI (z_o len + v))), (2, .int (nI (3 ^ len))), (3, .int (nI len)), (4, .int (nI (3 ^ len + v)))] [] (q_md M0 r s (va_up A 47 g) B) 0 0 := by
      intro len hlen hend q
      have hp := q_pow_le (n := len) (by omega)
      induction q with
      | zero =>
        intro v g hv h1 h2
        have e : v = 3 ^ len := by omega
        have h' := hend g (fun n v' hn hv' => by
          rcases Nat.lt_or_eq_of_le hn with c | c
          · exact h1 n v' c hv'
          · subst c; exact h2 v' (by omega))
        rw [e]
        have e2 : 3 ^ len + 3 ^ len = 2 * 3 ^ len := by omega
        rw [e2]
        generalize z_o len + 3 ^ len = zz at *
        generalize 3 ^ len = pw at *
        refine q_X.run sX12_number [49] 20 ?_
        simp (maxSteps := 10000000) (disch := omega) only [↓q_run_s, q_stop_n, q_stop_c, q_lg_c, q_ls_d, q_ld_n, q_ld_c, q_cat_i, q_cat_r, q_cat_n, q_wd_n, q_wd_c, q_bx_1, q_bx_2, q_bx_3, q_bx_4, q_bx_5, q_bx_6, q_bx_7, q_bx_8, q_pop_0, q_pop_s, ↓reduceIte, Nat.reduceEqDiff, reduceCtorEq, eq_self, Bool.false_eq_true, Nat.reduceAdd, Nat.reduceSub, Nat.reduceMul, Nat.reduceLeDiff, Nat.reduceLT, Nat.le_refl, Nat.zero_le, true_and, and_true, false_and, and_false, or_false, false_or, true_or, or_true, not_true_eq_false, not_false_eq_true, if_true, if_false, List.getElem?_cons_zero, List.getElem?_cons_succ, List.set_cons_zero, List.set_cons_succ, List.length_cons, List.length_nil, ↓tX12_number_0, ↓tX12_number_1, ↓tX12_number_4, ↓tX12_number_5, ↓tX12_number_6, ↓tX12_number_9, ↓tX12_number_10, ↓tX12_number_11, ↓tX12_number_12, ↓tX12_number_13, ↓tX12_number_14, ↓tX12_number_15, ↓tX12_number_16, ↓tX12_number_17, ↓tX12_number_18, ↓tX12_number_21, ↓tX12_number_22, ↓tX12_number_24, ↓tX12_number_26, ↓tX12_number_27, ↓tX12_number_28, ↓tX12_number_29, ↓tX12_number_32, ↓tX12_number_33, ↓tX12_number_36, ↓tX12_number_37, ↓tX12_number_39, ↓tX12_number_40, ↓tX12_number_43, ↓tX12_number_46, ↓tX12_number_49, ↓tX12_number_50, ↓tX12_number_51, ↓tX12_number_52, ↓tX12_number_53, ↓tX12_number_56, ↓tX12_number_59, ↓oAl, ↓oGet, ↓oGo, ↓oIald, ↓oIast, ↓oIf1le, ↓oIf2ge, ↓oIl, ↓oInc, ↓oIs, ↓oK, ↓oMul, ↓oVret, q_set_s, q_set_n, q_md_0, mO_len, q_up_a, mO_47, md_47, mds_47, z_clamp, z_ltI, z_leI, z_eqI, z_lt0, z_ge0, z_eq0I, z_gt0I, z_le0I, z_m1lt, z_m1ge, z_m1eq, z_m1eq', z_inT, z_add, z_sub, z_mul, z_div, z_rem, n_ltT, n_ltF, n_leT, n_leF, n_eqT, n_eqF, z_11, q_tl_i, q_tl_n, q_ap_n, q_ap_c]
        refine q_X.lv2 _ ?_ h'
        exact ⟨rfl, rfl, rfl, rfl, trivial⟩
      | succ q ih =>
        intro v g hv h1 h2
        have hz := z_o_lt (n := len) (v := v) hlen (by omega)
        have h' := ih (v + 1) (upd g (z_o len + v) (nI (3 ^ len + v))) (by omega) (fun n v' hn hv' => by
          rw [q_ud_n _ _ (fun e => by have := (z_o_inj (by omega) hv' hlen (by omega) e).1; omega)]
          exact h1 n v' hn hv') (fun v' hv' => by
          rcases Nat.lt_or_eq_of_le (Nat.le_of_lt_succ hv') with c | c
          · rw [q_ud_n _ _ (by omega)]; exact h2 v' c
          · rw [c, q_ud_s])
        rw [← Nat.add_assoc, ← Nat.add_assoc] at h'
        generalize z_o len + v = zz at *
        generalize 3 ^ len = pw at *
        refine q_X.run sX12_number [24] 40 ?_
        simp (maxSteps := 10000000) (disch := omega) only [↓q_run_s, q_stop_n, q_stop_c, q_lg_c, q_ls_d, q_ld_n, q_ld_c, q_cat_i, q_cat_r, q_cat_n, q_wd_n, q_wd_c, q_bx_1, q_bx_2, q_bx_3, q_bx_4, q_bx_5, q_bx_6, q_bx_7, q_bx_8, q_pop_0, q_pop_s, ↓reduceIte, Nat.reduceEqDiff, reduceCtorEq, eq_self, Bool.false_eq_true, Nat.reduceAdd, Nat.reduceSub, Nat.reduceMul, Nat.reduceLeDiff, Nat.reduceLT, Nat.le_refl, Nat.zero_le, true_and, and_true, false_and, and_false, or_false, false_or, true_or, or_true, not_true_eq_false, not_false_eq_true, if_true, if_false, List.getElem?_cons_zero, List.getElem?_cons_succ, List.set_cons_zero, List.set_cons_succ, List.length_cons, List.length_nil, ↓tX12_number_0, ↓tX12_number_1, ↓tX12_number_4, ↓tX12_number_5, ↓tX12_number_6, ↓tX12_number_9, ↓tX12_number_10, ↓tX12_number_11, ↓tX12_number_12, ↓tX12_number_13, ↓tX12_number_14, ↓tX12_number_15, ↓tX12_number_16, ↓tX12_number_17, ↓tX12_number_18, ↓tX12_number_21, ↓tX12_number_22, ↓tX12_number_24, ↓tX12_number_26, ↓tX12_number_27, ↓tX12_number_28, ↓tX12_number_29, ↓tX12_number_32, ↓tX12_number_33, ↓tX12_number_36, ↓tX12_number_37, ↓tX12_number_39, ↓tX12_number_40, ↓tX12_number_43, ↓tX12_number_46, ↓tX12_number_49, ↓tX12_number_50, ↓tX12_number_51, ↓tX12_number_52, ↓tX12_number_53, ↓tX12_number_56, ↓tX12_number_59, ↓oAl, ↓oGet, ↓oGo, ↓oIald, ↓oIast, ↓oIf1le, ↓oIf2ge, ↓oIl, ↓oInc, ↓oIs, ↓oK, ↓oMul, ↓oVret, q_set_s, q_set_n, q_md_0, mO_len, q_up_a, mO_47, md_47, mds_47, z_clamp, z_ltI, z_leI, z_eqI, z_lt0, z_ge0, z_eq0I, z_gt0I, z_le0I, z_m1lt, z_m1ge, z_m1eq, z_m1eq', z_inT, z_add, z_sub, z_mul, z_div, z_rem, n_ltT, n_ltF, n_leT, n_leF, n_eqT, n_eqF, z_11, q_tl_i, q_tl_n, q_ap_n, q_ap_c, q_upup, va_up_self]
        refine q_X.lv2 _ ?_ h'
        exact ⟨rfl, rfl, rfl, rfl, rfl, trivial⟩
    have outer : ∀ (q len : Nat) (g : Nat → Int32), q + len = 5 → (∀ n v, n < len → v < 3 ^ n → g (z_o n + v) = nI (3 ^ n + v)) → q_X G L d mX12_number 0 0 Q 16 [(0, .ref r), (1, .int (nI (z_o len))), (2, .int (nI (3 ^ len))), (3, .int (nI len))] [] (q_md M0 r s (va_up A 47 g) B) 0 0 := by
      intro q
      induction q with
      | zero =>
        intro len g hq h1
        have e : len = 5 := by omega
        subst e
        have h' := hQ g (fun n v hn hv => by rw [va_up_self]; exact h1 n v (by omega) hv)
        refine q_X.run sX12_number [] 20 ?_
        simp (maxSteps := 10000000) (disch := omega) only [↓q_run_s, q_stop_n, q_stop_c, q_lg_c, q_ls_d, q_ld_n, q_ld_c, q_cat_i, q_cat_r, q_cat_n, q_wd_n, q_wd_c, q_bx_1, q_bx_2, q_bx_3, q_bx_4, q_bx_5, q_bx_6, q_bx_7, q_bx_8, q_pop_0, q_pop_s, ↓reduceIte, Nat.reduceEqDiff, reduceCtorEq, eq_self, Bool.false_eq_true, Nat.reduceAdd, Nat.reduceSub, Nat.reduceMul, Nat.reduceLeDiff, Nat.reduceLT, Nat.le_refl, Nat.zero_le, true_and, and_true, false_and, and_false, or_false, false_or, true_or, or_true, not_true_eq_false, not_false_eq_true, if_true, if_false, List.getElem?_cons_zero, List.getElem?_cons_succ, List.set_cons_zero, List.set_cons_succ, List.length_cons, List.length_nil, ↓tX12_number_0, ↓tX12_number_1, ↓tX12_number_4, ↓tX12_number_5, ↓tX12_number_6, ↓tX12_number_9, ↓tX12_number_10, ↓tX12_number_11, ↓tX12_number_12, ↓tX12_number_13, ↓tX12_number_14, ↓tX12_number_15, ↓tX12_number_16, ↓tX12_number_17, ↓tX12_number_18, ↓tX12_number_21, ↓tX12_number_22, ↓tX12_number_24, ↓tX12_number_26, ↓tX12_number_27, ↓tX12_number_28, ↓tX12_number_29, ↓tX12_number_32, ↓tX12_number_33, ↓tX12_number_36, ↓tX12_number_37, ↓tX12_number_39, ↓tX12_number_40, ↓tX12_number_43, ↓tX12_number_46, ↓tX12_number_49, ↓tX12_number_50, ↓tX12_number_51, ↓tX12_number_52, ↓tX12_number_53, ↓tX12_number_56, ↓tX12_number_59, ↓oAl, ↓oGet, ↓oGo, ↓oIald, ↓oIast, ↓oIf1le, ↓oIf2ge, ↓oIl, ↓oInc, ↓oIs, ↓oK, ↓oMul, ↓oVret, q_set_s, q_set_n, q_md_0, mO_len, q_up_a, mO_47, md_47, mds_47, z_clamp, z_ltI, z_leI, z_eqI, z_lt0, z_ge0, z_eq0I, z_gt0I, z_le0I, z_m1lt, z_m1ge, z_m1eq, z_m1eq', z_inT, z_add, z_sub, z_mul, z_div, z_rem, n_ltT, n_ltF, n_leT, n_leF, n_eqT, n_eqF, z_11, q_tl_i, q_tl_n, q_ap_n, q_ap_c]
        exact h'
      | succ q ih =>
        intro len g hq h1
        have h' := inner len (by omega) (fun g' hg' => by
          have h' := ih (len + 1) g' (by omega) (fun n v hn hv => hg' n v (by omega) hv)
          have e1 : z_o (len + 1) = z_o len + 3 ^ len := rfl
          rw [e1, Nat.pow_succ] at h'
          refine q_X.run sX12_number [16] 20 ?_
          simp (maxSteps := 10000000) (disch := omega) only [↓q_run_s, q_stop_n, q_stop_c, q_lg_c, q_ls_d, q_ld_n, q_ld_c, q_cat_i, q_cat_r, q_cat_n, q_wd_n, q_wd_c, q_bx_1, q_bx_2, q_bx_3, q_bx_4, q_bx_5, q_bx_6, q_bx_7, q_bx_8, q_pop_0, q_pop_s, ↓reduceIte, Nat.reduceEqDiff, reduceCtorEq, eq_self, Bool.false_eq_true, Nat.reduceAdd, Nat.reduceSub, Nat.reduceMul, Nat.reduceLeDiff, Nat.reduceLT, Nat.le_refl, Nat.zero_le, true_and, and_true, false_and, and_false, or_false, false_or, true_or, or_true, not_true_eq_false, not_false_eq_true, if_true, if_false, List.getElem?_cons_zero, List.getElem?_cons_succ, List.set_cons_zero, List.set_cons_succ, List.length_cons, List.length_nil, ↓tX12_number_0, ↓tX12_number_1, ↓tX12_number_4, ↓tX12_number_5, ↓tX12_number_6, ↓tX12_number_9, ↓tX12_number_10, ↓tX12_number_11, ↓tX12_number_12, ↓tX12_number_13, ↓tX12_number_14, ↓tX12_number_15, ↓tX12_number_16, ↓tX12_number_17, ↓tX12_number_18, ↓tX12_number_21, ↓tX12_number_22, ↓tX12_number_24, ↓tX12_number_26, ↓tX12_number_27, ↓tX12_number_28, ↓tX12_number_29, ↓tX12_number_32, ↓tX12_number_33, ↓tX12_number_36, ↓tX12_number_37, ↓tX12_number_39, ↓tX12_number_40, ↓tX12_number_43, ↓tX12_number_46, ↓tX12_number_49, ↓tX12_number_50, ↓tX12_number_51, ↓tX12_number_52, ↓tX12_number_53, ↓tX12_number_56, ↓tX12_number_59, ↓oAl, ↓oGet, ↓oGo, ↓oIald, ↓oIast, ↓oIf1le, ↓oIf2ge, ↓oIl, ↓oInc, ↓oIs, ↓oK, ↓oMul, ↓oVret, q_set_s, q_set_n, q_md_0, mO_len, q_up_a, mO_47, md_47, mds_47, z_clamp, z_ltI, z_leI, z_eqI, z_lt0, z_ge0, z_eq0I, z_gt0I, z_le0I, z_m1lt, z_m1ge, z_m1eq, z_m1eq', z_inT, z_add, z_sub, z_mul, z_div, z_rem, n_ltT, n_ltF, n_leT, n_leF, n_eqT, n_eqF, z_11, q_tl_i, q_tl_n, q_ap_n, q_ap_c]
          refine q_X.lv2 _ ?_ h'
          exact ⟨rfl, rfl, rfl, rfl, trivial⟩) (3 ^ len) 0 g (by omega) h1 (fun v' hv' => absurd hv' (by omega))
        rw [Nat.add_zero, Nat.add_zero] at h'
        refine q_X.run sX12_number [24] 20 ?_
        simp (maxSteps := 10000000) (disch := omega) only [↓q_run_s, q_stop_n, q_stop_c, q_lg_c, q_ls_d, q_ld_n, q_ld_c, q_cat_i, q_cat_r, q_cat_n, q_wd_n, q_wd_c, q_bx_1, q_bx_2, q_bx_3, q_bx_4, q_bx_5, q_bx_6, q_bx_7, q_bx_8, q_pop_0, q_pop_s, ↓reduceIte, Nat.reduceEqDiff, reduceCtorEq, eq_self, Bool.false_eq_true, Nat.reduceAdd, Nat.reduceSub, Nat.reduceMul, Nat.reduceLeDiff, Nat.reduceLT, Nat.le_refl, Nat.zero_le, true_and, and_true, false_and, and_false, or_false, false_or, true_or, or_true, not_true_eq_false, not_false_eq_true, if_true, if_false, List.getElem?_cons_zero, List.getElem?_cons_succ, List.set_cons_zero, List.set_cons_succ, List.length_cons, List.length_nil, ↓tX12_number_0, ↓tX12_number_1, ↓tX12_number_4, ↓tX12_number_5, ↓tX12_number_6, ↓tX12_number_9, ↓tX12_number_10, ↓tX12_number_11, ↓tX12_number_12, ↓tX12_number_13, ↓tX12_number_14, ↓tX12_number_15, ↓tX12_number_16, ↓tX12_number_17, ↓tX12_number_18, ↓tX12_number_21, ↓tX12_number_22, ↓tX12_number_24, ↓tX12_number_26, ↓tX12_number_27, ↓tX12_number_28, ↓tX12_number_29, ↓tX12_number_32, ↓tX12_number_33, ↓tX12_number_36, ↓tX12_number_37, ↓tX12_number_39, ↓tX12_number_40, ↓tX12_number_43, ↓tX12_number_46, ↓tX12_number_49, ↓tX12_number_50, ↓tX12_number_51, ↓tX12_number_52, ↓tX12_number_53, ↓tX12_number_56, ↓tX12_number_59, ↓oAl, ↓oGet, ↓oGo, ↓oIald, ↓oIast, ↓oIf1le, ↓oIf2ge, ↓oIl, ↓oInc, ↓oIs, ↓oK, ↓oMul, ↓oVret, q_set_s, q_set_n, q_md_0, mO_len, q_up_a, mO_47, md_47, mds_47, z_clamp, z_ltI, z_leI, z_eqI, z_lt0, z_ge0, z_eq0I, z_gt0I, z_le0I, z_m1lt, z_m1ge, z_m1eq, z_m1eq', z_inT, z_add, z_sub, z_mul, z_div, z_rem, n_ltT, n_ltF, n_leT, n_leF, n_eqT, n_eqF, z_11, q_tl_i, q_tl_n, q_ap_n, q_ap_c]
        refine q_X.lv2 _ ?_ h'
        exact ⟨rfl, rfl, rfl, rfl, rfl, trivial⟩
    have h' := outer 5 0 (A 47) rfl (fun n v hn => absurd hn (by omega))
    rw [q_upid] at h'
    refine q_X.run sX12_number [16] 20 ?_
    simp (maxSteps := 10000000) (disch := omega) only [↓q_run_s, q_stop_n, q_stop_c, q_lg_c, q_ls_d, q_ld_n, q_ld_c, q_cat_i, q_cat_r, q_cat_n, q_wd_n, q_wd_c, q_bx_1, q_bx_2, q_bx_3, q_bx_4, q_bx_5, q_bx_6, q_bx_7, q_bx_8, q_pop_0, q_pop_s, ↓reduceIte, Nat.reduceEqDiff, reduceCtorEq, eq_self, Bool.false_eq_true, Nat.reduceAdd, Nat.reduceSub, Nat.reduceMul, Nat.reduceLeDiff, Nat.reduceLT, Nat.le_refl, Nat.zero_le, true_and, and_true, false_and, and_false, or_false, false_or, true_or, or_true, not_true_eq_false, not_false_eq_true, if_true, if_false, List.getElem?_cons_zero, List.getElem?_cons_succ, List.set_cons_zero, List.set_cons_succ, List.length_cons, List.length_nil, ↓tX12_number_0, ↓tX12_number_1, ↓tX12_number_4, ↓tX12_number_5, ↓tX12_number_6, ↓tX12_number_9, ↓tX12_number_10, ↓tX12_number_11, ↓tX12_number_12, ↓tX12_number_13, ↓tX12_number_14, ↓tX12_number_15, ↓tX12_number_16, ↓tX12_number_17, ↓tX12_number_18, ↓tX12_number_21, ↓tX12_number_22, ↓tX12_number_24, ↓tX12_number_26, ↓tX12_number_27, ↓tX12_number_28, ↓tX12_number_29, ↓tX12_number_32, ↓tX12_number_33, ↓tX12_number_36, ↓tX12_number_37, ↓tX12_number_39, ↓tX12_number_40, ↓tX12_number_43, ↓tX12_number_46, ↓tX12_number_49, ↓tX12_number_50, ↓tX12_number_51, ↓tX12_number_52, ↓tX12_number_53, ↓tX12_number_56, ↓tX12_number_59, ↓oAl, ↓oGet, ↓oGo, ↓oIald, ↓oIast, ↓oIf1le, ↓oIf2ge, ↓oIl, ↓oInc, ↓oIs, ↓oK, ↓oMul, ↓oVret, q_set_s, q_set_n, q_md_0, mO_len, q_up_a, mO_47, md_47, mds_47, z_clamp, z_ltI, z_leI, z_eqI, z_lt0, z_ge0, z_eq0I, z_gt0I, z_le0I, z_m1lt, z_m1ge, z_m1eq, z_m1eq', z_inT, z_add, z_sub, z_mul, z_div, z_rem, n_ltT, n_ltF, n_leT, n_leF, n_eqT, n_eqF, z_11, q_tl_i, q_tl_n, q_ap_n, q_ap_c, h0]
    refine q_X.lv2 _ ?_ h'
    exact ⟨rfl, rfl, rfl, rfl, trivial⟩
  · have h' := hQ (A 47) (by rw [q_upid]; exact h0)
    rw [q_upid] at h'
    have e : A 47 0 = nI 1 := h0 0 0 (by decide) (by decide)
    refine q_X.run sX12_number [] 20 ?_
    simp (maxSteps := 10000000) (disch := omega) only [↓q_run_s, q_stop_n, q_stop_c, q_lg_c, q_ls_d, q_ld_n, q_ld_c, q_cat_i, q_cat_r, q_cat_n, q_wd_n, q_wd_c, q_bx_1, q_bx_2, q_bx_3, q_bx_4, q_bx_5, q_bx_6, q_bx_7, q_bx_8, q_pop_0, q_pop_s, ↓reduceIte, Nat.reduceEqDiff, reduceCtorEq, eq_self, Bool.false_eq_true, Nat.reduceAdd, Nat.reduceSub, Nat.reduceMul, Nat.reduceLeDiff, Nat.reduceLT, Nat.le_refl, Nat.zero_le, true_and, and_true, false_and, and_false, or_false, false_or, true_or, or_true, not_true_eq_false, not_false_eq_true, if_true, if_false, List.getElem?_cons_zero, List.getElem?_cons_succ, List.set_cons_zero, List.set_cons_succ, List.length_cons, List.length_nil, ↓tX12_number_0, ↓tX12_number_1, ↓tX12_number_4, ↓tX12_number_5, ↓tX12_number_6, ↓tX12_number_9, ↓tX12_number_10, ↓tX12_number_11, ↓tX12_number_12, ↓tX12_number_13, ↓tX12_number_14, ↓tX12_number_15, ↓tX12_number_16, ↓tX12_number_17, ↓tX12_number_18, ↓tX12_number_21, ↓tX12_number_22, ↓tX12_number_24, ↓tX12_number_26, ↓tX12_number_27, ↓tX12_number_28, ↓tX12_number_29, ↓tX12_number_32, ↓tX12_number_33, ↓tX12_number_36, ↓tX12_number_37, ↓tX12_number_39, ↓tX12_number_40, ↓tX12_number_43, ↓tX12_number_46, ↓tX12_number_49, ↓tX12_number_50, ↓tX12_number_51, ↓tX12_number_52, ↓tX12_number_53, ↓tX12_number_56, ↓tX12_number_59, ↓oAl, ↓oGet, ↓oGo, ↓oIald, ↓oIast, ↓oIf1le, ↓oIf2ge, ↓oIl, ↓oInc, ↓oIs, ↓oK, ↓oMul, ↓oVret, q_set_s, q_set_n, q_md_0, mO_len, q_up_a, mO_47, md_47, mds_47, z_clamp, z_ltI, z_leI, z_eqI, z_lt0, z_ge0, z_eq0I, z_gt0I, z_le0I, z_m1lt, z_m1ge, z_m1eq, z_m1eq', z_inT, z_add, z_sub, z_mul, z_div, z_rem, n_ltT, n_ltF, n_leT, n_leF, n_eqT, n_eqF, z_11, q_tl_i, q_tl_n, q_ap_n, q_ap_c, e]
    exact h'
/-- what knowing a node's meaning leaves -/
def m_Kn (s : Nat → Int32) (A : Nat → Nat → Int32) (B : Nat → Nat → Int64) (n : Nat) (t : qT) (s' : Nat → Int32) (A' : Nat → Nat → Int32) (B' : Nat → Nat → Int64) : Prop := (∀ k, k ≠ 2 → s' k = s k) ∧ (∀ f, f ≠ 1 → f ≠ 44 → f ≠ 47 → A' f = A f) ∧ (∀ q, q ≠ n → A' 44 q = A 44 q) ∧ A' 44 n = nI 1 ∧ (m_Num A' ∨ A' 47 = A 47) ∧ (∀ f, f ≠ 45 → f ≠ 46 → B' f = B f) ∧ (∀ q, q ≠ n → B' 45 q = B 45 q ∧ B' 46 q = B 46 q) ∧ ∃ Lo Hi, B' 45 n = nL Lo ∧ B' 46 n = nL Hi ∧ z_LH t Lo Hi
set_option maxRecDepth 100000 in
set_option maxHeartbeats 8000000 in
theorem c12_know {n : Nat} {t : qT} (h47 : A 47 0 = nI 0 ∨ m_Num A) (ht : t_mr A t n) (hn : n < 6000) (hK : (A 44 n = nI 0 ∧ B 45 n = nL 0 ∧ B 46 n = nL 0) ∨ (A 44 n = nI 1 ∧ ∃ Lo Hi, B 45 n = nL Lo ∧ B 46 n = nL Hi ∧ z_LH t Lo Hi)) (hd : 3 * t_nodes t + 2 ≤ d) (hQ : ∀ s' A' B', m_Kn s A B n t s' A' B' → Q none (q_md M0 r s' A' B')) : q_Call G L d mX12_know 0 0 [.ref r, .int (nI n)] (q_md M0 r s A B) Q := by
  refine q_Call.of [(0, .ref r), (1, .int (nI n))] rfl ?_
  rcases hK with ⟨k1, k2, k3⟩ | ⟨k1, k2⟩
  · refine q_X.run sX12_know [] 20 ?_
    simp (maxSteps := 10000000) (disch := omega) only [↓q_run_s, q_stop_n, q_stop_c, q_lg_c, q_ls_d, q_ld_n, q_ld_c, q_cat_i, q_cat_r, q_cat_n, q_wd_n, q_wd_c, q_bx_1, q_bx_2, q_bx_3, q_bx_4, q_bx_5, q_bx_6, q_bx_7, q_bx_8, q_pop_0, q_pop_s, ↓reduceIte, Nat.reduceEqDiff, reduceCtorEq, eq_self, Bool.false_eq_true, Nat.reduceAdd, Nat.reduceSub, Nat.reduceMul, Nat.reduceLeDiff, Nat.reduceLT, Nat.le_refl, Nat.zero_le, true_and, and_true, false_and, and_false, or_false, false_or, true_or, or_true, not_true_eq_false, not_false_eq_true, if_true, if_false, List.getElem?_cons_zero, List.getElem?_cons_succ, List.set_cons_zero, List.set_cons_succ, List.length_cons, List.length_nil, ↓tX12_know_0, ↓tX12_know_1, ↓tX12_know_4, ↓tX12_know_5, ↓tX12_know_6, ↓tX12_know_9, ↓tX12_know_10, ↓tX12_know_11, ↓tX12_know_14, ↓tX12_know_15, ↓tX12_know_18, ↓tX12_know_19, ↓tX12_know_20, ↓tX12_know_21, ↓tX12_know_22, ↓tX12_know_23, ↓tX12_know_24, ↓tX12_know_26, ↓tX12_know_29, ↓tX12_know_30, ↓tX12_know_31, ↓tX12_know_34, ↓tX12_know_35, ↓tX12_know_36, ↓tX12_know_37, ↓tX12_know_40, ↓tX12_know_41, ↓tX12_know_42, ↓tX12_know_43, ↓tX12_know_46, ↓tX12_know_49, ↓tX12_know_52, ↓tX12_know_53, ↓tX12_know_55, ↓tX12_know_58, ↓tX12_know_59, ↓tX12_know_62, ↓tX12_know_63, ↓tX12_know_64, ↓tX12_know_65, ↓tX12_know_66, ↓tX12_know_67, ↓tX12_know_68, ↓tX12_know_69, ↓tX12_know_70, ↓tX12_know_73, ↓tX12_know_74, ↓tX12_know_77, ↓tX12_know_78, ↓tX12_know_79, ↓tX12_know_80, ↓tX12_know_81, ↓tX12_know_82, ↓tX12_know_84, ↓tX12_know_85, ↓tX12_know_86, ↓tX12_know_87, ↓tX12_know_88, ↓tX12_know_91, ↓tX12_know_94, ↓oAl, ↓oCallV, ↓oDup2, ↓oGet, ↓oGo, ↓oIald, ↓oIf1eq, ↓oIf1ne, ↓oIf2ge, ↓oIl, ↓oInc, ↓oIs, ↓oK, ↓oLald, ↓oLast, ↓oLor, ↓oLshl, ↓oSub, ↓oVret, ↓oZald, ↓oZast, q_set_s, q_set_n, q_md_0, mO_len, q_up_a, mO_44, md_44, mds_44, mO_47, md_47, mds_47, mO_45, md_45, mds_45, mO_46, md_46, mds_46, z_clamp, z_ltI, z_leI, z_eqI, z_lt0, z_ge0, z_eq0I, z_gt0I, z_le0I, z_m1lt, z_m1ge, z_m1eq, z_m1eq', z_inT, z_add, z_sub, z_mul, z_div, z_rem, n_ltT, n_ltF, n_leT, n_leF, n_eqT, n_eqF, z_11, q_tl_i, q_tl_n, q_ap_n, q_ap_c, k1]
    refine c12_number h47 fun g hg => ?_
    have hnum : ∀ n v, n ≤ 4 → v < 3 ^ n → g (z_o n + v) = nI (3 ^ n + v) := fun n v hn hv => by
      have := hg n v hn hv
      rw [va_up_self] at this
      exact this
    have loop : ∀ (q k Lo Hi : Nat) (x : Int32) (f : Nat → Int32), q + k = 121 → z_LHk t k Lo Hi → q_X G L d mX12_know 0 0 Q 23 [(0, .ref r), (1, .int (nI n)), (2, .int (nI k))] [] (q_md M0 r (va_up s 2 x) (va_up (va_up (va_up A 47 g) 44 (upd (A 44) n (nI 1))) 1 f) (va_up (va_up B 45 (vp_updL (B 45) n (nL Lo))) 46 (vp_updL (B 46) n (nL Hi)))) 0 0 := by
      intro q
      induction q with
      | zero =>
        intro k Lo Hi x f hk hLH
        have e : k = 121 := by omega
        subst e
        have h' := hQ _ _ _ (show m_Kn s A B n t (va_up s 2 x) (va_up (va_up (va_up A 47 g) 44 (upd (A 44) n (nI 1))) 1 f) (va_up (va_up B 45 (vp_updL (B 45) n (nL Lo))) 46 (vp_updL (B 46) n (nL Hi))) from ⟨fun k hk => va_up_ne _ _ hk, fun f' h1 h2 h3 => by rw [va_up_ne _ _ h1, va_up_ne _ _ h2, va_up_ne _ _ h3], fun q hq => by rw [va_up_ne _ _ (by decide), va_up_self, q_ud_n _ _ hq], by rw [va_up_ne _ _ (by decide), va_up_self, q_ud_s], Or.inl (fun n' v hn' hv => by rw [va_up_ne _ _ (by decide), va_up_ne _ _ (by decide), va_up_self]; exact hnum n' v hn' hv), fun f' h1 h2 => by rw [va_up_ne _ _ h2, va_up_ne _ _ h1], fun q hq => by rw [va_up_ne _ _ (by decide), va_up_self, va_up_self, lu_n _ _ hq, lu_n _ _ hq]; exact ⟨rfl, rfl⟩, Lo, Hi, by rw [va_up_ne _ _ (by decide), va_up_self, lu_s], by rw [va_up_self, lu_s], z_LHk_121 hLH⟩)
        refine q_X.run sX12_know [] 20 ?_
        simp (maxSteps := 10000000) (disch := omega) only [↓q_run_s, q_stop_n, q_stop_c, q_lg_c, q_ls_d, q_ld_n, q_ld_c, q_cat_i, q_cat_r, q_cat_n, q_wd_n, q_wd_c, q_bx_1, q_bx_2, q_bx_3, q_bx_4, q_bx_5, q_bx_6, q_bx_7, q_bx_8, q_pop_0, q_pop_s, ↓reduceIte, Nat.reduceEqDiff, reduceCtorEq, eq_self, Bool.false_eq_true, Nat.reduceAdd, Nat.reduceSub, Nat.reduceMul, Nat.reduceLeDiff, Nat.reduceLT, Nat.le_refl, Nat.zero_le, true_and, and_true, false_and, and_false, or_false, false_or, true_or, or_true, not_true_eq_false, not_false_eq_true, if_true, if_false, List.getElem?_cons_zero, List.getElem?_cons_succ, List.set_cons_zero, List.set_cons_succ, List.length_cons, List.length_nil, ↓tX12_know_0, ↓tX12_know_1, ↓tX12_know_4, ↓tX12_know_5, ↓tX12_know_6, ↓tX12_know_9, ↓tX12_know_10, ↓tX12_know_11, ↓tX12_know_14, ↓tX12_know_15, ↓tX12_know_18, ↓tX12_know_19, ↓tX12_know_20, ↓tX12_know_21, ↓tX12_know_22, ↓tX12_know_23, ↓tX12_know_24, ↓tX12_know_26, ↓tX12_know_29, ↓tX12_know_30, ↓tX12_know_31, ↓tX12_know_34, ↓tX12_know_35, ↓tX12_know_36, ↓tX12_know_37, ↓tX12_know_40, ↓tX12_know_41, ↓tX12_know_42, ↓tX12_know_43, ↓tX12_know_46, ↓tX12_know_49, ↓tX12_know_52, ↓tX12_know_53, ↓tX12_know_55, ↓tX12_know_58, ↓tX12_know_59, ↓tX12_know_62, ↓tX12_know_63, ↓tX12_know_64, ↓tX12_know_65, ↓tX12_know_66, ↓tX12_know_67, ↓tX12_know_68, ↓tX12_know_69, ↓tX12_know_70, ↓tX12_know_73, ↓tX12_know_74, ↓tX12_know_77, ↓tX12_know_78, ↓tX12_know_79, ↓tX12_know_80, ↓tX12_know_81, ↓tX12_know_82, ↓tX12_know_84, ↓tX12_know_85, ↓tX12_know_86, ↓tX12_know_87, ↓tX12_know_88, ↓tX12_know_91, ↓tX12_know_94, ↓oAl, ↓oCallV, ↓oDup2, ↓oGet, ↓oGo, ↓oIald, ↓oIf1eq, ↓oIf1ne, ↓oIf2ge, ↓oIl, ↓oInc, ↓oIs, ↓oK, ↓oLald, ↓oLast, ↓oLor, ↓oLshl, ↓oSub, ↓oVret, ↓oZald, ↓oZast, q_set_s, q_set_n, q_md_0, mO_len, q_up_a, mO_44, md_44, mds_44, mO_47, md_47, mds_47, mO_45, md_45, mds_45, mO_46, md_46, mds_46, z_clamp, z_ltI, z_leI, z_eqI, z_lt0, z_ge0, z_eq0I, z_gt0I, z_le0I, z_m1lt, z_m1ge, z_m1eq, z_m1eq', z_inT, z_add, z_sub, z_mul, z_div, z_rem, n_ltT, n_ltF, n_leT, n_leF, n_eqT, n_eqF, z_11, q_tl_i, q_tl_n, q_ap_n, q_ap_c]
        exact h'
      | succ q ih =>
        intro k Lo Hi x f hk hLH
        obtain ⟨n', v, hn', hv, ek⟩ := z_dec (k := k) (by omega)
        have hgk : g k = nI (3 ^ n' + v) := by rw [ek]; exact hnum n' v hn' hv
        have hpw := q_pow_le (n := n') (by omega)
        have hrow : q_isRow (nI (3 ^ n' + v)) n' (3 ^ n' + v) := ⟨rfl, by omega, by omega, by omega⟩
        refine q_X.run sX12_know [] 40 ?_
        simp (maxSteps := 10000000) (disch := omega) only [↓q_run_s, q_stop_n, q_stop_c, q_lg_c, q_ls_d, q_ld_n, q_ld_c, q_cat_i, q_cat_r, q_cat_n, q_wd_n, q_wd_c, q_bx_1, q_bx_2, q_bx_3, q_bx_4, q_bx_5, q_bx_6, q_bx_7, q_bx_8, q_pop_0, q_pop_s, ↓reduceIte, Nat.reduceEqDiff, reduceCtorEq, eq_self, Bool.false_eq_true, Nat.reduceAdd, Nat.reduceSub, Nat.reduceMul, Nat.reduceLeDiff, Nat.reduceLT, Nat.le_refl, Nat.zero_le, true_and, and_true, false_and, and_false, or_false, false_or, true_or, or_true, not_true_eq_false, not_false_eq_true, if_true, if_false, List.getElem?_cons_zero, List.getElem?_cons_succ, List.set_cons_zero, List.set_cons_succ, List.length_cons, List.length_nil, ↓tX12_know_0, ↓tX12_know_1, ↓tX12_know_4, ↓tX12_know_5, ↓tX12_know_6, ↓tX12_know_9, ↓tX12_know_10, ↓tX12_know_11, ↓tX12_know_14, ↓tX12_know_15, ↓tX12_know_18, ↓tX12_know_19, ↓tX12_know_20, ↓tX12_know_21, ↓tX12_know_22, ↓tX12_know_23, ↓tX12_know_24, ↓tX12_know_26, ↓tX12_know_29, ↓tX12_know_30, ↓tX12_know_31, ↓tX12_know_34, ↓tX12_know_35, ↓tX12_know_36, ↓tX12_know_37, ↓tX12_know_40, ↓tX12_know_41, ↓tX12_know_42, ↓tX12_know_43, ↓tX12_know_46, ↓tX12_know_49, ↓tX12_know_52, ↓tX12_know_53, ↓tX12_know_55, ↓tX12_know_58, ↓tX12_know_59, ↓tX12_know_62, ↓tX12_know_63, ↓tX12_know_64, ↓tX12_know_65, ↓tX12_know_66, ↓tX12_know_67, ↓tX12_know_68, ↓tX12_know_69, ↓tX12_know_70, ↓tX12_know_73, ↓tX12_know_74, ↓tX12_know_77, ↓tX12_know_78, ↓tX12_know_79, ↓tX12_know_80, ↓tX12_know_81, ↓tX12_know_82, ↓tX12_know_84, ↓tX12_know_85, ↓tX12_know_86, ↓tX12_know_87, ↓tX12_know_88, ↓tX12_know_91, ↓tX12_know_94, ↓oAl, ↓oCallV, ↓oDup2, ↓oGet, ↓oGo, ↓oIald, ↓oIf1eq, ↓oIf1ne, ↓oIf2ge, ↓oIl, ↓oInc, ↓oIs, ↓oK, ↓oLald, ↓oLast, ↓oLor, ↓oLshl, ↓oSub, ↓oVret, ↓oZald, ↓oZast, q_set_s, q_set_n, q_md_0, mO_len, q_up_a, mO_44, md_44, mds_44, mO_47, md_47, mds_47, mO_45, md_45, mds_45, mO_46, md_46, mds_46, z_clamp, z_ltI, z_leI, z_eqI, z_lt0, z_ge0, z_eq0I, z_gt0I, z_le0I, z_m1lt, z_m1ge, z_m1eq, z_m1eq', z_inT, z_add, z_sub, z_mul, z_div, z_rem, n_ltT, n_ltF, n_leT, n_leF, n_eqT, n_eqF, z_11, q_tl_i, q_tl_n, q_ap_n, q_ap_c, hgk, va_up_ne, va_up_self]
        refine c12_take (by decide) (fun n2 N2 f2 hr2 hn2 hf2 => ?_) (fun hno => absurd hrow (hno _ _ hn'))
        obtain ⟨e1, e2⟩ := q_isRow_inj hr2 hrow
        subst e1 e2
        rw [q_upup, q_upup]
        have hrw : m_row (va_up s 2 (nI n2)) (va_up (va_up (va_up A 47 g) 44 (upd (A 44) n (nI 1))) 1 f2) (w_at (3 ^ n2 + v) n2) n2 := ⟨by omega, va_up_self _ _ _, fun j hj => ⟨w_at_lt _ _ _, by rw [va_up_self]; exact hf2 j hj⟩⟩
        have ht' : t_mr (va_up (va_up (va_up A 47 g) 44 (upd (A 44) n (nI 1))) 1 f2) t n := t_mr_up (by decide) (t_mr_up (by decide) (t_mr_up (by decide) ht))
        obtain ⟨l1, l2, l3⟩ := hLH
        refine q_X.run sX12_know [] 40 ?_
        simp (maxSteps := 10000000) (disch := omega) only [↓q_run_s, q_stop_n, q_stop_c, q_lg_c, q_ls_d, q_ld_n, q_ld_c, q_cat_i, q_cat_r, q_cat_n, q_wd_n, q_wd_c, q_bx_1, q_bx_2, q_bx_3, q_bx_4, q_bx_5, q_bx_6, q_bx_7, q_bx_8, q_pop_0, q_pop_s, ↓reduceIte, Nat.reduceEqDiff, reduceCtorEq, eq_self, Bool.false_eq_true, Nat.reduceAdd, Nat.reduceSub, Nat.reduceMul, Nat.reduceLeDiff, Nat.reduceLT, Nat.le_refl, Nat.zero_le, true_and, and_true, false_and, and_false, or_false, false_or, true_or, or_true, not_true_eq_false, not_false_eq_true, if_true, if_false, List.getElem?_cons_zero, List.getElem?_cons_succ, List.set_cons_zero, List.set_cons_succ, List.length_cons, List.length_nil, ↓tX12_know_0, ↓tX12_know_1, ↓tX12_know_4, ↓tX12_know_5, ↓tX12_know_6, ↓tX12_know_9, ↓tX12_know_10, ↓tX12_know_11, ↓tX12_know_14, ↓tX12_know_15, ↓tX12_know_18, ↓tX12_know_19, ↓tX12_know_20, ↓tX12_know_21, ↓tX12_know_22, ↓tX12_know_23, ↓tX12_know_24, ↓tX12_know_26, ↓tX12_know_29, ↓tX12_know_30, ↓tX12_know_31, ↓tX12_know_34, ↓tX12_know_35, ↓tX12_know_36, ↓tX12_know_37, ↓tX12_know_40, ↓tX12_know_41, ↓tX12_know_42, ↓tX12_know_43, ↓tX12_know_46, ↓tX12_know_49, ↓tX12_know_52, ↓tX12_know_53, ↓tX12_know_55, ↓tX12_know_58, ↓tX12_know_59, ↓tX12_know_62, ↓tX12_know_63, ↓tX12_know_64, ↓tX12_know_65, ↓tX12_know_66, ↓tX12_know_67, ↓tX12_know_68, ↓tX12_know_69, ↓tX12_know_70, ↓tX12_know_73, ↓tX12_know_74, ↓tX12_know_77, ↓tX12_know_78, ↓tX12_know_79, ↓tX12_know_80, ↓tX12_know_81, ↓tX12_know_82, ↓tX12_know_84, ↓tX12_know_85, ↓tX12_know_86, ↓tX12_know_87, ↓tX12_know_88, ↓tX12_know_91, ↓tX12_know_94, ↓oAl, ↓oCallV, ↓oDup2, ↓oGet, ↓oGo, ↓oIald, ↓oIf1eq, ↓oIf1ne, ↓oIf2ge, ↓oIl, ↓oInc, ↓oIs, ↓oK, ↓oLald, ↓oLast, ↓oLor, ↓oLshl, ↓oSub, ↓oVret, ↓oZald, ↓oZast, q_set_s, q_set_n, q_md_0, mO_len, q_up_a, mO_44, md_44, mds_44, mO_47, md_47, mds_47, mO_45, md_45, mds_45, mO_46, md_46, mds_46, z_clamp, z_ltI, z_leI, z_eqI, z_lt0, z_ge0, z_eq0I, z_gt0I, z_le0I, z_m1lt, z_m1ge, z_m1eq, z_m1eq', z_inT, z_add, z_sub, z_mul, z_div, z_rem, n_ltT, n_ltF, n_leT, n_leF, n_eqT, n_eqF, z_11, q_tl_i, q_tl_n, q_ap_n, q_ap_c]
        refine c12_isFit hrw ht' (by omega) (fun hs => ?_) (fun hs => ?_)
        · have hs : z_S t n2 v := hs
          by_cases c64 : k < 64
          · have h' := ih (k + 1) (Lo ||| 2 ^ k) Hi (nI n2) f2 (by omega) ⟨Nat.or_lt_two_pow (n := 64) l1 (Nat.pow_lt_pow_right (by decide) c64), l2, fun m u hm hu => by
              obtain ⟨g1, g2⟩ := l3 m u hm hu
              refine ⟨fun h => ?_, fun h => (g2 h).trans ⟨fun x => ⟨by omega, x.2⟩, fun x => ⟨by omega, x.2⟩⟩⟩
              rw [Nat.testBit_or, Bool.or_eq_true, g1 h, Nat.testBit_two_pow, decide_eq_true_iff]
              constructor
              · rintro (⟨y1, y2⟩ | y)
                · exact ⟨by omega, y2⟩
                · obtain ⟨z1, z2⟩ := z_o_inj hm hu hn' hv (by omega)
                  subst z1 z2
                  exact ⟨by omega, hs⟩
              · rintro ⟨y1, y2⟩
                rcases Nat.lt_or_eq_of_le (Nat.le_of_lt_succ y1) with z | z
                · exact Or.inl ⟨z, y2⟩
                · exact Or.inr z.symm⟩
            have eB : ∀ a b c, va_up (va_up (va_up B 45 a) 46 b) 45 c = va_up (va_up B 45 c) 46 b := fun a b c => by
              funext q'
              unfold va_up
              by_cases c1 : q' = 45
              · rw [if_pos c1, if_neg (by omega), if_pos c1]
              · by_cases c2 : q' = 46
                · rw [if_neg c1, if_pos c2, if_pos c2]
                · rw [if_neg c1, if_neg c2, if_neg c1, if_neg c2, if_neg c1]
            have eU : vp_updL (vp_updL (B 45) n (nL Lo)) n (nL (Lo ||| 2 ^ k)) = vp_updL (B 45) n (nL (Lo ||| 2 ^ k)) := by
              funext q'
              by_cases c1 : q' = n
              · rw [c1, lu_s, lu_s]
              · rw [lu_n _ _ c1, lu_n _ _ c1, lu_n _ _ c1]
            refine q_X.run sX12_know [23] 60 ?_
            simp (maxSteps := 10000000) (disch := omega) only [↓q_run_s, q_stop_n, q_stop_c, q_lg_c, q_ls_d, q_ld_n, q_ld_c, q_cat_i, q_cat_r, q_cat_n, q_wd_n, q_wd_c, q_bx_1, q_bx_2, q_bx_3, q_bx_4, q_bx_5, q_bx_6, q_bx_7, q_bx_8, q_pop_0, q_pop_s, ↓reduceIte, Nat.reduceEqDiff, reduceCtorEq, eq_self, Bool.false_eq_true, Nat.reduceAdd, Nat.reduceSub, Nat.reduceMul, Nat.reduceLeDiff, Nat.reduceLT, Nat.le_refl, Nat.zero_le, true_and, and_true, false_and, and_false, or_false, false_or, true_or, or_true, not_true_eq_false, not_false_eq_true, if_true, if_false, List.getElem?_cons_zero, List.getElem?_cons_succ, List.set_cons_zero, List.set_cons_succ, List.length_cons, List.length_nil, ↓tX12_know_0, ↓tX12_know_1, ↓tX12_know_4, ↓tX12_know_5, ↓tX12_know_6, ↓tX12_know_9, ↓tX12_know_10, ↓tX12_know_11, ↓tX12_know_14, ↓tX12_know_15, ↓tX12_know_18, ↓tX12_know_19, ↓tX12_know_20, ↓tX12_know_21, ↓tX12_know_22, ↓tX12_know_23, ↓tX12_know_24, ↓tX12_know_26, ↓tX12_know_29, ↓tX12_know_30, ↓tX12_know_31, ↓tX12_know_34, ↓tX12_know_35, ↓tX12_know_36, ↓tX12_know_37, ↓tX12_know_40, ↓tX12_know_41, ↓tX12_know_42, ↓tX12_know_43, ↓tX12_know_46, ↓tX12_know_49, ↓tX12_know_52, ↓tX12_know_53, ↓tX12_know_55, ↓tX12_know_58, ↓tX12_know_59, ↓tX12_know_62, ↓tX12_know_63, ↓tX12_know_64, ↓tX12_know_65, ↓tX12_know_66, ↓tX12_know_67, ↓tX12_know_68, ↓tX12_know_69, ↓tX12_know_70, ↓tX12_know_73, ↓tX12_know_74, ↓tX12_know_77, ↓tX12_know_78, ↓tX12_know_79, ↓tX12_know_80, ↓tX12_know_81, ↓tX12_know_82, ↓tX12_know_84, ↓tX12_know_85, ↓tX12_know_86, ↓tX12_know_87, ↓tX12_know_88, ↓tX12_know_91, ↓tX12_know_94, ↓oAl, ↓oCallV, ↓oDup2, ↓oGet, ↓oGo, ↓oIald, ↓oIf1eq, ↓oIf1ne, ↓oIf2ge, ↓oIl, ↓oInc, ↓oIs, ↓oK, ↓oLald, ↓oLast, ↓oLor, ↓oLshl, ↓oSub, ↓oVret, ↓oZald, ↓oZast, q_set_s, q_set_n, q_md_0, mO_len, q_up_a, mO_44, md_44, mds_44, mO_47, md_47, mds_47, mO_45, md_45, mds_45, mO_46, md_46, mds_46, z_clamp, z_ltI, z_leI, z_eqI, z_lt0, z_ge0, z_eq0I, z_gt0I, z_le0I, z_m1lt, z_m1ge, z_m1eq, z_m1eq', z_inT, z_add, z_sub, z_mul, z_div, z_rem, n_ltT, n_ltF, n_leT, n_leF, n_eqT, n_eqF, z_11, q_tl_i, q_tl_n, q_ap_n, q_ap_c, va_up_ne, va_up_self, lu_s, l_c1, l_shl1', l_or, eB, eU]
            refine q_X.lv2 _ ?_ h'
            exact ⟨rfl, rfl, rfl, trivial⟩
          · have h' := ih (k + 1) Lo (Hi ||| 2 ^ (k - 64)) (nI n2) f2 (by omega) ⟨l1, Nat.or_lt_two_pow (n := 57) l2 (Nat.pow_lt_pow_right (by decide) (by omega)), fun m u hm hu => by
              obtain ⟨g1, g2⟩ := l3 m u hm hu
              refine ⟨fun h => (g1 h).trans ⟨fun x => ⟨by omega, x.2⟩, fun x => ⟨by omega, x.2⟩⟩, fun h => ?_⟩
              rw [Nat.testBit_or, Bool.or_eq_true, g2 h, Nat.testBit_two_pow, decide_eq_true_iff]
              constructor
              · rintro (⟨y1, y2⟩ | y)
                · exact ⟨by omega, y2⟩
                · obtain ⟨z1, z2⟩ := z_o_inj hm hu hn' hv (by omega)
                  subst z1 z2
                  exact ⟨by omega, hs⟩
              · rintro ⟨y1, y2⟩
                rcases Nat.lt_or_eq_of_le (Nat.le_of_lt_succ y1) with z | z
                · exact Or.inl ⟨z, y2⟩
                · exact Or.inr (by omega)⟩
            have eU : vp_updL (vp_updL (B 46) n (nL Hi)) n (nL (Hi ||| 2 ^ (k - 64))) = vp_updL (B 46) n (nL (Hi ||| 2 ^ (k - 64))) := by
              funext q'
              by_cases c1 : q' = n
              · rw [c1, lu_s, lu_s]
              · rw [lu_n _ _ c1, lu_n _ _ c1, lu_n _ _ c1]
            refine q_X.run sX12_know [23] 60 ?_
            simp (maxSteps := 10000000) (disch := omega) only [↓q_run_s, q_stop_n, q_stop_c, q_lg_c, q_ls_d, q_ld_n, q_ld_c, q_cat_i, q_cat_r, q_cat_n, q_wd_n, q_wd_c, q_bx_1, q_bx_2, q_bx_3, q_bx_4, q_bx_5, q_bx_6, q_bx_7, q_bx_8, q_pop_0, q_pop_s, ↓reduceIte, Nat.reduceEqDiff, reduceCtorEq, eq_self, Bool.false_eq_true, Nat.reduceAdd, Nat.reduceSub, Nat.reduceMul, Nat.reduceLeDiff, Nat.reduceLT, Nat.le_refl, Nat.zero_le, true_and, and_true, false_and, and_false, or_false, false_or, true_or, or_true, not_true_eq_false, not_false_eq_true, if_true, if_false, List.getElem?_cons_zero, List.getElem?_cons_succ, List.set_cons_zero, List.set_cons_succ, List.length_cons, List.length_nil, ↓tX12_know_0, ↓tX12_know_1, ↓tX12_know_4, ↓tX12_know_5, ↓tX12_know_6, ↓tX12_know_9, ↓tX12_know_10, ↓tX12_know_11, ↓tX12_know_14, ↓tX12_know_15, ↓tX12_know_18, ↓tX12_know_19, ↓tX12_know_20, ↓tX12_know_21, ↓tX12_know_22, ↓tX12_know_23, ↓tX12_know_24, ↓tX12_know_26, ↓tX12_know_29, ↓tX12_know_30, ↓tX12_know_31, ↓tX12_know_34, ↓tX12_know_35, ↓tX12_know_36, ↓tX12_know_37, ↓tX12_know_40, ↓tX12_know_41, ↓tX12_know_42, ↓tX12_know_43, ↓tX12_know_46, ↓tX12_know_49, ↓tX12_know_52, ↓tX12_know_53, ↓tX12_know_55, ↓tX12_know_58, ↓tX12_know_59, ↓tX12_know_62, ↓tX12_know_63, ↓tX12_know_64, ↓tX12_know_65, ↓tX12_know_66, ↓tX12_know_67, ↓tX12_know_68, ↓tX12_know_69, ↓tX12_know_70, ↓tX12_know_73, ↓tX12_know_74, ↓tX12_know_77, ↓tX12_know_78, ↓tX12_know_79, ↓tX12_know_80, ↓tX12_know_81, ↓tX12_know_82, ↓tX12_know_84, ↓tX12_know_85, ↓tX12_know_86, ↓tX12_know_87, ↓tX12_know_88, ↓tX12_know_91, ↓tX12_know_94, ↓oAl, ↓oCallV, ↓oDup2, ↓oGet, ↓oGo, ↓oIald, ↓oIf1eq, ↓oIf1ne, ↓oIf2ge, ↓oIl, ↓oInc, ↓oIs, ↓oK, ↓oLald, ↓oLast, ↓oLor, ↓oLshl, ↓oSub, ↓oVret, ↓oZald, ↓oZast, q_set_s, q_set_n, q_md_0, mO_len, q_up_a, mO_44, md_44, mds_44, mO_47, md_47, mds_47, mO_45, md_45, mds_45, mO_46, md_46, mds_46, z_clamp, z_ltI, z_leI, z_eqI, z_lt0, z_ge0, z_eq0I, z_gt0I, z_le0I, z_m1lt, z_m1ge, z_m1eq, z_m1eq', z_inT, z_add, z_sub, z_mul, z_div, z_rem, n_ltT, n_ltF, n_leT, n_leF, n_eqT, n_eqF, z_11, q_tl_i, q_tl_n, q_ap_n, q_ap_c, va_up_ne, va_up_self, lu_s, l_c1, l_shl1', l_or, q_upup, eU]
            refine q_X.lv2 _ ?_ h'
            exact ⟨rfl, rfl, rfl, trivial⟩
        · have hs : ¬ z_S t n2 v := hs
          have h' := ih (k + 1) Lo Hi (nI n2) f2 (by omega) ⟨l1, l2, fun m u hm hu => by
            obtain ⟨g1, g2⟩ := l3 m u hm hu
            have key : z_o m + u < k ∧ z_S t m u ↔ z_o m + u < k + 1 ∧ z_S t m u := ⟨fun x => ⟨by omega, x.2⟩, fun x => ⟨by
              rcases Nat.lt_or_eq_of_le (Nat.le_of_lt_succ x.1) with z | z
              · exact z
              · obtain ⟨z1, z2⟩ := z_o_inj hm hu hn' hv (by omega)
                subst z1 z2
                exact absurd x.2 hs, x.2⟩⟩
            exact ⟨fun h => (g1 h).trans key, fun h => (g2 h).trans key⟩⟩
          refine q_X.run sX12_know [23] 60 ?_
          simp (maxSteps := 10000000) (disch := omega) only [↓q_run_s, q_stop_n, q_stop_c, q_lg_c, q_ls_d, q_ld_n, q_ld_c, q_cat_i, q_cat_r, q_cat_n, q_wd_n, q_wd_c, q_bx_1, q_bx_2, q_bx_3, q_bx_4, q_bx_5, q_bx_6, q_bx_7, q_bx_8, q_pop_0, q_pop_s, ↓reduceIte, Nat.reduceEqDiff, reduceCtorEq, eq_self, Bool.false_eq_true, Nat.reduceAdd, Nat.reduceSub, Nat.reduceMul, Nat.reduceLeDiff, Nat.reduceLT, Nat.le_refl, Nat.zero_le, true_and, and_true, false_and, and_false, or_false, false_or, true_or, or_true, not_true_eq_false, not_false_eq_true, if_true, if_false, List.getElem?_cons_zero, List.getElem?_cons_succ, List.set_cons_zero, List.set_cons_succ, List.length_cons, List.length_nil, ↓tX12_know_0, ↓tX12_know_1, ↓tX12_know_4, ↓tX12_know_5, ↓tX12_know_6, ↓tX12_know_9, ↓tX12_know_10, ↓tX12_know_11, ↓tX12_know_14, ↓tX12_know_15, ↓tX12_know_18, ↓tX12_know_19, ↓tX12_know_20, ↓tX12_know_21, ↓tX12_know_22, ↓tX12_know_23, ↓tX12_know_24, ↓tX12_know_26, ↓tX12_know_29, ↓tX12_know_30, ↓tX12_know_31, ↓tX12_know_34, ↓tX12_know_35, ↓tX12_know_36, ↓tX12_know_37, ↓tX12_know_40, ↓tX12_know_41, ↓tX12_know_42, ↓tX12_know_43, ↓tX12_know_46, ↓tX12_know_49, ↓tX12_know_52, ↓tX12_know_53, ↓tX12_know_55, ↓tX12_know_58, ↓tX12_know_59, ↓tX12_know_62, ↓tX12_know_63, ↓tX12_know_64, ↓tX12_know_65, ↓tX12_know_66, ↓tX12_know_67, ↓tX12_know_68, ↓tX12_know_69, ↓tX12_know_70, ↓tX12_know_73, ↓tX12_know_74, ↓tX12_know_77, ↓tX12_know_78, ↓tX12_know_79, ↓tX12_know_80, ↓tX12_know_81, ↓tX12_know_82, ↓tX12_know_84, ↓tX12_know_85, ↓tX12_know_86, ↓tX12_know_87, ↓tX12_know_88, ↓tX12_know_91, ↓tX12_know_94, ↓oAl, ↓oCallV, ↓oDup2, ↓oGet, ↓oGo, ↓oIald, ↓oIf1eq, ↓oIf1ne, ↓oIf2ge, ↓oIl, ↓oInc, ↓oIs, ↓oK, ↓oLald, ↓oLast, ↓oLor, ↓oLshl, ↓oSub, ↓oVret, ↓oZald, ↓oZast, q_set_s, q_set_n, q_md_0, mO_len, q_up_a, mO_44, md_44, mds_44, mO_47, md_47, mds_47, mO_45, md_45, mds_45, mO_46, md_46, mds_46, z_clamp, z_ltI, z_leI, z_eqI, z_lt0, z_ge0, z_eq0I, z_gt0I, z_le0I, z_m1lt, z_m1ge, z_m1eq, z_m1eq', z_inT, z_add, z_sub, z_mul, z_div, z_rem, n_ltT, n_ltF, n_leT, n_leF, n_eqT, n_eqF, z_11, q_tl_i, q_tl_n, q_ap_n, q_ap_c]
          refine q_X.lv2 _ ?_ h'
          exact ⟨rfl, rfl, rfl, trivial⟩
    have h' := loop 121 0 0 0 (s 2) (A 1) rfl ⟨by decide, by decide, fun m u hm hu => by
      rw [Nat.zero_testBit, Nat.zero_testBit]
      exact ⟨fun _ => ⟨fun h => (by cases h), fun h => absurd h.1 (by omega)⟩, fun _ => ⟨fun h => (by cases h), fun h => absurd h.1 (by omega)⟩⟩⟩
    have eL : ∀ f : Nat → Int64, f n = nL 0 → vp_updL f n (nL 0) = f := fun f hf => by
      funext q'
      by_cases c1 : q' = n
      · rw [c1, lu_s, hf]
      · rw [lu_n _ _ c1]
    rw [eL _ k2, eL _ k3, q_upid, q_upid, q_upid] at h'
    have eA : va_up (va_up (va_up A 47 g) 44 (upd (A 44) n (nI 1))) 1 (A 1) = va_up (va_up A 47 g) 44 (upd (A 44) n (nI 1)) := by
      have := q_upid (va_up (va_up A 47 g) 44 (upd (A 44) n (nI 1))) 1
      exact this
    rw [eA] at h'
    refine q_X.run sX12_know [23] 40 ?_
    simp (maxSteps := 10000000) (disch := omega) only [↓q_run_s, q_stop_n, q_stop_c, q_lg_c, q_ls_d, q_ld_n, q_ld_c, q_cat_i, q_cat_r, q_cat_n, q_wd_n, q_wd_c, q_bx_1, q_bx_2, q_bx_3, q_bx_4, q_bx_5, q_bx_6, q_bx_7, q_bx_8, q_pop_0, q_pop_s, ↓reduceIte, Nat.reduceEqDiff, reduceCtorEq, eq_self, Bool.false_eq_true, Nat.reduceAdd, Nat.reduceSub, Nat.reduceMul, Nat.reduceLeDiff, Nat.reduceLT, Nat.le_refl, Nat.zero_le, true_and, and_true, false_and, and_false, or_false, false_or, true_or, or_true, not_true_eq_false, not_false_eq_true, if_true, if_false, List.getElem?_cons_zero, List.getElem?_cons_succ, List.set_cons_zero, List.set_cons_succ, List.length_cons, List.length_nil, ↓tX12_know_0, ↓tX12_know_1, ↓tX12_know_4, ↓tX12_know_5, ↓tX12_know_6, ↓tX12_know_9, ↓tX12_know_10, ↓tX12_know_11, ↓tX12_know_14, ↓tX12_know_15, ↓tX12_know_18, ↓tX12_know_19, ↓tX12_know_20, ↓tX12_know_21, ↓tX12_know_22, ↓tX12_know_23, ↓tX12_know_24, ↓tX12_know_26, ↓tX12_know_29, ↓tX12_know_30, ↓tX12_know_31, ↓tX12_know_34, ↓tX12_know_35, ↓tX12_know_36, ↓tX12_know_37, ↓tX12_know_40, ↓tX12_know_41, ↓tX12_know_42, ↓tX12_know_43, ↓tX12_know_46, ↓tX12_know_49, ↓tX12_know_52, ↓tX12_know_53, ↓tX12_know_55, ↓tX12_know_58, ↓tX12_know_59, ↓tX12_know_62, ↓tX12_know_63, ↓tX12_know_64, ↓tX12_know_65, ↓tX12_know_66, ↓tX12_know_67, ↓tX12_know_68, ↓tX12_know_69, ↓tX12_know_70, ↓tX12_know_73, ↓tX12_know_74, ↓tX12_know_77, ↓tX12_know_78, ↓tX12_know_79, ↓tX12_know_80, ↓tX12_know_81, ↓tX12_know_82, ↓tX12_know_84, ↓tX12_know_85, ↓tX12_know_86, ↓tX12_know_87, ↓tX12_know_88, ↓tX12_know_91, ↓tX12_know_94, ↓oAl, ↓oCallV, ↓oDup2, ↓oGet, ↓oGo, ↓oIald, ↓oIf1eq, ↓oIf1ne, ↓oIf2ge, ↓oIl, ↓oInc, ↓oIs, ↓oK, ↓oLald, ↓oLast, ↓oLor, ↓oLshl, ↓oSub, ↓oVret, ↓oZald, ↓oZast, q_set_s, q_set_n, q_md_0, mO_len, q_up_a, mO_44, md_44, mds_44, mO_47, md_47, mds_47, mO_45, md_45, mds_45, mO_46, md_46, mds_46, z_clamp, z_ltI, z_leI, z_eqI, z_lt0, z_ge0, z_eq0I, z_gt0I, z_le0I, z_m1lt, z_m1ge, z_m1eq, z_m1eq', z_inT, z_add, z_sub, z_mul, z_div, z_rem, n_ltT, n_ltF, n_leT, n_leF, n_eqT, n_eqF, z_11, q_tl_i, q_tl_n, q_ap_n, q_ap_c, va_up_ne]
    refine q_X.lv2 _ ?_ h'
    exact ⟨rfl, rfl, rfl, trivial⟩
  · have h' := hQ s A B ⟨fun _ _ => rfl, fun _ _ _ _ => rfl, fun _ _ => rfl, k1, Or.inr rfl, fun _ _ _ => rfl, fun _ _ => ⟨rfl, rfl⟩, k2⟩
    refine q_X.run sX12_know [] 20 ?_
    simp (maxSteps := 10000000) (disch := omega) only [↓q_run_s, q_stop_n, q_stop_c, q_lg_c, q_ls_d, q_ld_n, q_ld_c, q_cat_i, q_cat_r, q_cat_n, q_wd_n, q_wd_c, q_bx_1, q_bx_2, q_bx_3, q_bx_4, q_bx_5, q_bx_6, q_bx_7, q_bx_8, q_pop_0, q_pop_s, ↓reduceIte, Nat.reduceEqDiff, reduceCtorEq, eq_self, Bool.false_eq_true, Nat.reduceAdd, Nat.reduceSub, Nat.reduceMul, Nat.reduceLeDiff, Nat.reduceLT, Nat.le_refl, Nat.zero_le, true_and, and_true, false_and, and_false, or_false, false_or, true_or, or_true, not_true_eq_false, not_false_eq_true, if_true, if_false, List.getElem?_cons_zero, List.getElem?_cons_succ, List.set_cons_zero, List.set_cons_succ, List.length_cons, List.length_nil, ↓tX12_know_0, ↓tX12_know_1, ↓tX12_know_4, ↓tX12_know_5, ↓tX12_know_6, ↓tX12_know_9, ↓tX12_know_10, ↓tX12_know_11, ↓tX12_know_14, ↓tX12_know_15, ↓tX12_know_18, ↓tX12_know_19, ↓tX12_know_20, ↓tX12_know_21, ↓tX12_know_22, ↓tX12_know_23, ↓tX12_know_24, ↓tX12_know_26, ↓tX12_know_29, ↓tX12_know_30, ↓tX12_know_31, ↓tX12_know_34, ↓tX12_know_35, ↓tX12_know_36, ↓tX12_know_37, ↓tX12_know_40, ↓tX12_know_41, ↓tX12_know_42, ↓tX12_know_43, ↓tX12_know_46, ↓tX12_know_49, ↓tX12_know_52, ↓tX12_know_53, ↓tX12_know_55, ↓tX12_know_58, ↓tX12_know_59, ↓tX12_know_62, ↓tX12_know_63, ↓tX12_know_64, ↓tX12_know_65, ↓tX12_know_66, ↓tX12_know_67, ↓tX12_know_68, ↓tX12_know_69, ↓tX12_know_70, ↓tX12_know_73, ↓tX12_know_74, ↓tX12_know_77, ↓tX12_know_78, ↓tX12_know_79, ↓tX12_know_80, ↓tX12_know_81, ↓tX12_know_82, ↓tX12_know_84, ↓tX12_know_85, ↓tX12_know_86, ↓tX12_know_87, ↓tX12_know_88, ↓tX12_know_91, ↓tX12_know_94, ↓oAl, ↓oCallV, ↓oDup2, ↓oGet, ↓oGo, ↓oIald, ↓oIf1eq, ↓oIf1ne, ↓oIf2ge, ↓oIl, ↓oInc, ↓oIs, ↓oK, ↓oLald, ↓oLast, ↓oLor, ↓oLshl, ↓oSub, ↓oVret, ↓oZald, ↓oZast, q_set_s, q_set_n, q_md_0, mO_len, q_up_a, mO_44, md_44, mds_44, mO_47, md_47, mds_47, mO_45, md_45, mds_45, mO_46, md_46, mds_46, z_clamp, z_ltI, z_leI, z_eqI, z_lt0, z_ge0, z_eq0I, z_gt0I, z_le0I, z_m1lt, z_m1ge, z_m1eq, z_m1eq', z_inT, z_add, z_sub, z_mul, z_div, z_rem, n_ltT, n_ltF, n_leT, n_leF, n_eqT, n_eqF, z_11, q_tl_i, q_tl_n, q_ap_n, q_ap_c, k1]
    exact h'
end
