/-! constructor of ShownPatterns -/
def w_New (h : Nat → Option qE) (i : Nat) : Prop := h i = some (.inr (11, [.ref (i + 1), .ref (i + 2), .ref (i + 9), .ref (i + 11), .ref (i + 18), .ref (i + 25), .ref (i + 27), .ref (i + 30), .null, .null, .null])) ∧ q_hs h (i + 2) (rdE (i + 2) (fun _ => 0) (fun _ _ => 0)) ∧ q_hs h (i + 4) (ndE (i + 4) 120 (fun _ => 0) (fun _ => 0) (fun _ => 0) 0) ∧ q_hs h (i + 9) (wrE (i + 9) (fun _ => 0) (fun _ _ => 0)) ∧ q_hs h (i + 11) (auE (i + 11) (fun _ => 0) (fun _ _ => 0)) ∧ q_hs h (i + 18) (auE (i + 18) (fun _ => 0) (fun _ _ => 0)) ∧ q_hs h (i + 25) (waE (i + 25) (fun _ _ => 0)) ∧ q_hs h (i + 27) (spE (i + 27) 12 (fun _ _ => 0)) ∧ q_hs h (i + 30) (shE (i + 30) (fun _ => 0) (fun _ _ => 0))
section
variable {G : qC} {L : Launch} {d : Nat} {Q : Option Value → qM → Prop} {i : Nat}
set_option maxRecDepth 100000 in
set_option maxHeartbeats 8000000 in
theorem c11_initL (hd : 2 ≤ d) {f h0 : Nat → Option qE} (h0i : h0 i = some (.inr (11, [.ref (i + 1), .ref (i + 2), .ref (i + 9), .ref (i + 11), .ref (i + 18), .ref (i + 25), .ref (i + 27), .ref (i + 30), .null, .null, .null]))) (hQ : ∀ h fp, h (i + 1) = some (.inl (5, 10, .inr (.inr (.inr (.inr fp))))) → (∀ q, q < 10 → fp q = some (i + 35 + 4 * q) ∧ q_hs h (i + 35 + 4 * q) (ndE (i + 35 + 4 * q) 12 (fun _ => 0) (fun _ => 0) (fun _ => 0) 0)) → (∀ a, a < i + 35 → a ≠ i + 1 → h a = h0 a) → (∀ a, i + 75 ≤ a → h a = f a) → Q none (i + 75, h)) : ∀ (g p m cs ss : Nat) (h : Nat → Option qE) (fp : Nat → Option Nat), g + p = 10 → m = i + 35 + 4 * p → cs = 34 + 4 * p → ss = 2078 + 40 * p → h (i + 1) = some (.inl (5, 10, .inr (.inr (.inr (.inr fp))))) → (∀ q, q < p → fp q = some (i + 35 + 4 * q) ∧ q_hs h (i + 35 + 4 * q) (ndE (i + 35 + 4 * q) 12 (fun _ => 0) (fun _ => 0) (fun _ => 0) 0)) → (∀ a, a < i + 35 → a ≠ i + 1 → h a = h0 a) → (∀ a, m ≤ a → h a = f a) → q_X G L d mX11_init 74 2478 Q 94 [(0, .ref i), (1, .int (nI p))] [] (m, h) cs ss := by
  intro g
  induction g with
  | zero =>
    intro p m cs ss h fp hp hm hcs hss h1 hq hlo hhi
    have e : p = 10 := by omega
    subst e
    subst hm hcs hss
    have hi : h i = _ := (hlo i (by omega) (by omega)).trans h0i
    have h' := hQ h fp h1 hq hlo (fun a ha => hhi a (by omega))
    refine q_X.run sX11_init [] 40 ?_
    simp (maxSteps := 10000000) (disch := omega) only [↓q_run_s, q_stop_n, q_stop_c, q_lg_c, q_ls_d, q_ld_n, q_ld_c, q_cat_i, q_cat_r, q_cat_n, q_wd_n, q_wd_c, q_bx_1, q_bx_2, q_bx_3, q_bx_4, q_bx_5, q_bx_6, q_bx_7, q_bx_8, q_pop_0, q_pop_s, ↓reduceIte, Nat.reduceEqDiff, reduceCtorEq, eq_self, Bool.false_eq_true, Nat.reduceAdd, Nat.reduceSub, Nat.reduceMul, Nat.reduceLeDiff, Nat.reduceLT, Nat.le_refl, Nat.zero_le, true_and, and_true, false_and, and_false, or_false, false_or, true_or, or_true, not_true_eq_false, not_false_eq_true, if_true, if_false, List.getElem?_cons_zero, List.getElem?_cons_succ, List.set_cons_zero, List.set_cons_succ, List.length_cons, List.length_nil, ↓tX11_init_0, ↓tX11_init_1, ↓tX11_init_4, ↓tX11_init_5, ↓tX11_init_7, ↓tX11_init_10, ↓tX11_init_13, ↓tX11_init_14, ↓tX11_init_17, ↓tX11_init_18, ↓tX11_init_21, ↓tX11_init_24, ↓tX11_init_25, ↓tX11_init_28, ↓tX11_init_29, ↓tX11_init_32, ↓tX11_init_35, ↓tX11_init_36, ↓tX11_init_39, ↓tX11_init_40, ↓tX11_init_43, ↓tX11_init_46, ↓tX11_init_47, ↓tX11_init_50, ↓tX11_init_51, ↓tX11_init_54, ↓tX11_init_57, ↓tX11_init_58, ↓tX11_init_61, ↓tX11_init_62, ↓tX11_init_65, ↓tX11_init_68, ↓tX11_init_69, ↓tX11_init_72, ↓tX11_init_73, ↓tX11_init_75, ↓tX11_init_78, ↓tX11_init_81, ↓tX11_init_82, ↓tX11_init_85, ↓tX11_init_86, ↓tX11_init_89, ↓tX11_init_92, ↓tX11_init_93, ↓tX11_init_94, ↓tX11_init_95, ↓tX11_init_96, ↓tX11_init_99, ↓tX11_init_100, ↓tX11_init_103, ↓tX11_init_104, ↓tX11_init_107, ↓tX11_init_108, ↓tX11_init_111, ↓tX11_init_112, ↓tX11_init_114, ↓tX11_init_117, ↓tX11_init_118, ↓tX11_init_121, ↓tX11_init_124, ↓oANew, ↓oAast, ↓oAl, ↓oAlen, ↓oCallI, ↓oDup, ↓oGet, ↓oGo, ↓oIf2ge, ↓oIl, ↓oInc, ↓oIs, ↓oK, ↓oNew, ↓oObj, ↓oPutR, ↓oVret, q_set_s, q_set_n, z_clamp, z_ltI, z_leI, z_eqI, z_lt0, z_ge0, z_eq0I, z_gt0I, z_le0I, z_m1lt, z_m1ge, z_m1eq, z_m1eq', z_inT, z_add, z_sub, z_mul, z_div, z_rem, n_ltT, n_ltF, n_leT, n_leF, n_eqT, n_eqF, z_11, q_tl_i, q_tl_n, q_ap_n, q_ap_c, hi, h1]
    exact h'
  | succ g ih =>
    intro p m cs ss h fp hp hm hcs hss h1 hq hlo hhi
    have hi : h i = _ := (hlo i (by omega) (by omega)).trans h0i
    refine q_X.run sX11_init [] 40 ?_
    simp (maxSteps := 10000000) (disch := omega) only [↓q_run_s, q_stop_n, q_stop_c, q_lg_c, q_ls_d, q_ld_n, q_ld_c, q_cat_i, q_cat_r, q_cat_n, q_wd_n, q_wd_c, q_bx_1, q_bx_2, q_bx_3, q_bx_4, q_bx_5, q_bx_6, q_bx_7, q_bx_8, q_pop_0, q_pop_s, ↓reduceIte, Nat.reduceEqDiff, reduceCtorEq, eq_self, Bool.false_eq_true, Nat.reduceAdd, Nat.reduceSub, Nat.reduceMul, Nat.reduceLeDiff, Nat.reduceLT, Nat.le_refl, Nat.zero_le, true_and, and_true, false_and, and_false, or_false, false_or, true_or, or_true, not_true_eq_false, not_false_eq_true, if_true, if_false, List.getElem?_cons_zero, List.getElem?_cons_succ, List.set_cons_zero, List.set_cons_succ, List.length_cons, List.length_nil, ↓tX11_init_0, ↓tX11_init_1, ↓tX11_init_4, ↓tX11_init_5, ↓tX11_init_7, ↓tX11_init_10, ↓tX11_init_13, ↓tX11_init_14, ↓tX11_init_17, ↓tX11_init_18, ↓tX11_init_21, ↓tX11_init_24, ↓tX11_init_25, ↓tX11_init_28, ↓tX11_init_29, ↓tX11_init_32, ↓tX11_init_35, ↓tX11_init_36, ↓tX11_init_39, ↓tX11_init_40, ↓tX11_init_43, ↓tX11_init_46, ↓tX11_init_47, ↓tX11_init_50, ↓tX11_init_51, ↓tX11_init_54, ↓tX11_init_57, ↓tX11_init_58, ↓tX11_init_61, ↓tX11_init_62, ↓tX11_init_65, ↓tX11_init_68, ↓tX11_init_69, ↓tX11_init_72, ↓tX11_init_73, ↓tX11_init_75, ↓tX11_init_78, ↓tX11_init_81, ↓tX11_init_82, ↓tX11_init_85, ↓tX11_init_86, ↓tX11_init_89, ↓tX11_init_92, ↓tX11_init_93, ↓tX11_init_94, ↓tX11_init_95, ↓tX11_init_96, ↓tX11_init_99, ↓tX11_init_100, ↓tX11_init_103, ↓tX11_init_104, ↓tX11_init_107, ↓tX11_init_108, ↓tX11_init_111, ↓tX11_init_112, ↓tX11_init_114, ↓tX11_init_117, ↓tX11_init_118, ↓tX11_init_121, ↓tX11_init_124, ↓oANew, ↓oAast, ↓oAl, ↓oAlen, ↓oCallI, ↓oDup, ↓oGet, ↓oGo, ↓oIf2ge, ↓oIl, ↓oInc, ↓oIs, ↓oK, ↓oNew, ↓oObj, ↓oPutR, ↓oVret, q_set_s, q_set_n, z_clamp, z_ltI, z_leI, z_eqI, z_lt0, z_ge0, z_eq0I, z_gt0I, z_le0I, z_m1lt, z_m1ge, z_m1eq, z_m1eq', z_inT, z_add, z_sub, z_mul, z_div, z_rem, n_ltT, n_ltF, n_leT, n_leF, n_eqT, n_eqF, z_11, q_tl_i, q_tl_n, q_ap_n, q_ap_c, hi, h1, q_newP, q_setP, va_up_ne, va_up_self]
    refine ⟨3, 3 * 12, by omega, by omega, ?_⟩
    refine h4_init (by omega) (va_up_self _ _ _) (by decide) fun h' hh ho => ?_
    have hi' : h' i = _ := (ho i (by omega)).trans ((va_up_ne _ _ (by omega)).trans hi)
    have h1' : h' (i + 1) = _ := (ho (i + 1) (by omega)).trans ((va_up_ne _ _ (by omega)).trans h1)
    have hm' : h' m = _ := hh 0 _ rfl
    have key := ih (p + 1) (m + 4) (cs + 1 + 3) (ss + 4 + 36) (va_up h' (i + 1) (some (.inl (5, 10, .inr (.inr (.inr (.inr (va_up fp p (some m))))))))) (va_up fp p (some m)) (by omega) (by omega) (by omega) (by omega) (va_up_self _ _ _) (fun q hqp => by
      by_cases c : q = p
      · subst c
        refine ⟨by rw [va_up_self, hm], ?_⟩
        rw [← hm]
        exact hh.up (n := 4) (fun k h => ndE_none h) (Or.inl (by omega))
      · obtain ⟨q1, q2⟩ := hq q (by omega)
        refine ⟨by rw [va_up_ne _ _ c]; exact q1, q2.cg (n := 4) (fun k h => ndE_none h) fun a g1 g2 => ?_⟩
        rw [va_up_ne _ _ (by omega), ho a (by omega), va_up_ne _ _ (by omega)]) (fun a g1 g2 => by
      rw [va_up_ne _ _ g2, ho a (by omega), va_up_ne _ _ (by omega)]
      exact hlo a g1 g2) (fun a ha => by
      rw [va_up_ne _ _ (by omega), ho a (by omega), va_up_ne _ _ (by omega)]
      exact hhi a (by omega))
    refine q_X.run sX11_init [94] 40 ?_
    simp (maxSteps := 10000000) (disch := omega) only [↓q_run_s, q_stop_n, q_stop_c, q_lg_c, q_ls_d, q_ld_n, q_ld_c, q_cat_i, q_cat_r, q_cat_n, q_wd_n, q_wd_c, q_bx_1, q_bx_2, q_bx_3, q_bx_4, q_bx_5, q_bx_6, q_bx_7, q_bx_8, q_pop_0, q_pop_s, ↓reduceIte, Nat.reduceEqDiff, reduceCtorEq, eq_self, Bool.false_eq_true, Nat.reduceAdd, Nat.reduceSub, Nat.reduceMul, Nat.reduceLeDiff, Nat.reduceLT, Nat.le_refl, Nat.zero_le, true_and, and_true, false_and, and_false, or_false, false_or, true_or, or_true, not_true_eq_false, not_false_eq_true, if_true, if_false, List.getElem?_cons_zero, List.getElem?_cons_succ, List.set_cons_zero, List.set_cons_succ, List.length_cons, List.length_nil, ↓tX11_init_0, ↓tX11_init_1, ↓tX11_init_4, ↓tX11_init_5, ↓tX11_init_7, ↓tX11_init_10, ↓tX11_init_13, ↓tX11_init_14, ↓tX11_init_17, ↓tX11_init_18, ↓tX11_init_21, ↓tX11_init_24, ↓tX11_init_25, ↓tX11_init_28, ↓tX11_init_29, ↓tX11_init_32, ↓tX11_init_35, ↓tX11_init_36, ↓tX11_init_39, ↓tX11_init_40, ↓tX11_init_43, ↓tX11_init_46, ↓tX11_init_47, ↓tX11_init_50, ↓tX11_init_51, ↓tX11_init_54, ↓tX11_init_57, ↓tX11_init_58, ↓tX11_init_61, ↓tX11_init_62, ↓tX11_init_65, ↓tX11_init_68, ↓tX11_init_69, ↓tX11_init_72, ↓tX11_init_73, ↓tX11_init_75, ↓tX11_init_78, ↓tX11_init_81, ↓tX11_init_82, ↓tX11_init_85, ↓tX11_init_86, ↓tX11_init_89, ↓tX11_init_92, ↓tX11_init_93, ↓tX11_init_94, ↓tX11_init_95, ↓tX11_init_96, ↓tX11_init_99, ↓tX11_init_100, ↓tX11_init_103, ↓tX11_init_104, ↓tX11_init_107, ↓tX11_init_108, ↓tX11_init_111, ↓tX11_init_112, ↓tX11_init_114, ↓tX11_init_117, ↓tX11_init_118, ↓tX11_init_121, ↓tX11_init_124, ↓oANew, ↓oAast, ↓oAl, ↓oAlen, ↓oCallI, ↓oDup, ↓oGet, ↓oGo, ↓oIf2ge, ↓oIl, ↓oInc, ↓oIs, ↓oK, ↓oNew, ↓oObj, ↓oPutR, ↓oVret, q_set_s, q_set_n, z_clamp, z_ltI, z_leI, z_eqI, z_lt0, z_ge0, z_eq0I, z_gt0I, z_le0I, z_m1lt, z_m1ge, z_m1eq, z_m1eq', z_inT, z_add, z_sub, z_mul, z_div, z_rem, n_ltT, n_ltF, n_leT, n_leF, n_eqT, n_eqF, z_11, q_tl_i, q_tl_n, q_ap_n, q_ap_c, hi', h1', hm', q_newP, q_setP, va_up_ne, va_up_self]
    refine q_X.lv2 _ ?_ key
    exact ⟨rfl, rfl, trivial⟩
set_option maxRecDepth 100000 in
set_option maxHeartbeats 8000000 in
theorem c11_init {f : Nat → Option qE} (hd : 3 ≤ d) (hf : f i = some (.inr (11, [.null, .null, .null, .null, .null, .null, .null, .null, .null, .null, .null]))) (hQ : ∀ h fp, h (i + 1) = some (.inl (5, 10, .inr (.inr (.inr (.inr fp))))) → (∀ q, q < 10 → fp q = some (i + 35 + 4 * q) ∧ q_hs h (i + 35 + 4 * q) (ndE (i + 35 + 4 * q) 12 (fun _ => 0) (fun _ => 0) (fun _ => 0) 0)) → w_New h i → (∀ a, a < i ∨ i + 75 ≤ a → h a = f a) → Q none (i + 75, h)) : q_Call G L d mX11_init 74 2478 [.ref i] (i + 1, f) Q := by
  refine q_Call.of [(0, .ref i)] rfl ?_
  refine q_X.run sX11_init [] 60 ?_
  simp (maxSteps := 10000000) (disch := omega) only [↓q_run_s, q_stop_n, q_stop_c, q_lg_c, q_ls_d, q_ld_n, q_ld_c, q_cat_i, q_cat_r, q_cat_n, q_wd_n, q_wd_c, q_bx_1, q_bx_2, q_bx_3, q_bx_4, q_bx_5, q_bx_6, q_bx_7, q_bx_8, q_pop_0, q_pop_s, ↓reduceIte, Nat.reduceEqDiff, reduceCtorEq, eq_self, Bool.false_eq_true, Nat.reduceAdd, Nat.reduceSub, Nat.reduceMul, Nat.reduceLeDiff, Nat.reduceLT, Nat.le_refl, Nat.zero_le, true_and, and_true, false_and, and_false, or_false, false_or, true_or, or_true, not_true_eq_false, not_false_eq_true, if_true, if_false, List.getElem?_cons_zero, List.getElem?_cons_succ, List.set_cons_zero, List.set_cons_succ, List.length_cons, List.length_nil, ↓tX11_init_0, ↓tX11_init_1, ↓tX11_init_4, ↓tX11_init_5, ↓tX11_init_7, ↓tX11_init_10, ↓tX11_init_13, ↓tX11_init_14, ↓tX11_init_17, ↓tX11_init_18, ↓tX11_init_21, ↓tX11_init_24, ↓tX11_init_25, ↓tX11_init_28, ↓tX11_init_29, ↓tX11_init_32, ↓tX11_init_35, ↓tX11_init_36, ↓tX11_init_39, ↓tX11_init_40, ↓tX11_init_43, ↓tX11_init_46, ↓tX11_init_47, ↓tX11_init_50, ↓tX11_init_51, ↓tX11_init_54, ↓tX11_init_57, ↓tX11_init_58, ↓tX11_init_61, ↓tX11_init_62, ↓tX11_init_65, ↓tX11_init_68, ↓tX11_init_69, ↓tX11_init_72, ↓tX11_init_73, ↓tX11_init_75, ↓tX11_init_78, ↓tX11_init_81, ↓tX11_init_82, ↓tX11_init_85, ↓tX11_init_86, ↓tX11_init_89, ↓tX11_init_92, ↓tX11_init_93, ↓tX11_init_94, ↓tX11_init_95, ↓tX11_init_96, ↓tX11_init_99, ↓tX11_init_100, ↓tX11_init_103, ↓tX11_init_104, ↓tX11_init_107, ↓tX11_init_108, ↓tX11_init_111, ↓tX11_init_112, ↓tX11_init_114, ↓tX11_init_117, ↓tX11_init_118, ↓tX11_init_121, ↓tX11_init_124, ↓oANew, ↓oAast, ↓oAl, ↓oAlen, ↓oCallI, ↓oDup, ↓oGet, ↓oGo, ↓oIf2ge, ↓oIl, ↓oInc, ↓oIs, ↓oK, ↓oNew, ↓oObj, ↓oPutR, ↓oVret, q_set_s, q_set_n, z_clamp, z_ltI, z_leI, z_eqI, z_lt0, z_ge0, z_eq0I, z_gt0I, z_le0I, z_m1lt, z_m1ge, z_m1eq, z_m1eq', z_inT, z_add, z_sub, z_mul, z_div, z_rem, n_ltT, n_ltF, n_leT, n_leF, n_eqT, n_eqF, z_11, q_tl_i, q_tl_n, q_ap_n, q_ap_c, q_newP, q_setP, va_up_ne, va_up_self, hf]
  refine ⟨6, 484, by decide, by decide, ?_⟩
  refine h6_init (by omega) (va_up_self _ _ _) fun g1 ha1 hb1 ho => ?_
  have gi1 : g1 i = some (.inr (11, [.ref (i + 1), .null, .null, .null, .null, .null, .null, .null, .null, .null, .null])) := by
    rw [ho i (by omega)]
    simp (disch := omega) only [va_up_ne, va_up_self]
  have gp1 : g1 (i + 1) = some (.inl (5, 10, .inr (.inr (.inr (.inr (fun _ => none)))))) := by
    rw [ho (i + 1) (by omega)]
    simp (disch := omega) only [va_up_ne, va_up_self]
  have lo1 : ∀ a, a < i → g1 a = f a := fun a ha => by
    rw [ho a (by omega)]
    simp (disch := omega) only [va_up_ne]
  have hi1 : ∀ a, i + 9 ≤ a → g1 a = f a := fun a ha => by
    rw [ho a (by omega)]
    simp (disch := omega) only [va_up_ne]
  clear ho
  refine q_X.run sX11_init [] 60 ?_
  simp (maxSteps := 10000000) (disch := omega) only [↓q_run_s, q_stop_n, q_stop_c, q_lg_c, q_ls_d, q_ld_n, q_ld_c, q_cat_i, q_cat_r, q_cat_n, q_wd_n, q_wd_c, q_bx_1, q_bx_2, q_bx_3, q_bx_4, q_bx_5, q_bx_6, q_bx_7, q_bx_8, q_pop_0, q_pop_s, ↓reduceIte, Nat.reduceEqDiff, reduceCtorEq, eq_self, Bool.false_eq_true, Nat.reduceAdd, Nat.reduceSub, Nat.reduceMul, Nat.reduceLeDiff, Nat.reduceLT, Nat.le_refl, Nat.zero_le, true_and, and_true, false_and, and_false, or_false, false_or, true_or, or_true, not_true_eq_false, not_false_eq_true, if_true, if_false, List.getElem?_cons_zero, List.getElem?_cons_succ, List.set_cons_zero, List.set_cons_succ, List.length_cons, List.length_nil, ↓tX11_init_0, ↓tX11_init_1, ↓tX11_init_4, ↓tX11_init_5, ↓tX11_init_7, ↓tX11_init_10, ↓tX11_init_13, ↓tX11_init_14, ↓tX11_init_17, ↓tX11_init_18, ↓tX11_init_21, ↓tX11_init_24, ↓tX11_init_25, ↓tX11_init_28, ↓tX11_init_29, ↓tX11_init_32, ↓tX11_init_35, ↓tX11_init_36, ↓tX11_init_39, ↓tX11_init_40, ↓tX11_init_43, ↓tX11_init_46, ↓tX11_init_47, ↓tX11_init_50, ↓tX11_init_51, ↓tX11_init_54, ↓tX11_init_57, ↓tX11_init_58, ↓tX11_init_61, ↓tX11_init_62, ↓tX11_init_65, ↓tX11_init_68, ↓tX11_init_69, ↓tX11_init_72, ↓tX11_init_73, ↓tX11_init_75, ↓tX11_init_78, ↓tX11_init_81, ↓tX11_init_82, ↓tX11_init_85, ↓tX11_init_86, ↓tX11_init_89, ↓tX11_init_92, ↓tX11_init_93, ↓tX11_init_94, ↓tX11_init_95, ↓tX11_init_96, ↓tX11_init_99, ↓tX11_init_100, ↓tX11_init_103, ↓tX11_init_104, ↓tX11_init_107, ↓tX11_init_108, ↓tX11_init_111, ↓tX11_init_112, ↓tX11_init_114, ↓tX11_init_117, ↓tX11_init_118, ↓tX11_init_121, ↓tX11_init_124, ↓oANew, ↓oAast, ↓oAl, ↓oAlen, ↓oCallI, ↓oDup, ↓oGet, ↓oGo, ↓oIf2ge, ↓oIl, ↓oInc, ↓oIs, ↓oK, ↓oNew, ↓oObj, ↓oPutR, ↓oVret, q_set_s, q_set_n, z_clamp, z_ltI, z_leI, z_eqI, z_lt0, z_ge0, z_eq0I, z_gt0I, z_le0I, z_m1lt, z_m1ge, z_m1eq, z_m1eq', z_inT, z_add, z_sub, z_mul, z_div, z_rem, n_ltT, n_ltF, n_leT, n_leF, n_eqT, n_eqF, z_11, q_tl_i, q_tl_n, q_ap_n, q_ap_c, q_newP, q_setP, va_up_ne, va_up_self, gi1]
  refine ⟨1, 128, by decide, by decide, ?_⟩
  refine h10_init (by omega) (va_up_self _ _ _) fun g2 ha2 ho => ?_
  have gi2 : g2 i = some (.inr (11, [.ref (i + 1), .ref (i + 2), .null, .null, .null, .null, .null, .null, .null, .null, .null])) := by
    rw [ho i (by omega)]
    simp (disch := omega) only [va_up_ne, va_up_self]
  have lo2 : ∀ a, a < i + 9 → a ≠ i → g2 a = g1 a := fun a h1 h2 => by
    rw [ho a (by omega)]
    simp (disch := omega) only [va_up_ne]
  have hi2 : ∀ a, i + 11 ≤ a → g2 a = f a := fun a ha => by
    rw [ho a (by omega)]
    simp (disch := omega) only [va_up_ne]
    exact hi1 a (by omega)
  clear ho
  refine q_X.run sX11_init [] 60 ?_
  simp (maxSteps := 10000000) (disch := omega) only [↓q_run_s, q_stop_n, q_stop_c, q_lg_c, q_ls_d, q_ld_n, q_ld_c, q_cat_i, q_cat_r, q_cat_n, q_wd_n, q_wd_c, q_bx_1, q_bx_2, q_bx_3, q_bx_4, q_bx_5, q_bx_6, q_bx_7, q_bx_8, q_pop_0, q_pop_s, ↓reduceIte, Nat.reduceEqDiff, reduceCtorEq, eq_self, Bool.false_eq_true, Nat.reduceAdd, Nat.reduceSub, Nat.reduceMul, Nat.reduceLeDiff, Nat.reduceLT, Nat.le_refl, Nat.zero_le, true_and, and_true, false_and, and_false, or_false, false_or, true_or, or_true, not_true_eq_false, not_false_eq_true, if_true, if_false, List.getElem?_cons_zero, List.getElem?_cons_succ, List.set_cons_zero, List.set_cons_succ, List.length_cons, List.length_nil, ↓tX11_init_0, ↓tX11_init_1, ↓tX11_init_4, ↓tX11_init_5, ↓tX11_init_7, ↓tX11_init_10, ↓tX11_init_13, ↓tX11_init_14, ↓tX11_init_17, ↓tX11_init_18, ↓tX11_init_21, ↓tX11_init_24, ↓tX11_init_25, ↓tX11_init_28, ↓tX11_init_29, ↓tX11_init_32, ↓tX11_init_35, ↓tX11_init_36, ↓tX11_init_39, ↓tX11_init_40, ↓tX11_init_43, ↓tX11_init_46, ↓tX11_init_47, ↓tX11_init_50, ↓tX11_init_51, ↓tX11_init_54, ↓tX11_init_57, ↓tX11_init_58, ↓tX11_init_61, ↓tX11_init_62, ↓tX11_init_65, ↓tX11_init_68, ↓tX11_init_69, ↓tX11_init_72, ↓tX11_init_73, ↓tX11_init_75, ↓tX11_init_78, ↓tX11_init_81, ↓tX11_init_82, ↓tX11_init_85, ↓tX11_init_86, ↓tX11_init_89, ↓tX11_init_92, ↓tX11_init_93, ↓tX11_init_94, ↓tX11_init_95, ↓tX11_init_96, ↓tX11_init_99, ↓tX11_init_100, ↓tX11_init_103, ↓tX11_init_104, ↓tX11_init_107, ↓tX11_init_108, ↓tX11_init_111, ↓tX11_init_112, ↓tX11_init_114, ↓tX11_init_117, ↓tX11_init_118, ↓tX11_init_121, ↓tX11_init_124, ↓oANew, ↓oAast, ↓oAl, ↓oAlen, ↓oCallI, ↓oDup, ↓oGet, ↓oGo, ↓oIf2ge, ↓oIl, ↓oInc, ↓oIs, ↓oK, ↓oNew, ↓oObj, ↓oPutR, ↓oVret, q_set_s, q_set_n, z_clamp, z_ltI, z_leI, z_eqI, z_lt0, z_ge0, z_eq0I, z_gt0I, z_le0I, z_m1lt, z_m1ge, z_m1eq, z_m1eq', z_inT, z_add, z_sub, z_mul, z_div, z_rem, n_ltT, n_ltF, n_leT, n_leF, n_eqT, n_eqF, z_11, q_tl_i, q_tl_n, q_ap_n, q_ap_c, q_newP, q_setP, va_up_ne, va_up_self, gi2]
  refine ⟨6, 240, by decide, by decide, ?_⟩
  refine h0_init (by omega) (va_up_self _ _ _) fun g3 ha3 ho => ?_
  have gi3 : g3 i = some (.inr (11, [.ref (i + 1), .ref (i + 2), .ref (i + 9), .null, .null, .null, .null, .null, .null, .null, .null])) := by
    rw [ho i (by omega)]
    simp (disch := omega) only [va_up_ne, va_up_self]
  have lo3 : ∀ a, a < i + 11 → a ≠ i → g3 a = g2 a := fun a h1 h2 => by
    rw [ho a (by omega)]
    simp (disch := omega) only [va_up_ne]
  have hi3 : ∀ a, i + 18 ≤ a → g3 a = f a := fun a ha => by
    rw [ho a (by omega)]
    simp (disch := omega) only [va_up_ne]
    exact hi2 a (by omega)
  clear ho
  refine q_X.run sX11_init [] 60 ?_
  simp (maxSteps := 10000000) (disch := omega) only [↓q_run_s, q_stop_n, q_stop_c, q_lg_c, q_ls_d, q_ld_n, q_ld_c, q_cat_i, q_cat_r, q_cat_n, q_wd_n, q_wd_c, q_bx_1, q_bx_2, q_bx_3, q_bx_4, q_bx_5, q_bx_6, q_bx_7, q_bx_8, q_pop_0, q_pop_s, ↓reduceIte, Nat.reduceEqDiff, reduceCtorEq, eq_self, Bool.false_eq_true, Nat.reduceAdd, Nat.reduceSub, Nat.reduceMul, Nat.reduceLeDiff, Nat.reduceLT, Nat.le_refl, Nat.zero_le, true_and, and_true, false_and, and_false, or_false, false_or, true_or, or_true, not_true_eq_false, not_false_eq_true, if_true, if_false, List.getElem?_cons_zero, List.getElem?_cons_succ, List.set_cons_zero, List.set_cons_succ, List.length_cons, List.length_nil, ↓tX11_init_0, ↓tX11_init_1, ↓tX11_init_4, ↓tX11_init_5, ↓tX11_init_7, ↓tX11_init_10, ↓tX11_init_13, ↓tX11_init_14, ↓tX11_init_17, ↓tX11_init_18, ↓tX11_init_21, ↓tX11_init_24, ↓tX11_init_25, ↓tX11_init_28, ↓tX11_init_29, ↓tX11_init_32, ↓tX11_init_35, ↓tX11_init_36, ↓tX11_init_39, ↓tX11_init_40, ↓tX11_init_43, ↓tX11_init_46, ↓tX11_init_47, ↓tX11_init_50, ↓tX11_init_51, ↓tX11_init_54, ↓tX11_init_57, ↓tX11_init_58, ↓tX11_init_61, ↓tX11_init_62, ↓tX11_init_65, ↓tX11_init_68, ↓tX11_init_69, ↓tX11_init_72, ↓tX11_init_73, ↓tX11_init_75, ↓tX11_init_78, ↓tX11_init_81, ↓tX11_init_82, ↓tX11_init_85, ↓tX11_init_86, ↓tX11_init_89, ↓tX11_init_92, ↓tX11_init_93, ↓tX11_init_94, ↓tX11_init_95, ↓tX11_init_96, ↓tX11_init_99, ↓tX11_init_100, ↓tX11_init_103, ↓tX11_init_104, ↓tX11_init_107, ↓tX11_init_108, ↓tX11_init_111, ↓tX11_init_112, ↓tX11_init_114, ↓tX11_init_117, ↓tX11_init_118, ↓tX11_init_121, ↓tX11_init_124, ↓oANew, ↓oAast, ↓oAl, ↓oAlen, ↓oCallI, ↓oDup, ↓oGet, ↓oGo, ↓oIf2ge, ↓oIl, ↓oInc, ↓oIs, ↓oK, ↓oNew, ↓oObj, ↓oPutR, ↓oVret, q_set_s, q_set_n, z_clamp, z_ltI, z_leI, z_eqI, z_lt0, z_ge0, z_eq0I, z_gt0I, z_le0I, z_m1lt, z_m1ge, z_m1eq, z_m1eq', z_inT, z_add, z_sub, z_mul, z_div, z_rem, n_ltT, n_ltF, n_leT, n_leF, n_eqT, n_eqF, z_11, q_tl_i, q_tl_n, q_ap_n, q_ap_c, q_newP, q_setP, va_up_ne, va_up_self, gi3]
  refine ⟨6, 240, by decide, by decide, ?_⟩
  refine h0_init (by omega) (va_up_self _ _ _) fun g4 ha4 ho => ?_
  have gi4 : g4 i = some (.inr (11, [.ref (i + 1), .ref (i + 2), .ref (i + 9), .ref (i + 11), .null, .null, .null, .null, .null, .null, .null])) := by
    rw [ho i (by omega)]
    simp (disch := omega) only [va_up_ne, va_up_self]
  have lo4 : ∀ a, a < i + 18 → a ≠ i → g4 a = g3 a := fun a h1 h2 => by
    rw [ho a (by omega)]
    simp (disch := omega) only [va_up_ne]
  have hi4 : ∀ a, i + 25 ≤ a → g4 a = f a := fun a ha => by
    rw [ho a (by omega)]
    simp (disch := omega) only [va_up_ne]
    exact hi3 a (by omega)
  clear ho
  refine q_X.run sX11_init [] 60 ?_
  simp (maxSteps := 10000000) (disch := omega) only [↓q_run_s, q_stop_n, q_stop_c, q_lg_c, q_ls_d, q_ld_n, q_ld_c, q_cat_i, q_cat_r, q_cat_n, q_wd_n, q_wd_c, q_bx_1, q_bx_2, q_bx_3, q_bx_4, q_bx_5, q_bx_6, q_bx_7, q_bx_8, q_pop_0, q_pop_s, ↓reduceIte, Nat.reduceEqDiff, reduceCtorEq, eq_self, Bool.false_eq_true, Nat.reduceAdd, Nat.reduceSub, Nat.reduceMul, Nat.reduceLeDiff, Nat.reduceLT, Nat.le_refl, Nat.zero_le, true_and, and_true, false_and, and_false, or_false, false_or, true_or, or_true, not_true_eq_false, not_false_eq_true, if_true, if_false, List.getElem?_cons_zero, List.getElem?_cons_succ, List.set_cons_zero, List.set_cons_succ, List.length_cons, List.length_nil, ↓tX11_init_0, ↓tX11_init_1, ↓tX11_init_4, ↓tX11_init_5, ↓tX11_init_7, ↓tX11_init_10, ↓tX11_init_13, ↓tX11_init_14, ↓tX11_init_17, ↓tX11_init_18, ↓tX11_init_21, ↓tX11_init_24, ↓tX11_init_25, ↓tX11_init_28, ↓tX11_init_29, ↓tX11_init_32, ↓tX11_init_35, ↓tX11_init_36, ↓tX11_init_39, ↓tX11_init_40, ↓tX11_init_43, ↓tX11_init_46, ↓tX11_init_47, ↓tX11_init_50, ↓tX11_init_51, ↓tX11_init_54, ↓tX11_init_57, ↓tX11_init_58, ↓tX11_init_61, ↓tX11_init_62, ↓tX11_init_65, ↓tX11_init_68, ↓tX11_init_69, ↓tX11_init_72, ↓tX11_init_73, ↓tX11_init_75, ↓tX11_init_78, ↓tX11_init_81, ↓tX11_init_82, ↓tX11_init_85, ↓tX11_init_86, ↓tX11_init_89, ↓tX11_init_92, ↓tX11_init_93, ↓tX11_init_94, ↓tX11_init_95, ↓tX11_init_96, ↓tX11_init_99, ↓tX11_init_100, ↓tX11_init_103, ↓tX11_init_104, ↓tX11_init_107, ↓tX11_init_108, ↓tX11_init_111, ↓tX11_init_112, ↓tX11_init_114, ↓tX11_init_117, ↓tX11_init_118, ↓tX11_init_121, ↓tX11_init_124, ↓oANew, ↓oAast, ↓oAl, ↓oAlen, ↓oCallI, ↓oDup, ↓oGet, ↓oGo, ↓oIf2ge, ↓oIl, ↓oInc, ↓oIs, ↓oK, ↓oNew, ↓oObj, ↓oPutR, ↓oVret, q_set_s, q_set_n, z_clamp, z_ltI, z_leI, z_eqI, z_lt0, z_ge0, z_eq0I, z_gt0I, z_le0I, z_m1lt, z_m1ge, z_m1eq, z_m1eq', z_inT, z_add, z_sub, z_mul, z_div, z_rem, n_ltT, n_ltF, n_leT, n_leF, n_eqT, n_eqF, z_11, q_tl_i, q_tl_n, q_ap_n, q_ap_c, q_newP, q_setP, va_up_ne, va_up_self, gi4]
  refine ⟨1, 845, by decide, by decide, ?_⟩
  refine h9_init (by omega) (va_up_self _ _ _) fun g5 ha5 ho => ?_
  have gi5 : g5 i = some (.inr (11, [.ref (i + 1), .ref (i + 2), .ref (i + 9), .ref (i + 11), .ref (i + 18), .null, .null, .null, .null, .null, .null])) := by
    rw [ho i (by omega)]
    simp (disch := omega) only [va_up_ne, va_up_self]
  have lo5 : ∀ a, a < i + 25 → a ≠ i → g5 a = g4 a := fun a h1 h2 => by
    rw [ho a (by omega)]
    simp (disch := omega) only [va_up_ne]
  have hi5 : ∀ a, i + 27 ≤ a → g5 a = f a := fun a ha => by
    rw [ho a (by omega)]
    simp (disch := omega) only [va_up_ne]
    exact hi4 a (by omega)
  clear ho
  refine q_X.run sX11_init [] 60 ?_
  simp (maxSteps := 10000000) (disch := omega) only [↓q_run_s, q_stop_n, q_stop_c, q_lg_c, q_ls_d, q_ld_n, q_ld_c, q_cat_i, q_cat_r, q_cat_n, q_wd_n, q_wd_c, q_bx_1, q_bx_2, q_bx_3, q_bx_4, q_bx_5, q_bx_6, q_bx_7, q_bx_8, q_pop_0, q_pop_s, ↓reduceIte, Nat.reduceEqDiff, reduceCtorEq, eq_self, Bool.false_eq_true, Nat.reduceAdd, Nat.reduceSub, Nat.reduceMul, Nat.reduceLeDiff, Nat.reduceLT, Nat.le_refl, Nat.zero_le, true_and, and_true, false_and, and_false, or_false, false_or, true_or, or_true, not_true_eq_false, not_false_eq_true, if_true, if_false, List.getElem?_cons_zero, List.getElem?_cons_succ, List.set_cons_zero, List.set_cons_succ, List.length_cons, List.length_nil, ↓tX11_init_0, ↓tX11_init_1, ↓tX11_init_4, ↓tX11_init_5, ↓tX11_init_7, ↓tX11_init_10, ↓tX11_init_13, ↓tX11_init_14, ↓tX11_init_17, ↓tX11_init_18, ↓tX11_init_21, ↓tX11_init_24, ↓tX11_init_25, ↓tX11_init_28, ↓tX11_init_29, ↓tX11_init_32, ↓tX11_init_35, ↓tX11_init_36, ↓tX11_init_39, ↓tX11_init_40, ↓tX11_init_43, ↓tX11_init_46, ↓tX11_init_47, ↓tX11_init_50, ↓tX11_init_51, ↓tX11_init_54, ↓tX11_init_57, ↓tX11_init_58, ↓tX11_init_61, ↓tX11_init_62, ↓tX11_init_65, ↓tX11_init_68, ↓tX11_init_69, ↓tX11_init_72, ↓tX11_init_73, ↓tX11_init_75, ↓tX11_init_78, ↓tX11_init_81, ↓tX11_init_82, ↓tX11_init_85, ↓tX11_init_86, ↓tX11_init_89, ↓tX11_init_92, ↓tX11_init_93, ↓tX11_init_94, ↓tX11_init_95, ↓tX11_init_96, ↓tX11_init_99, ↓tX11_init_100, ↓tX11_init_103, ↓tX11_init_104, ↓tX11_init_107, ↓tX11_init_108, ↓tX11_init_111, ↓tX11_init_112, ↓tX11_init_114, ↓tX11_init_117, ↓tX11_init_118, ↓tX11_init_121, ↓tX11_init_124, ↓oANew, ↓oAast, ↓oAl, ↓oAlen, ↓oCallI, ↓oDup, ↓oGet, ↓oGo, ↓oIf2ge, ↓oIl, ↓oInc, ↓oIs, ↓oK, ↓oNew, ↓oObj, ↓oPutR, ↓oVret, q_set_s, q_set_n, z_clamp, z_ltI, z_leI, z_eqI, z_lt0, z_ge0, z_eq0I, z_gt0I, z_le0I, z_m1lt, z_m1ge, z_m1eq, z_m1eq', z_inT, z_add, z_sub, z_mul, z_div, z_rem, n_ltT, n_ltF, n_leT, n_leF, n_eqT, n_eqF, z_11, q_tl_i, q_tl_n, q_ap_n, q_ap_c, q_newP, q_setP, va_up_ne, va_up_self, gi5]
  refine ⟨2, 3 + 12, by decide, by decide, ?_⟩
  refine h8_init (by omega) (va_up_self _ _ _) (by decide) fun g6 ha6 ho => ?_
  have gi6 : g6 i = some (.inr (11, [.ref (i + 1), .ref (i + 2), .ref (i + 9), .ref (i + 11), .ref (i + 18), .ref (i + 25), .null, .null, .null, .null, .null])) := by
    rw [ho i (by omega)]
    simp (disch := omega) only [va_up_ne, va_up_self]
  have lo6 : ∀ a, a < i + 27 → a ≠ i → g6 a = g5 a := fun a h1 h2 => by
    rw [ho a (by omega)]
    simp (disch := omega) only [va_up_ne]
  have hi6 : ∀ a, i + 30 ≤ a → g6 a = f a := fun a ha => by
    rw [ho a (by omega)]
    simp (disch := omega) only [va_up_ne]
    exact hi5 a (by omega)
  clear ho
  refine q_X.run sX11_init [] 60 ?_
  simp (maxSteps := 10000000) (disch := omega) only [↓q_run_s, q_stop_n, q_stop_c, q_lg_c, q_ls_d, q_ld_n, q_ld_c, q_cat_i, q_cat_r, q_cat_n, q_wd_n, q_wd_c, q_bx_1, q_bx_2, q_bx_3, q_bx_4, q_bx_5, q_bx_6, q_bx_7, q_bx_8, q_pop_0, q_pop_s, ↓reduceIte, Nat.reduceEqDiff, reduceCtorEq, eq_self, Bool.false_eq_true, Nat.reduceAdd, Nat.reduceSub, Nat.reduceMul, Nat.reduceLeDiff, Nat.reduceLT, Nat.le_refl, Nat.zero_le, true_and, and_true, false_and, and_false, or_false, false_or, true_or, or_true, not_true_eq_false, not_false_eq_true, if_true, if_false, List.getElem?_cons_zero, List.getElem?_cons_succ, List.set_cons_zero, List.set_cons_succ, List.length_cons, List.length_nil, ↓tX11_init_0, ↓tX11_init_1, ↓tX11_init_4, ↓tX11_init_5, ↓tX11_init_7, ↓tX11_init_10, ↓tX11_init_13, ↓tX11_init_14, ↓tX11_init_17, ↓tX11_init_18, ↓tX11_init_21, ↓tX11_init_24, ↓tX11_init_25, ↓tX11_init_28, ↓tX11_init_29, ↓tX11_init_32, ↓tX11_init_35, ↓tX11_init_36, ↓tX11_init_39, ↓tX11_init_40, ↓tX11_init_43, ↓tX11_init_46, ↓tX11_init_47, ↓tX11_init_50, ↓tX11_init_51, ↓tX11_init_54, ↓tX11_init_57, ↓tX11_init_58, ↓tX11_init_61, ↓tX11_init_62, ↓tX11_init_65, ↓tX11_init_68, ↓tX11_init_69, ↓tX11_init_72, ↓tX11_init_73, ↓tX11_init_75, ↓tX11_init_78, ↓tX11_init_81, ↓tX11_init_82, ↓tX11_init_85, ↓tX11_init_86, ↓tX11_init_89, ↓tX11_init_92, ↓tX11_init_93, ↓tX11_init_94, ↓tX11_init_95, ↓tX11_init_96, ↓tX11_init_99, ↓tX11_init_100, ↓tX11_init_103, ↓tX11_init_104, ↓tX11_init_107, ↓tX11_init_108, ↓tX11_init_111, ↓tX11_init_112, ↓tX11_init_114, ↓tX11_init_117, ↓tX11_init_118, ↓tX11_init_121, ↓tX11_init_124, ↓oANew, ↓oAast, ↓oAl, ↓oAlen, ↓oCallI, ↓oDup, ↓oGet, ↓oGo, ↓oIf2ge, ↓oIl, ↓oInc, ↓oIs, ↓oK, ↓oNew, ↓oObj, ↓oPutR, ↓oVret, q_set_s, q_set_n, z_clamp, z_ltI, z_leI, z_eqI, z_lt0, z_ge0, z_eq0I, z_gt0I, z_le0I, z_m1lt, z_m1ge, z_m1eq, z_m1eq', z_inT, z_add, z_sub, z_mul, z_div, z_rem, n_ltT, n_ltF, n_leT, n_leF, n_eqT, n_eqF, z_11, q_tl_i, q_tl_n, q_ap_n, q_ap_c, q_newP, q_setP, va_up_ne, va_up_self, gi6]
  refine ⟨4, 80, by decide, by decide, ?_⟩
  refine h7_init (by omega) (va_up_self _ _ _) fun g7 ha7 ho => ?_
  have gi7 : g7 i = some (.inr (11, [.ref (i + 1), .ref (i + 2), .ref (i + 9), .ref (i + 11), .ref (i + 18), .ref (i + 25), .ref (i + 27), .null, .null, .null, .null])) := by
    rw [ho i (by omega)]
    simp (disch := omega) only [va_up_ne, va_up_self]
  have lo7 : ∀ a, a < i + 30 → a ≠ i → g7 a = g6 a := fun a h1 h2 => by
    rw [ho a (by omega)]
    simp (disch := omega) only [va_up_ne]
  have hi7 : ∀ a, i + 35 ≤ a → g7 a = f a := fun a ha => by
    rw [ho a (by omega)]
    simp (disch := omega) only [va_up_ne]
    exact hi6 a (by omega)
  clear ho
  refine q_X.run sX11_init [94] 60 ?_
  simp (maxSteps := 10000000) (disch := omega) only [↓q_run_s, q_stop_n, q_stop_c, q_lg_c, q_ls_d, q_ld_n, q_ld_c, q_cat_i, q_cat_r, q_cat_n, q_wd_n, q_wd_c, q_bx_1, q_bx_2, q_bx_3, q_bx_4, q_bx_5, q_bx_6, q_bx_7, q_bx_8, q_pop_0, q_pop_s, ↓reduceIte, Nat.reduceEqDiff, reduceCtorEq, eq_self, Bool.false_eq_true, Nat.reduceAdd, Nat.reduceSub, Nat.reduceMul, Nat.reduceLeDiff, Nat.reduceLT, Nat.le_refl, Nat.zero_le, true_and, and_true, false_and, and_false, or_false, false_or, true_or, or_true, not_true_eq_false, not_false_eq_true, if_true, if_false, List.getElem?_cons_zero, List.getElem?_cons_succ, List.set_cons_zero, List.set_cons_succ, List.length_cons, List.length_nil, ↓tX11_init_0, ↓tX11_init_1, ↓tX11_init_4, ↓tX11_init_5, ↓tX11_init_7, ↓tX11_init_10, ↓tX11_init_13, ↓tX11_init_14, ↓tX11_init_17, ↓tX11_init_18, ↓tX11_init_21, ↓tX11_init_24, ↓tX11_init_25, ↓tX11_init_28, ↓tX11_init_29, ↓tX11_init_32, ↓tX11_init_35, ↓tX11_init_36, ↓tX11_init_39, ↓tX11_init_40, ↓tX11_init_43, ↓tX11_init_46, ↓tX11_init_47, ↓tX11_init_50, ↓tX11_init_51, ↓tX11_init_54, ↓tX11_init_57, ↓tX11_init_58, ↓tX11_init_61, ↓tX11_init_62, ↓tX11_init_65, ↓tX11_init_68, ↓tX11_init_69, ↓tX11_init_72, ↓tX11_init_73, ↓tX11_init_75, ↓tX11_init_78, ↓tX11_init_81, ↓tX11_init_82, ↓tX11_init_85, ↓tX11_init_86, ↓tX11_init_89, ↓tX11_init_92, ↓tX11_init_93, ↓tX11_init_94, ↓tX11_init_95, ↓tX11_init_96, ↓tX11_init_99, ↓tX11_init_100, ↓tX11_init_103, ↓tX11_init_104, ↓tX11_init_107, ↓tX11_init_108, ↓tX11_init_111, ↓tX11_init_112, ↓tX11_init_114, ↓tX11_init_117, ↓tX11_init_118, ↓tX11_init_121, ↓tX11_init_124, ↓oANew, ↓oAast, ↓oAl, ↓oAlen, ↓oCallI, ↓oDup, ↓oGet, ↓oGo, ↓oIf2ge, ↓oIl, ↓oInc, ↓oIs, ↓oK, ↓oNew, ↓oObj, ↓oPutR, ↓oVret, q_set_s, q_set_n, z_clamp, z_ltI, z_leI, z_eqI, z_lt0, z_ge0, z_eq0I, z_gt0I, z_le0I, z_m1lt, z_m1ge, z_m1eq, z_m1eq', z_inT, z_add, z_sub, z_mul, z_div, z_rem, n_ltT, n_ltF, n_leT, n_leF, n_eqT, n_eqF, z_11, q_tl_i, q_tl_n, q_ap_n, q_ap_c, q_newP, q_setP, va_up_ne, va_up_self, gi7]
  have key : ∀ (m : Nat) (h0 : Nat → Option qE), m = i + 35 → h0 i = some (.inr (11, [.ref (i + 1), .ref (i + 2), .ref (i + 9), .ref (i + 11), .ref (i + 18), .ref (i + 25), .ref (i + 27), .ref (i + 30), .null, .null, .null])) → (∀ a, a ≠ i → h0 a = g7 a) → ∀ l : qLv, q_lg l 0 = some (.ref i) → q_lg l 1 = some (.int (nI 0)) → q_X G L d mX11_init 74 2478 Q 94 l [] (m, h0) 34 2078 := by
    intro m h0 hm h0i h0o l l0 l1
    have ch : ∀ a, a ≠ i → a ≠ i + 1 → (∀ h : Nat → Option qE, (∀ a, a < i + 35 → a ≠ i + 1 → h a = h0 a) → a < i + 35 → h a = g7 a) := fun a n1 n2 h hlo hlt => (hlo a hlt n2).trans (h0o a n1)
    have key := c11_initL (G := G) (L := L) (d := d) (Q := Q) (i := i) (by omega) (f := f) h0i (fun h fp h1 hq hlo hhi => hQ h fp h1 hq ⟨(hlo i (by omega) (by omega)).trans h0i, ?_, ?_, ?_, ?_, ?_, ?_, ?_, ?_⟩ (fun a ha => ?_)) 10 0 m 34 2078 h0 (fun _ => none) rfl hm rfl rfl ((h0o (i + 1) (by omega)).trans ?_) (fun q hq => absurd hq (by omega)) (fun a _ _ => rfl) (fun a ha => (h0o a (by omega)).trans (hi7 a (by omega)))
    · refine q_X.lv2 _ ?_ key
      exact ⟨l0, l1, trivial⟩
    · refine ha1.cg (n := 7) (fun k h => rdE_none h) fun a a1 a2 => ?_
      rw [ch a (by omega) (by omega) h hlo (by omega), lo7 a (by omega) (by omega), lo6 a (by omega) (by omega), lo5 a (by omega) (by omega), lo4 a (by omega) (by omega), lo3 a (by omega) (by omega), lo2 a (by omega) (by omega)]
    · refine hb1.cg (n := 4) (fun k h => ndE_none h) fun a a1 a2 => ?_
      rw [ch a (by omega) (by omega) h hlo (by omega), lo7 a (by omega) (by omega), lo6 a (by omega) (by omega), lo5 a (by omega) (by omega), lo4 a (by omega) (by omega), lo3 a (by omega) (by omega), lo2 a (by omega) (by omega)]
    · refine ha2.cg (n := 2) (fun k h => wrE_none h) fun a a1 a2 => ?_
      rw [ch a (by omega) (by omega) h hlo (by omega), lo7 a (by omega) (by omega), lo6 a (by omega) (by omega), lo5 a (by omega) (by omega), lo4 a (by omega) (by omega), lo3 a (by omega) (by omega)]
    · refine ha3.cg (n := 7) (fun k h => auE_none h) fun a a1 a2 => ?_
      rw [ch a (by omega) (by omega) h hlo (by omega), lo7 a (by omega) (by omega), lo6 a (by omega) (by omega), lo5 a (by omega) (by omega), lo4 a (by omega) (by omega)]
    · refine ha4.cg (n := 7) (fun k h => auE_none h) fun a a1 a2 => ?_
      rw [ch a (by omega) (by omega) h hlo (by omega), lo7 a (by omega) (by omega), lo6 a (by omega) (by omega), lo5 a (by omega) (by omega)]
    · refine ha5.cg (n := 2) (fun k h => waE_none h) fun a a1 a2 => ?_
      rw [ch a (by omega) (by omega) h hlo (by omega), lo7 a (by omega) (by omega), lo6 a (by omega) (by omega)]
    · refine ha6.cg (n := 3) (fun k h => spE_none h) fun a a1 a2 => ?_
      rw [ch a (by omega) (by omega) h hlo (by omega), lo7 a (by omega) (by omega)]
    · refine ha7.cg (n := 5) (fun k h => shE_none h) fun a a1 a2 => ?_
      rw [ch a (by omega) (by omega) h hlo (by omega)]
    · rcases ha with ha | ha
      · rw [hlo a (by omega) (by omega), h0o a (by omega), lo7 a (by omega) (by omega), lo6 a (by omega) (by omega), lo5 a (by omega) (by omega), lo4 a (by omega) (by omega), lo3 a (by omega) (by omega), lo2 a (by omega) (by omega), lo1 a ha]
      · exact hhi a (by omega)
    · rw [lo7 _ (by omega) (by omega), lo6 _ (by omega) (by omega), lo5 _ (by omega) (by omega), lo4 _ (by omega) (by omega), lo3 _ (by omega) (by omega), lo2 _ (by omega) (by omega)]
      exact gp1
  refine key _ _ rfl ?_ (fun a ha => ?_) _ rfl rfl
  · simp (disch := omega) only [va_up_ne, va_up_self]
  · simp (disch := omega) only [va_up_ne]
end
