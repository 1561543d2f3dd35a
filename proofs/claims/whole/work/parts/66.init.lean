/-! constructors: Nodes -/
theorem q_newP (m : Nat) (f : Nat → Option qE) (e : qE) : q_new (m, f) e = (m + 1, va_up f m (some e)) := Eq.trans rfl rfl
theorem q_setP (m : Nat) (f : Nat → Option qE) (a : Nat) (e : qE) : q_set (m, f) a e = (m, va_up f a (some e)) := Eq.trans rfl rfl
theorem q_ext {M M' : qM} (h1 : M.1 = M'.1) (h2 : ∀ a, M.2 a = M'.2 a) : M = M' := Prod.ext h1 (funext h2)
theorem z_max0 {n : Nat} (hn : n < 2147483648) : (if nI n < nI 0 then nI 0 else nI n) = nI n := if_neg (by rw [z_ltI hn (by decide)]; omega)
theorem q_zero_1 : q_zero 1 = .inl (fun _ => 0) := rfl
section
variable {G : qC} {L : Launch} {d : Nat} {Q : Option Value → qM → Prop} {i : Nat}
set_option maxRecDepth 100000 in
set_option maxHeartbeats 8000000 in
theorem c4_init {n : Nat} {f : Nat → Option qE} (hd : 1 ≤ d) (hf : f i = some (.inr (4, [.null, .null, .null, .int 0]))) (hn : n ≤ 1000000) (hQ : Q none (q_nd (i + 4, f) i n (fun _ => 0) (fun _ => 0) (fun _ => 0) 0)) : q_Call G L d mX4_init 3 (3 * n) [.ref i, .int (nI n)] (i + 1, f) Q := by
  have e : ∀ M : qM, M.1 = i + 4 → (∀ a, M.2 a = (q_nd (i + 4, f) i n (fun _ => 0) (fun _ => 0) (fun _ => 0) 0).2 a) → Q none M := fun M h1 h2 => by
    rw [q_ext (M' := q_nd (i + 4, f) i n (fun _ => 0) (fun _ => 0) (fun _ => 0) 0) h1 h2]
    exact hQ
  refine q_Call.of [(0, .ref i), (1, .int (nI n))] rfl ?_
  refine q_X.run sX4_init [] 60 ?_
  simp (maxSteps := 10000000) (disch := omega) only [↓q_run_s, q_stop_n, q_stop_c, q_lg_c, q_ls_d, q_ld_n, q_ld_c, q_cat_i, q_cat_r, q_cat_n, q_wd_n, q_wd_c, q_bx_1, q_bx_2, q_bx_3, q_bx_4, q_bx_5, q_bx_6, q_bx_7, q_bx_8, q_pop_0, q_pop_s, ↓reduceIte, Nat.reduceEqDiff, reduceCtorEq, eq_self, Bool.false_eq_true, Nat.reduceAdd, Nat.reduceSub, Nat.reduceMul, Nat.reduceLeDiff, Nat.reduceLT, Nat.le_refl, Nat.zero_le, true_and, and_true, false_and, and_false, or_false, false_or, true_or, or_true, not_true_eq_false, not_false_eq_true, if_true, if_false, List.getElem?_cons_zero, List.getElem?_cons_succ, List.set_cons_zero, List.set_cons_succ, List.length_cons, List.length_nil, ↓tX4_init_0, ↓tX4_init_1, ↓tX4_init_4, ↓tX4_init_5, ↓tX4_init_6, ↓tX4_init_9, ↓tX4_init_10, ↓tX4_init_11, ↓tX4_init_12, ↓tX4_init_14, ↓tX4_init_17, ↓tX4_init_18, ↓tX4_init_19, ↓tX4_init_21, ↓tX4_init_24, ↓tX4_init_25, ↓tX4_init_26, ↓tX4_init_28, ↓tX4_init_31, ↓oAl, ↓oIl, ↓oIs, ↓oK, ↓oMax, ↓oNewa, ↓oObj, ↓oPutR, ↓oVret, q_set_s, q_set_n, z_clamp, z_ltI, z_leI, z_eqI, z_lt0, z_ge0, z_eq0I, z_gt0I, z_le0I, z_m1lt, z_m1ge, z_m1eq, z_m1eq', z_inT, z_add, z_sub, z_mul, z_div, z_rem, n_ltT, n_ltF, n_leT, n_leF, n_eqT, n_eqF, z_11, q_tl_i, q_tl_n, q_ap_n, q_ap_c, q_newP, q_setP, va_up_ne, va_up_self, hf]
  refine e _ rfl fun a => ?_
  rcases (show a < i ∨ a = i ∨ a = i + 1 ∨ a = i + 2 ∨ a = i + 3 ∨ i + 4 ≤ a by omega) with g | g | g | g | g | g
  · simp (disch := omega) only [va_up_ne]
    exact (q_ov_out (i + 4, f) i 4 _ (by omega)).symm
  · subst g
    simp (disch := omega) only [va_up_ne, va_up_self]
    exact nd_0.symm
  · subst g
    simp (disch := omega) only [va_up_ne, va_up_self]
    exact nd_1.symm
  · subst g
    simp (disch := omega) only [va_up_ne, va_up_self]
    exact nd_2.symm
  · subst g
    simp (disch := omega) only [va_up_ne, va_up_self]
    exact nd_3.symm
  · simp (disch := omega) only [va_up_ne]
    exact (q_ov_out (i + 4, f) i 4 _ (by omega)).symm
theorem caE_none {i : Nat} {A : Nat → Nat → Int32} {q : Nat} (h : 9 ≤ q) : caE i A q = none := by
  obtain ⟨q, rfl⟩ : ∃ k, q = k + 9 := ⟨q - 9, by omega⟩
  rfl
theorem ca_out {M : qM} {i : Nat} {A : Nat → Nat → Int32} {a : Nat} (h : a < i ∨ i + 9 ≤ a) : (q_ca M i A).2 a = M.2 a := q_og_out (by
  by_cases c : a < i
  · exact Or.inl c
  · exact Or.inr (caE_none (by omega)))
theorem ca_in {M : qM} {i : Nat} {A : Nat → Nat → Int32} {q : Nat} (h1 : 1 ≤ q) (h2 : q ≤ 4) : (q_ca M i A).2 (i + q) = M.2 (i + q) := q_og_out (Or.inr (by
  rw [Nat.add_sub_cancel_left]
  rcases (show q = 1 ∨ q = 2 ∨ q = 3 ∨ q = 4 by omega) with g | g | g | g <;> subst g <;> rfl))
set_option maxRecDepth 100000 in
set_option maxHeartbeats 8000000 in
theorem c1_init {f : Nat → Option qE} (hd : 8 ≤ d) (hf : f i = some (.inr (1, [.null, .null, .null, .null, .null]))) (hQ : ∀ A k l r, k_hC k l r (A 2) (k_T 11) → (∀ c, 2 ≤ c → c ≤ 11 → A 1 c = nI (k_F c)) → Q none (q_ca (q_nd (i + 9, f) (i + 1) 4937 k l r 4937) i A)) : q_Call G L d mX1_init 8 19788 [.ref i] (i + 1, f) Q := by
  have loop : ∀ (g c : Nat) (A : Nat → Nat → Int32) (k l r : Nat → Int32), g + c = 11 → 2 ≤ c → k_Y (c - 1) (k_T c) A k l r → q_X G L d mX1_init 8 19788 Q 53 [(0, .ref i), (1, .int (nI c))] [] (q_ca (q_nd (i + 9, f) (i + 1) 4937 k l r (k_T c).length) i A) 8 19788 := by
    intro g
    induction g with
    | zero =>
      intro c A k l r hg h2 hY
      have e : c = 11 := by omega
      subst e
      have hl : (k_T 11).length = 4937 := k_4937
      rw [hl]
      have h' := hQ (va_up A 1 (upd (A 1) 11 (nI 4937))) k l r (by rw [va_up_ne _ _ (by decide)]; exact hY.1) (fun c h1 h2 => by
        rw [va_up_self]
        by_cases c11 : c = 11
        · rw [c11, q_ud_s, k_4937]
        · rw [q_ud_n _ _ c11]; exact hY.2 c h1 (by omega))
      refine q_X.run sX1_init [] 40 ?_
      simp (maxSteps := 10000000) (disch := omega) only [↓q_run_s, q_stop_n, q_stop_c, q_lg_c, q_ls_d, q_ld_n, q_ld_c, q_cat_i, q_cat_r, q_cat_n, q_wd_n, q_wd_c, q_bx_1, q_bx_2, q_bx_3, q_bx_4, q_bx_5, q_bx_6, q_bx_7, q_bx_8, q_pop_0, q_pop_s, ↓reduceIte, Nat.reduceEqDiff, reduceCtorEq, eq_self, Bool.false_eq_true, Nat.reduceAdd, Nat.reduceSub, Nat.reduceMul, Nat.reduceLeDiff, Nat.reduceLT, Nat.le_refl, Nat.zero_le, true_and, and_true, false_and, and_false, or_false, false_or, true_or, or_true, not_true_eq_false, not_false_eq_true, if_true, if_false, List.getElem?_cons_zero, List.getElem?_cons_succ, List.set_cons_zero, List.set_cons_succ, List.length_cons, List.length_nil, ↓tX1_init_0, ↓tX1_init_1, ↓tX1_init_4, ↓tX1_init_5, ↓tX1_init_8, ↓tX1_init_9, ↓tX1_init_12, ↓tX1_init_15, ↓tX1_init_18, ↓tX1_init_19, ↓tX1_init_21, ↓tX1_init_23, ↓tX1_init_26, ↓tX1_init_27, ↓tX1_init_30, ↓tX1_init_32, ↓tX1_init_35, ↓tX1_init_36, ↓tX1_init_38, ↓tX1_init_40, ↓tX1_init_43, ↓tX1_init_44, ↓tX1_init_46, ↓tX1_init_48, ↓tX1_init_51, ↓tX1_init_52, ↓tX1_init_53, ↓tX1_init_54, ↓tX1_init_56, ↓tX1_init_59, ↓tX1_init_60, ↓tX1_init_63, ↓tX1_init_64, ↓tX1_init_65, ↓tX1_init_68, ↓tX1_init_71, ↓tX1_init_72, ↓tX1_init_73, ↓tX1_init_74, ↓tX1_init_75, ↓tX1_init_76, ↓tX1_init_77, ↓tX1_init_80, ↓tX1_init_81, ↓tX1_init_82, ↓tX1_init_83, ↓tX1_init_84, ↓tX1_init_86, ↓tX1_init_89, ↓tX1_init_90, ↓tX1_init_91, ↓tX1_init_92, ↓tX1_init_95, ↓tX1_init_96, ↓tX1_init_97, ↓tX1_init_98, ↓tX1_init_101, ↓tX1_init_102, ↓tX1_init_103, ↓tX1_init_104, ↓tX1_init_107, ↓tX1_init_108, ↓tX1_init_109, ↓tX1_init_110, ↓tX1_init_113, ↓tX1_init_116, ↓tX1_init_119, ↓tX1_init_120, ↓tX1_init_123, ↓tX1_init_125, ↓tX1_init_126, ↓tX1_init_129, ↓tX1_init_132, ↓tX1_init_133, ↓oAl, ↓oCallI, ↓oCallV, ↓oDup, ↓oGet, ↓oGo, ↓oIast, ↓oIf2gt, ↓oIl, ↓oInc, ↓oIs, ↓oK, ↓oNew, ↓oNewa, ↓oObj, ↓oPutR, ↓oVret, q_set_s, q_set_n, ca_0, caO_len, q_up_a, caO_1, ca_a1, cas_a1, caO_0, z_clamp, z_ltI, z_leI, z_eqI, z_lt0, z_ge0, z_eq0I, z_gt0I, z_le0I, z_m1lt, z_m1ge, z_m1eq, z_m1eq', z_inT, z_add, z_sub, z_mul, z_div, z_rem, n_ltT, n_ltF, n_leT, n_leF, n_eqT, n_eqF, z_11, q_tl_i, q_tl_n, q_ap_n, q_ap_c, cn_0]
      refine e4_size ?_
      refine q_X.run sX1_init [] 40 ?_
      simp (maxSteps := 10000000) (disch := omega) only [↓q_run_s, q_stop_n, q_stop_c, q_lg_c, q_ls_d, q_ld_n, q_ld_c, q_cat_i, q_cat_r, q_cat_n, q_wd_n, q_wd_c, q_bx_1, q_bx_2, q_bx_3, q_bx_4, q_bx_5, q_bx_6, q_bx_7, q_bx_8, q_pop_0, q_pop_s, ↓reduceIte, Nat.reduceEqDiff, reduceCtorEq, eq_self, Bool.false_eq_true, Nat.reduceAdd, Nat.reduceSub, Nat.reduceMul, Nat.reduceLeDiff, Nat.reduceLT, Nat.le_refl, Nat.zero_le, true_and, and_true, false_and, and_false, or_false, false_or, true_or, or_true, not_true_eq_false, not_false_eq_true, if_true, if_false, List.getElem?_cons_zero, List.getElem?_cons_succ, List.set_cons_zero, List.set_cons_succ, List.length_cons, List.length_nil, ↓tX1_init_0, ↓tX1_init_1, ↓tX1_init_4, ↓tX1_init_5, ↓tX1_init_8, ↓tX1_init_9, ↓tX1_init_12, ↓tX1_init_15, ↓tX1_init_18, ↓tX1_init_19, ↓tX1_init_21, ↓tX1_init_23, ↓tX1_init_26, ↓tX1_init_27, ↓tX1_init_30, ↓tX1_init_32, ↓tX1_init_35, ↓tX1_init_36, ↓tX1_init_38, ↓tX1_init_40, ↓tX1_init_43, ↓tX1_init_44, ↓tX1_init_46, ↓tX1_init_48, ↓tX1_init_51, ↓tX1_init_52, ↓tX1_init_53, ↓tX1_init_54, ↓tX1_init_56, ↓tX1_init_59, ↓tX1_init_60, ↓tX1_init_63, ↓tX1_init_64, ↓tX1_init_65, ↓tX1_init_68, ↓tX1_init_71, ↓tX1_init_72, ↓tX1_init_73, ↓tX1_init_74, ↓tX1_init_75, ↓tX1_init_76, ↓tX1_init_77, ↓tX1_init_80, ↓tX1_init_81, ↓tX1_init_82, ↓tX1_init_83, ↓tX1_init_84, ↓tX1_init_86, ↓tX1_init_89, ↓tX1_init_90, ↓tX1_init_91, ↓tX1_init_92, ↓tX1_init_95, ↓tX1_init_96, ↓tX1_init_97, ↓tX1_init_98, ↓tX1_init_101, ↓tX1_init_102, ↓tX1_init_103, ↓tX1_init_104, ↓tX1_init_107, ↓tX1_init_108, ↓tX1_init_109, ↓tX1_init_110, ↓tX1_init_113, ↓tX1_init_116, ↓tX1_init_119, ↓tX1_init_120, ↓tX1_init_123, ↓tX1_init_125, ↓tX1_init_126, ↓tX1_init_129, ↓tX1_init_132, ↓tX1_init_133, ↓oAl, ↓oCallI, ↓oCallV, ↓oDup, ↓oGet, ↓oGo, ↓oIast, ↓oIf2gt, ↓oIl, ↓oInc, ↓oIs, ↓oK, ↓oNew, ↓oNewa, ↓oObj, ↓oPutR, ↓oVret, q_set_s, q_set_n, ca_0, caO_len, q_up_a, caO_1, ca_a1, cas_a1, caO_0, z_clamp, z_ltI, z_leI, z_eqI, z_lt0, z_ge0, z_eq0I, z_gt0I, z_le0I, z_m1lt, z_m1ge, z_m1eq, z_m1eq', z_inT, z_add, z_sub, z_mul, z_div, z_rem, n_ltT, n_ltF, n_leT, n_leF, n_eqT, n_eqF, z_11, q_tl_i, q_tl_n, q_ap_n, q_ap_c]
      exact h'
    | succ g ih =>
      intro c A k l r hg h2 hY
      have hc : c ≤ 10 := by omega
      have hFc : k_F c ≤ k_F 11 := k_F_mono (by omega)
      rw [k_4937] at hFc
      have hY1 : k_Y c (k_T c) (va_up A 1 (upd (A 1) c (nI (k_F c)))) k l r := ⟨by rw [va_up_ne _ _ (by decide)]; exact hY.1, fun c' h1 h2 => by
        rw [va_up_self]
        by_cases cc : c' = c
        · rw [cc, q_ud_s]
        · rw [q_ud_n _ _ cc]; exact hY.2 c' h1 (by omega)⟩
      obtain ⟨LA, hLA⟩ : ∃ LA, LA = k_lA (if c = 2 then 3 else 0) := ⟨_, rfl⟩
      obtain ⟨LB, hLB⟩ : ∃ LB, LB = k_lB (if c = 3 then 7 else 0) := ⟨_, rfl⟩
      have eP3 : k_P3 c = k_T c ++ LA ++ LB := by rw [hLA, hLB]; rfl
      have p3 := k_pre3 c
      rw [eP3] at p3
      have s1 : ∀ A k l r, k_Y c (k_P3 c) A k l r → q_X G L d mX1_init 8 19788 Q 89 [(0, .ref i), (1, .int (nI c))] [] (q_ca (q_nd (i + 9, f) (i + 1) 4937 k l r (k_P3 c).length) i A) 8 19788 := by
        intro A k l r hY3
        refine q_X.run sX1_init [] 40 ?_
        simp (maxSteps := 10000000) (disch := omega) only [↓q_run_s, q_stop_n, q_stop_c, q_lg_c, q_ls_d, q_ld_n, q_ld_c, q_cat_i, q_cat_r, q_cat_n, q_wd_n, q_wd_c, q_bx_1, q_bx_2, q_bx_3, q_bx_4, q_bx_5, q_bx_6, q_bx_7, q_bx_8, q_pop_0, q_pop_s, ↓reduceIte, Nat.reduceEqDiff, reduceCtorEq, eq_self, Bool.false_eq_true, Nat.reduceAdd, Nat.reduceSub, Nat.reduceMul, Nat.reduceLeDiff, Nat.reduceLT, Nat.le_refl, Nat.zero_le, true_and, and_true, false_and, and_false, or_false, false_or, true_or, or_true, not_true_eq_false, not_false_eq_true, if_true, if_false, List.getElem?_cons_zero, List.getElem?_cons_succ, List.set_cons_zero, List.set_cons_succ, List.length_cons, List.length_nil, ↓tX1_init_0, ↓tX1_init_1, ↓tX1_init_4, ↓tX1_init_5, ↓tX1_init_8, ↓tX1_init_9, ↓tX1_init_12, ↓tX1_init_15, ↓tX1_init_18, ↓tX1_init_19, ↓tX1_init_21, ↓tX1_init_23, ↓tX1_init_26, ↓tX1_init_27, ↓tX1_init_30, ↓tX1_init_32, ↓tX1_init_35, ↓tX1_init_36, ↓tX1_init_38, ↓tX1_init_40, ↓tX1_init_43, ↓tX1_init_44, ↓tX1_init_46, ↓tX1_init_48, ↓tX1_init_51, ↓tX1_init_52, ↓tX1_init_53, ↓tX1_init_54, ↓tX1_init_56, ↓tX1_init_59, ↓tX1_init_60, ↓tX1_init_63, ↓tX1_init_64, ↓tX1_init_65, ↓tX1_init_68, ↓tX1_init_71, ↓tX1_init_72, ↓tX1_init_73, ↓tX1_init_74, ↓tX1_init_75, ↓tX1_init_76, ↓tX1_init_77, ↓tX1_init_80, ↓tX1_init_81, ↓tX1_init_82, ↓tX1_init_83, ↓tX1_init_84, ↓tX1_init_86, ↓tX1_init_89, ↓tX1_init_90, ↓tX1_init_91, ↓tX1_init_92, ↓tX1_init_95, ↓tX1_init_96, ↓tX1_init_97, ↓tX1_init_98, ↓tX1_init_101, ↓tX1_init_102, ↓tX1_init_103, ↓tX1_init_104, ↓tX1_init_107, ↓tX1_init_108, ↓tX1_init_109, ↓tX1_init_110, ↓tX1_init_113, ↓tX1_init_116, ↓tX1_init_119, ↓tX1_init_120, ↓tX1_init_123, ↓tX1_init_125, ↓tX1_init_126, ↓tX1_init_129, ↓tX1_init_132, ↓tX1_init_133, ↓oAl, ↓oCallI, ↓oCallV, ↓oDup, ↓oGet, ↓oGo, ↓oIast, ↓oIf2gt, ↓oIl, ↓oInc, ↓oIs, ↓oK, ↓oNew, ↓oNewa, ↓oObj, ↓oPutR, ↓oVret, q_set_s, q_set_n, ca_0, caO_len, q_up_a, caO_1, ca_a1, cas_a1, caO_0, z_clamp, z_ltI, z_leI, z_eqI, z_lt0, z_ge0, z_eq0I, z_gt0I, z_le0I, z_m1lt, z_m1ge, z_m1eq, z_m1eq', z_inT, z_add, z_sub, z_mul, z_div, z_rem, n_ltT, n_ltF, n_leT, n_leF, n_eqT, n_eqF, z_11, q_tl_i, q_tl_n, q_ap_n, q_ap_c]
        refine c1_addPairs (M0 := (i + 9, f)) (P := k_P3 c) (kd := 2) (own := 1) (Or.inl ⟨rfl, rfl⟩) h2 hc ((List.prefix_append _ _).trans (List.prefix_append _ _)) (k_pre4 c) (by omega) hY3 fun A4 k4 l4 r4 hY4 => ?_
        refine q_X.run sX1_init [] 40 ?_
        simp (maxSteps := 10000000) (disch := omega) only [↓q_run_s, q_stop_n, q_stop_c, q_lg_c, q_ls_d, q_ld_n, q_ld_c, q_cat_i, q_cat_r, q_cat_n, q_wd_n, q_wd_c, q_bx_1, q_bx_2, q_bx_3, q_bx_4, q_bx_5, q_bx_6, q_bx_7, q_bx_8, q_pop_0, q_pop_s, ↓reduceIte, Nat.reduceEqDiff, reduceCtorEq, eq_self, Bool.false_eq_true, Nat.reduceAdd, Nat.reduceSub, Nat.reduceMul, Nat.reduceLeDiff, Nat.reduceLT, Nat.le_refl, Nat.zero_le, true_and, and_true, false_and, and_false, or_false, false_or, true_or, or_true, not_true_eq_false, not_false_eq_true, if_true, if_false, List.getElem?_cons_zero, List.getElem?_cons_succ, List.set_cons_zero, List.set_cons_succ, List.length_cons, List.length_nil, ↓tX1_init_0, ↓tX1_init_1, ↓tX1_init_4, ↓tX1_init_5, ↓tX1_init_8, ↓tX1_init_9, ↓tX1_init_12, ↓tX1_init_15, ↓tX1_init_18, ↓tX1_init_19, ↓tX1_init_21, ↓tX1_init_23, ↓tX1_init_26, ↓tX1_init_27, ↓tX1_init_30, ↓tX1_init_32, ↓tX1_init_35, ↓tX1_init_36, ↓tX1_init_38, ↓tX1_init_40, ↓tX1_init_43, ↓tX1_init_44, ↓tX1_init_46, ↓tX1_init_48, ↓tX1_init_51, ↓tX1_init_52, ↓tX1_init_53, ↓tX1_init_54, ↓tX1_init_56, ↓tX1_init_59, ↓tX1_init_60, ↓tX1_init_63, ↓tX1_init_64, ↓tX1_init_65, ↓tX1_init_68, ↓tX1_init_71, ↓tX1_init_72, ↓tX1_init_73, ↓tX1_init_74, ↓tX1_init_75, ↓tX1_init_76, ↓tX1_init_77, ↓tX1_init_80, ↓tX1_init_81, ↓tX1_init_82, ↓tX1_init_83, ↓tX1_init_84, ↓tX1_init_86, ↓tX1_init_89, ↓tX1_init_90, ↓tX1_init_91, ↓tX1_init_92, ↓tX1_init_95, ↓tX1_init_96, ↓tX1_init_97, ↓tX1_init_98, ↓tX1_init_101, ↓tX1_init_102, ↓tX1_init_103, ↓tX1_init_104, ↓tX1_init_107, ↓tX1_init_108, ↓tX1_init_109, ↓tX1_init_110, ↓tX1_init_113, ↓tX1_init_116, ↓tX1_init_119, ↓tX1_init_120, ↓tX1_init_123, ↓tX1_init_125, ↓tX1_init_126, ↓tX1_init_129, ↓tX1_init_132, ↓tX1_init_133, ↓oAl, ↓oCallI, ↓oCallV, ↓oDup, ↓oGet, ↓oGo, ↓oIast, ↓oIf2gt, ↓oIl, ↓oInc, ↓oIs, ↓oK, ↓oNew, ↓oNewa, ↓oObj, ↓oPutR, ↓oVret, q_set_s, q_set_n, ca_0, caO_len, q_up_a, caO_1, ca_a1, cas_a1, caO_0, z_clamp, z_ltI, z_leI, z_eqI, z_lt0, z_ge0, z_eq0I, z_gt0I, z_le0I, z_m1lt, z_m1ge, z_m1eq, z_m1eq', z_inT, z_add, z_sub, z_mul, z_div, z_rem, n_ltT, n_ltF, n_leT, n_leF, n_eqT, n_eqF, z_11, q_tl_i, q_tl_n, q_ap_n, q_ap_c]
        refine c1_addPairs (M0 := (i + 9, f)) (P := k_P4 c) (kd := 3) (own := 2) (Or.inr ⟨rfl, rfl⟩) h2 hc (((List.prefix_append _ _).trans (List.prefix_append _ _) : k_T c <+: k_P3 c).trans (List.prefix_append _ _)) (k_pre5 c) (by omega) hY4 fun A5 k5 l5 r5 hY5 => ?_
        refine q_X.run sX1_init [] 40 ?_
        simp (maxSteps := 10000000) (disch := omega) only [↓q_run_s, q_stop_n, q_stop_c, q_lg_c, q_ls_d, q_ld_n, q_ld_c, q_cat_i, q_cat_r, q_cat_n, q_wd_n, q_wd_c, q_bx_1, q_bx_2, q_bx_3, q_bx_4, q_bx_5, q_bx_6, q_bx_7, q_bx_8, q_pop_0, q_pop_s, ↓reduceIte, Nat.reduceEqDiff, reduceCtorEq, eq_self, Bool.false_eq_true, Nat.reduceAdd, Nat.reduceSub, Nat.reduceMul, Nat.reduceLeDiff, Nat.reduceLT, Nat.le_refl, Nat.zero_le, true_and, and_true, false_and, and_false, or_false, false_or, true_or, or_true, not_true_eq_false, not_false_eq_true, if_true, if_false, List.getElem?_cons_zero, List.getElem?_cons_succ, List.set_cons_zero, List.set_cons_succ, List.length_cons, List.length_nil, ↓tX1_init_0, ↓tX1_init_1, ↓tX1_init_4, ↓tX1_init_5, ↓tX1_init_8, ↓tX1_init_9, ↓tX1_init_12, ↓tX1_init_15, ↓tX1_init_18, ↓tX1_init_19, ↓tX1_init_21, ↓tX1_init_23, ↓tX1_init_26, ↓tX1_init_27, ↓tX1_init_30, ↓tX1_init_32, ↓tX1_init_35, ↓tX1_init_36, ↓tX1_init_38, ↓tX1_init_40, ↓tX1_init_43, ↓tX1_init_44, ↓tX1_init_46, ↓tX1_init_48, ↓tX1_init_51, ↓tX1_init_52, ↓tX1_init_53, ↓tX1_init_54, ↓tX1_init_56, ↓tX1_init_59, ↓tX1_init_60, ↓tX1_init_63, ↓tX1_init_64, ↓tX1_init_65, ↓tX1_init_68, ↓tX1_init_71, ↓tX1_init_72, ↓tX1_init_73, ↓tX1_init_74, ↓tX1_init_75, ↓tX1_init_76, ↓tX1_init_77, ↓tX1_init_80, ↓tX1_init_81, ↓tX1_init_82, ↓tX1_init_83, ↓tX1_init_84, ↓tX1_init_86, ↓tX1_init_89, ↓tX1_init_90, ↓tX1_init_91, ↓tX1_init_92, ↓tX1_init_95, ↓tX1_init_96, ↓tX1_init_97, ↓tX1_init_98, ↓tX1_init_101, ↓tX1_init_102, ↓tX1_init_103, ↓tX1_init_104, ↓tX1_init_107, ↓tX1_init_108, ↓tX1_init_109, ↓tX1_init_110, ↓tX1_init_113, ↓tX1_init_116, ↓tX1_init_119, ↓tX1_init_120, ↓tX1_init_123, ↓tX1_init_125, ↓tX1_init_126, ↓tX1_init_129, ↓tX1_init_132, ↓tX1_init_133, ↓oAl, ↓oCallI, ↓oCallV, ↓oDup, ↓oGet, ↓oGo, ↓oIast, ↓oIf2gt, ↓oIl, ↓oInc, ↓oIs, ↓oK, ↓oNew, ↓oNewa, ↓oObj, ↓oPutR, ↓oVret, q_set_s, q_set_n, ca_0, caO_len, q_up_a, caO_1, ca_a1, cas_a1, caO_0, z_clamp, z_ltI, z_leI, z_eqI, z_lt0, z_ge0, z_eq0I, z_gt0I, z_le0I, z_m1lt, z_m1ge, z_m1eq, z_m1eq', z_inT, z_add, z_sub, z_mul, z_div, z_rem, n_ltT, n_ltF, n_leT, n_leF, n_eqT, n_eqF, z_11, q_tl_i, q_tl_n, q_ap_n, q_ap_c]
        refine c1_addSingles (M0 := (i + 9, f)) (P := k_P5 c) (kd := 4) (Or.inl rfl) h2 hc (((List.prefix_append _ _).trans (List.prefix_append _ _) : k_T c <+: k_P3 c).trans ((List.prefix_append _ _).trans (List.prefix_append _ _))) (k_pre6 c) (by omega) hY5 fun A6 k6 l6 r6 hY6 => ?_
        refine q_X.run sX1_init [] 40 ?_
        simp (maxSteps := 10000000) (disch := omega) only [↓q_run_s, q_stop_n, q_stop_c, q_lg_c, q_ls_d, q_ld_n, q_ld_c, q_cat_i, q_cat_r, q_cat_n, q_wd_n, q_wd_c, q_bx_1, q_bx_2, q_bx_3, q_bx_4, q_bx_5, q_bx_6, q_bx_7, q_bx_8, q_pop_0, q_pop_s, ↓reduceIte, Nat.reduceEqDiff, reduceCtorEq, eq_self, Bool.false_eq_true, Nat.reduceAdd, Nat.reduceSub, Nat.reduceMul, Nat.reduceLeDiff, Nat.reduceLT, Nat.le_refl, Nat.zero_le, true_and, and_true, false_and, and_false, or_false, false_or, true_or, or_true, not_true_eq_false, not_false_eq_true, if_true, if_false, List.getElem?_cons_zero, List.getElem?_cons_succ, List.set_cons_zero, List.set_cons_succ, List.length_cons, List.length_nil, ↓tX1_init_0, ↓tX1_init_1, ↓tX1_init_4, ↓tX1_init_5, ↓tX1_init_8, ↓tX1_init_9, ↓tX1_init_12, ↓tX1_init_15, ↓tX1_init_18, ↓tX1_init_19, ↓tX1_init_21, ↓tX1_init_23, ↓tX1_init_26, ↓tX1_init_27, ↓tX1_init_30, ↓tX1_init_32, ↓tX1_init_35, ↓tX1_init_36, ↓tX1_init_38, ↓tX1_init_40, ↓tX1_init_43, ↓tX1_init_44, ↓tX1_init_46, ↓tX1_init_48, ↓tX1_init_51, ↓tX1_init_52, ↓tX1_init_53, ↓tX1_init_54, ↓tX1_init_56, ↓tX1_init_59, ↓tX1_init_60, ↓tX1_init_63, ↓tX1_init_64, ↓tX1_init_65, ↓tX1_init_68, ↓tX1_init_71, ↓tX1_init_72, ↓tX1_init_73, ↓tX1_init_74, ↓tX1_init_75, ↓tX1_init_76, ↓tX1_init_77, ↓tX1_init_80, ↓tX1_init_81, ↓tX1_init_82, ↓tX1_init_83, ↓tX1_init_84, ↓tX1_init_86, ↓tX1_init_89, ↓tX1_init_90, ↓tX1_init_91, ↓tX1_init_92, ↓tX1_init_95, ↓tX1_init_96, ↓tX1_init_97, ↓tX1_init_98, ↓tX1_init_101, ↓tX1_init_102, ↓tX1_init_103, ↓tX1_init_104, ↓tX1_init_107, ↓tX1_init_108, ↓tX1_init_109, ↓tX1_init_110, ↓tX1_init_113, ↓tX1_init_116, ↓tX1_init_119, ↓tX1_init_120, ↓tX1_init_123, ↓tX1_init_125, ↓tX1_init_126, ↓tX1_init_129, ↓tX1_init_132, ↓tX1_init_133, ↓oAl, ↓oCallI, ↓oCallV, ↓oDup, ↓oGet, ↓oGo, ↓oIast, ↓oIf2gt, ↓oIl, ↓oInc, ↓oIs, ↓oK, ↓oNew, ↓oNewa, ↓oObj, ↓oPutR, ↓oVret, q_set_s, q_set_n, ca_0, caO_len, q_up_a, caO_1, ca_a1, cas_a1, caO_0, z_clamp, z_ltI, z_leI, z_eqI, z_lt0, z_ge0, z_eq0I, z_gt0I, z_le0I, z_m1lt, z_m1ge, z_m1eq, z_m1eq', z_inT, z_add, z_sub, z_mul, z_div, z_rem, n_ltT, n_ltF, n_leT, n_leF, n_eqT, n_eqF, z_11, q_tl_i, q_tl_n, q_ap_n, q_ap_c]
        refine c1_addSingles (M0 := (i + 9, f)) (P := k_P6 c) (kd := 5) (Or.inr rfl) h2 hc (((List.prefix_append _ _).trans (List.prefix_append _ _) : k_T c <+: k_P3 c).trans ((List.prefix_append _ _).trans ((List.prefix_append _ _).trans (List.prefix_append _ _)))) (by rw [← k_P7]; exact List.prefix_refl _) (by omega) hY6 fun A7 k7 l7 r7 hY7 => ?_
        rw [← k_P7] at hY7 ⊢
        have h' := ih (c + 1) A7 k7 l7 r7 (by omega) (by omega) (by rw [Nat.add_sub_cancel]; exact hY7)
        refine q_X.run sX1_init [53] 40 ?_
        simp (maxSteps := 10000000) (disch := omega) only [↓q_run_s, q_stop_n, q_stop_c, q_lg_c, q_ls_d, q_ld_n, q_ld_c, q_cat_i, q_cat_r, q_cat_n, q_wd_n, q_wd_c, q_bx_1, q_bx_2, q_bx_3, q_bx_4, q_bx_5, q_bx_6, q_bx_7, q_bx_8, q_pop_0, q_pop_s, ↓reduceIte, Nat.reduceEqDiff, reduceCtorEq, eq_self, Bool.false_eq_true, Nat.reduceAdd, Nat.reduceSub, Nat.reduceMul, Nat.reduceLeDiff, Nat.reduceLT, Nat.le_refl, Nat.zero_le, true_and, and_true, false_and, and_false, or_false, false_or, true_or, or_true, not_true_eq_false, not_false_eq_true, if_true, if_false, List.getElem?_cons_zero, List.getElem?_cons_succ, List.set_cons_zero, List.set_cons_succ, List.length_cons, List.length_nil, ↓tX1_init_0, ↓tX1_init_1, ↓tX1_init_4, ↓tX1_init_5, ↓tX1_init_8, ↓tX1_init_9, ↓tX1_init_12, ↓tX1_init_15, ↓tX1_init_18, ↓tX1_init_19, ↓tX1_init_21, ↓tX1_init_23, ↓tX1_init_26, ↓tX1_init_27, ↓tX1_init_30, ↓tX1_init_32, ↓tX1_init_35, ↓tX1_init_36, ↓tX1_init_38, ↓tX1_init_40, ↓tX1_init_43, ↓tX1_init_44, ↓tX1_init_46, ↓tX1_init_48, ↓tX1_init_51, ↓tX1_init_52, ↓tX1_init_53, ↓tX1_init_54, ↓tX1_init_56, ↓tX1_init_59, ↓tX1_init_60, ↓tX1_init_63, ↓tX1_init_64, ↓tX1_init_65, ↓tX1_init_68, ↓tX1_init_71, ↓tX1_init_72, ↓tX1_init_73, ↓tX1_init_74, ↓tX1_init_75, ↓tX1_init_76, ↓tX1_init_77, ↓tX1_init_80, ↓tX1_init_81, ↓tX1_init_82, ↓tX1_init_83, ↓tX1_init_84, ↓tX1_init_86, ↓tX1_init_89, ↓tX1_init_90, ↓tX1_init_91, ↓tX1_init_92, ↓tX1_init_95, ↓tX1_init_96, ↓tX1_init_97, ↓tX1_init_98, ↓tX1_init_101, ↓tX1_init_102, ↓tX1_init_103, ↓tX1_init_104, ↓tX1_init_107, ↓tX1_init_108, ↓tX1_init_109, ↓tX1_init_110, ↓tX1_init_113, ↓tX1_init_116, ↓tX1_init_119, ↓tX1_init_120, ↓tX1_init_123, ↓tX1_init_125, ↓tX1_init_126, ↓tX1_init_129, ↓tX1_init_132, ↓tX1_init_133, ↓oAl, ↓oCallI, ↓oCallV, ↓oDup, ↓oGet, ↓oGo, ↓oIast, ↓oIf2gt, ↓oIl, ↓oInc, ↓oIs, ↓oK, ↓oNew, ↓oNewa, ↓oObj, ↓oPutR, ↓oVret, q_set_s, q_set_n, ca_0, caO_len, q_up_a, caO_1, ca_a1, cas_a1, caO_0, z_clamp, z_ltI, z_leI, z_eqI, z_lt0, z_ge0, z_eq0I, z_gt0I, z_le0I, z_m1lt, z_m1ge, z_m1eq, z_m1eq', z_inT, z_add, z_sub, z_mul, z_div, z_rem, n_ltT, n_ltF, n_leT, n_leF, n_eqT, n_eqF, z_11, q_tl_i, q_tl_n, q_ap_n, q_ap_c]
        refine q_X.lv2 _ ?_ h'
        exact ⟨rfl, rfl, trivial⟩
      rw [eP3] at s1
      have s2 : ∀ A k l r, k_Y c (k_T c ++ LA) A k l r → q_X G L d mX1_init 8 19788 Q 80 [(0, .ref i), (1, .int (nI c))] [] (q_ca (q_nd (i + 9, f) (i + 1) 4937 k l r (k_T c ++ LA).length) i A) 8 19788 := by
        intro A k l r hY3
        refine q_X.run sX1_init [] 40 ?_
        simp (maxSteps := 10000000) (disch := omega) only [↓q_run_s, q_stop_n, q_stop_c, q_lg_c, q_ls_d, q_ld_n, q_ld_c, q_cat_i, q_cat_r, q_cat_n, q_wd_n, q_wd_c, q_bx_1, q_bx_2, q_bx_3, q_bx_4, q_bx_5, q_bx_6, q_bx_7, q_bx_8, q_pop_0, q_pop_s, ↓reduceIte, Nat.reduceEqDiff, reduceCtorEq, eq_self, Bool.false_eq_true, Nat.reduceAdd, Nat.reduceSub, Nat.reduceMul, Nat.reduceLeDiff, Nat.reduceLT, Nat.le_refl, Nat.zero_le, true_and, and_true, false_and, and_false, or_false, false_or, true_or, or_true, not_true_eq_false, not_false_eq_true, if_true, if_false, List.getElem?_cons_zero, List.getElem?_cons_succ, List.set_cons_zero, List.set_cons_succ, List.length_cons, List.length_nil, ↓tX1_init_0, ↓tX1_init_1, ↓tX1_init_4, ↓tX1_init_5, ↓tX1_init_8, ↓tX1_init_9, ↓tX1_init_12, ↓tX1_init_15, ↓tX1_init_18, ↓tX1_init_19, ↓tX1_init_21, ↓tX1_init_23, ↓tX1_init_26, ↓tX1_init_27, ↓tX1_init_30, ↓tX1_init_32, ↓tX1_init_35, ↓tX1_init_36, ↓tX1_init_38, ↓tX1_init_40, ↓tX1_init_43, ↓tX1_init_44, ↓tX1_init_46, ↓tX1_init_48, ↓tX1_init_51, ↓tX1_init_52, ↓tX1_init_53, ↓tX1_init_54, ↓tX1_init_56, ↓tX1_init_59, ↓tX1_init_60, ↓tX1_init_63, ↓tX1_init_64, ↓tX1_init_65, ↓tX1_init_68, ↓tX1_init_71, ↓tX1_init_72, ↓tX1_init_73, ↓tX1_init_74, ↓tX1_init_75, ↓tX1_init_76, ↓tX1_init_77, ↓tX1_init_80, ↓tX1_init_81, ↓tX1_init_82, ↓tX1_init_83, ↓tX1_init_84, ↓tX1_init_86, ↓tX1_init_89, ↓tX1_init_90, ↓tX1_init_91, ↓tX1_init_92, ↓tX1_init_95, ↓tX1_init_96, ↓tX1_init_97, ↓tX1_init_98, ↓tX1_init_101, ↓tX1_init_102, ↓tX1_init_103, ↓tX1_init_104, ↓tX1_init_107, ↓tX1_init_108, ↓tX1_init_109, ↓tX1_init_110, ↓tX1_init_113, ↓tX1_init_116, ↓tX1_init_119, ↓tX1_init_120, ↓tX1_init_123, ↓tX1_init_125, ↓tX1_init_126, ↓tX1_init_129, ↓tX1_init_132, ↓tX1_init_133, ↓oAl, ↓oCallI, ↓oCallV, ↓oDup, ↓oGet, ↓oGo, ↓oIast, ↓oIf2gt, ↓oIl, ↓oInc, ↓oIs, ↓oK, ↓oNew, ↓oNewa, ↓oObj, ↓oPutR, ↓oVret, q_set_s, q_set_n, ca_0, caO_len, q_up_a, caO_1, ca_a1, cas_a1, caO_0, z_clamp, z_ltI, z_leI, z_eqI, z_lt0, z_ge0, z_eq0I, z_gt0I, z_le0I, z_m1lt, z_m1ge, z_m1eq, z_m1eq', z_inT, z_add, z_sub, z_mul, z_div, z_rem, n_ltT, n_ltF, n_leT, n_leF, n_eqT, n_eqF, z_11, q_tl_i, q_tl_n, q_ap_n, q_ap_c]
        refine c1_addLeaves (M0 := (i + 9, f)) (T := k_T c ++ LA) (kd := 1) (a := 1) (b := 7) (f := fun v => (v, 0, .var v)) (Or.inr rfl) hc (by decide) (by decide) (fun v h1 h2 => ⟨rfl, rfl, rfl, rfl⟩) (by omega) hY3 (fun h => ?_) (fun h q hq => ?_) (fun h A' k' l' r' hY' => ?_)
        · have h : c ≠ 3 := h
          have e : LB = [] := by rw [hLB, if_neg h]; rfl
          have h' := s1 A k l r (by rw [e, List.append_nil]; exact hY3)
          rw [e, List.append_nil] at h'
          refine q_X.lv2 _ ?_ h'
          exact ⟨rfl, rfl, trivial⟩
        · have h : c = 3 := h
          have e : LB = k_lB 7 := by rw [hLB, if_pos h]
          rw [e] at p3
          have e2 : (List.range q).map (fun v => ((fun v => (v, 0, .var v)) (1 + v) : kE)) = k_lB q := by
            unfold k_lB
            congr 1
            funext v
            rw [Nat.add_comm 1 v]
          rw [e2]
          exact ((List.prefix_append_right_inj _).mpr (k_map_pre' _ hq)).trans p3
        · have h : c = 3 := h
          have e : (List.range (7 + 1 - 1)).map (fun v => ((fun v => (v, 0, .var v)) (1 + v) : kE)) = LB := by
            rw [hLB, if_pos h]
            unfold k_lB
            congr 1
            funext v
            rw [Nat.add_comm 1 v]
          rw [e] at hY' ⊢
          have h' := s1 A' k' l' r' hY'
          refine q_X.lv2 _ ?_ h'
          exact ⟨rfl, rfl, trivial⟩
      refine q_X.run sX1_init [] 40 ?_
      simp (maxSteps := 10000000) (disch := omega) only [↓q_run_s, q_stop_n, q_stop_c, q_lg_c, q_ls_d, q_ld_n, q_ld_c, q_cat_i, q_cat_r, q_cat_n, q_wd_n, q_wd_c, q_bx_1, q_bx_2, q_bx_3, q_bx_4, q_bx_5, q_bx_6, q_bx_7, q_bx_8, q_pop_0, q_pop_s, ↓reduceIte, Nat.reduceEqDiff, reduceCtorEq, eq_self, Bool.false_eq_true, Nat.reduceAdd, Nat.reduceSub, Nat.reduceMul, Nat.reduceLeDiff, Nat.reduceLT, Nat.le_refl, Nat.zero_le, true_and, and_true, false_and, and_false, or_false, false_or, true_or, or_true, not_true_eq_false, not_false_eq_true, if_true, if_false, List.getElem?_cons_zero, List.getElem?_cons_succ, List.set_cons_zero, List.set_cons_succ, List.length_cons, List.length_nil, ↓tX1_init_0, ↓tX1_init_1, ↓tX1_init_4, ↓tX1_init_5, ↓tX1_init_8, ↓tX1_init_9, ↓tX1_init_12, ↓tX1_init_15, ↓tX1_init_18, ↓tX1_init_19, ↓tX1_init_21, ↓tX1_init_23, ↓tX1_init_26, ↓tX1_init_27, ↓tX1_init_30, ↓tX1_init_32, ↓tX1_init_35, ↓tX1_init_36, ↓tX1_init_38, ↓tX1_init_40, ↓tX1_init_43, ↓tX1_init_44, ↓tX1_init_46, ↓tX1_init_48, ↓tX1_init_51, ↓tX1_init_52, ↓tX1_init_53, ↓tX1_init_54, ↓tX1_init_56, ↓tX1_init_59, ↓tX1_init_60, ↓tX1_init_63, ↓tX1_init_64, ↓tX1_init_65, ↓tX1_init_68, ↓tX1_init_71, ↓tX1_init_72, ↓tX1_init_73, ↓tX1_init_74, ↓tX1_init_75, ↓tX1_init_76, ↓tX1_init_77, ↓tX1_init_80, ↓tX1_init_81, ↓tX1_init_82, ↓tX1_init_83, ↓tX1_init_84, ↓tX1_init_86, ↓tX1_init_89, ↓tX1_init_90, ↓tX1_init_91, ↓tX1_init_92, ↓tX1_init_95, ↓tX1_init_96, ↓tX1_init_97, ↓tX1_init_98, ↓tX1_init_101, ↓tX1_init_102, ↓tX1_init_103, ↓tX1_init_104, ↓tX1_init_107, ↓tX1_init_108, ↓tX1_init_109, ↓tX1_init_110, ↓tX1_init_113, ↓tX1_init_116, ↓tX1_init_119, ↓tX1_init_120, ↓tX1_init_123, ↓tX1_init_125, ↓tX1_init_126, ↓tX1_init_129, ↓tX1_init_132, ↓tX1_init_133, ↓oAl, ↓oCallI, ↓oCallV, ↓oDup, ↓oGet, ↓oGo, ↓oIast, ↓oIf2gt, ↓oIl, ↓oInc, ↓oIs, ↓oK, ↓oNew, ↓oNewa, ↓oObj, ↓oPutR, ↓oVret, q_set_s, q_set_n, ca_0, caO_len, q_up_a, caO_1, ca_a1, cas_a1, caO_0, z_clamp, z_ltI, z_leI, z_eqI, z_lt0, z_ge0, z_eq0I, z_gt0I, z_le0I, z_m1lt, z_m1ge, z_m1eq, z_m1eq', z_inT, z_add, z_sub, z_mul, z_div, z_rem, n_ltT, n_ltF, n_leT, n_leF, n_eqT, n_eqF, z_11, q_tl_i, q_tl_n, q_ap_n, q_ap_c, cn_0]
      refine e4_size ?_
      rw [show (k_T c).length = k_F c from rfl]
      refine q_X.run sX1_init [] 40 ?_
      simp (maxSteps := 10000000) (disch := omega) only [↓q_run_s, q_stop_n, q_stop_c, q_lg_c, q_ls_d, q_ld_n, q_ld_c, q_cat_i, q_cat_r, q_cat_n, q_wd_n, q_wd_c, q_bx_1, q_bx_2, q_bx_3, q_bx_4, q_bx_5, q_bx_6, q_bx_7, q_bx_8, q_pop_0, q_pop_s, ↓reduceIte, Nat.reduceEqDiff, reduceCtorEq, eq_self, Bool.false_eq_true, Nat.reduceAdd, Nat.reduceSub, Nat.reduceMul, Nat.reduceLeDiff, Nat.reduceLT, Nat.le_refl, Nat.zero_le, true_and, and_true, false_and, and_false, or_false, false_or, true_or, or_true, not_true_eq_false, not_false_eq_true, if_true, if_false, List.getElem?_cons_zero, List.getElem?_cons_succ, List.set_cons_zero, List.set_cons_succ, List.length_cons, List.length_nil, ↓tX1_init_0, ↓tX1_init_1, ↓tX1_init_4, ↓tX1_init_5, ↓tX1_init_8, ↓tX1_init_9, ↓tX1_init_12, ↓tX1_init_15, ↓tX1_init_18, ↓tX1_init_19, ↓tX1_init_21, ↓tX1_init_23, ↓tX1_init_26, ↓tX1_init_27, ↓tX1_init_30, ↓tX1_init_32, ↓tX1_init_35, ↓tX1_init_36, ↓tX1_init_38, ↓tX1_init_40, ↓tX1_init_43, ↓tX1_init_44, ↓tX1_init_46, ↓tX1_init_48, ↓tX1_init_51, ↓tX1_init_52, ↓tX1_init_53, ↓tX1_init_54, ↓tX1_init_56, ↓tX1_init_59, ↓tX1_init_60, ↓tX1_init_63, ↓tX1_init_64, ↓tX1_init_65, ↓tX1_init_68, ↓tX1_init_71, ↓tX1_init_72, ↓tX1_init_73, ↓tX1_init_74, ↓tX1_init_75, ↓tX1_init_76, ↓tX1_init_77, ↓tX1_init_80, ↓tX1_init_81, ↓tX1_init_82, ↓tX1_init_83, ↓tX1_init_84, ↓tX1_init_86, ↓tX1_init_89, ↓tX1_init_90, ↓tX1_init_91, ↓tX1_init_92, ↓tX1_init_95, ↓tX1_init_96, ↓tX1_init_97, ↓tX1_init_98, ↓tX1_init_101, ↓tX1_init_102, ↓tX1_init_103, ↓tX1_init_104, ↓tX1_init_107, ↓tX1_init_108, ↓tX1_init_109, ↓tX1_init_110, ↓tX1_init_113, ↓tX1_init_116, ↓tX1_init_119, ↓tX1_init_120, ↓tX1_init_123, ↓tX1_init_125, ↓tX1_init_126, ↓tX1_init_129, ↓tX1_init_132, ↓tX1_init_133, ↓oAl, ↓oCallI, ↓oCallV, ↓oDup, ↓oGet, ↓oGo, ↓oIast, ↓oIf2gt, ↓oIl, ↓oInc, ↓oIs, ↓oK, ↓oNew, ↓oNewa, ↓oObj, ↓oPutR, ↓oVret, q_set_s, q_set_n, ca_0, caO_len, q_up_a, caO_1, ca_a1, cas_a1, caO_0, z_clamp, z_ltI, z_leI, z_eqI, z_lt0, z_ge0, z_eq0I, z_gt0I, z_le0I, z_m1lt, z_m1ge, z_m1eq, z_m1eq', z_inT, z_add, z_sub, z_mul, z_div, z_rem, n_ltT, n_ltF, n_leT, n_leF, n_eqT, n_eqF, z_11, q_tl_i, q_tl_n, q_ap_n, q_ap_c]
      refine c1_addLeaves (M0 := (i + 9, f)) (T := k_T c) (kd := 0) (a := 0) (b := 2) (f := fun v => (v, 0, .num (v : Int))) (Or.inl rfl) hc (by decide) (by decide) (fun v h1 h2 => ⟨rfl, rfl, rfl, rfl⟩) (by omega) hY1 (fun h => ?_) (fun h q hq => ?_) (fun h A' k' l' r' hY' => ?_)
      · have h : c ≠ 2 := h
        have e : LA = [] := by rw [hLA, if_neg h]; rfl
        have h' := s2 _ k l r (by rw [e, List.append_nil]; exact hY1)
        rw [e, List.append_nil] at h'
        refine q_X.lv2 _ ?_ h'
        exact ⟨rfl, rfl, trivial⟩
      · have h : c = 2 := h
        have e : LA = k_lA 3 := by rw [hLA, if_pos h]
        rw [e] at p3
        have e2 : (List.range q).map (fun v => ((fun v => (v, 0, .num (v : Int))) (0 + v) : kE)) = k_lA q := by
          unfold k_lA
          congr 1
          funext v
          rw [Nat.zero_add]
        rw [e2]
        exact (((List.prefix_append_right_inj _).mpr (k_map_pre' _ hq)).trans (List.prefix_append _ _)).trans p3
      · have h : c = 2 := h
        have e : (List.range (2 + 1 - 0)).map (fun v => ((fun v => (v, 0, .num (v : Int))) (0 + v) : kE)) = LA := by
          rw [hLA, if_pos h]
          unfold k_lA
          congr 1
          funext v
          rw [Nat.zero_add]
        rw [e] at hY' ⊢
        have h' := s2 A' k' l' r' hY'
        refine q_X.lv2 _ ?_ h'
        exact ⟨rfl, rfl, trivial⟩
  have hw := loop 9 2 (fun _ _ => 0) (fun _ => 0) (fun _ => 0) (fun _ => 0) rfl (by decide) ⟨(by rw [k_T2]; intro j e he; cases he), fun c' h1 h2 => absurd h2 (by omega)⟩
  rw [k_T2] at hw
  have fin : ∀ M : qM, M.1 = i + 9 → (∀ a, M.2 a = (q_ca (q_nd (i + 9, f) (i + 1) 4937 (fun _ => 0) (fun _ => 0) (fun _ => 0) 0) i (fun _ _ => 0)).2 a) → q_X G L d mX1_init 8 19788 Q 53 [(0, .ref i), (1, .int (nI 2))] [] M 8 19788 := fun M h1 h2 => by
    rw [q_ext (M' := q_ca (q_nd (i + 9, f) (i + 1) 4937 (fun _ => 0) (fun _ => 0) (fun _ => 0) 0) i (fun _ _ => 0)) h1 h2]
    exact hw
  refine q_Call.of [(0, .ref i)] rfl ?_
  refine q_X.run sX1_init [] 60 ?_
  simp (maxSteps := 10000000) (disch := omega) only [↓q_run_s, q_stop_n, q_stop_c, q_lg_c, q_ls_d, q_ld_n, q_ld_c, q_cat_i, q_cat_r, q_cat_n, q_wd_n, q_wd_c, q_bx_1, q_bx_2, q_bx_3, q_bx_4, q_bx_5, q_bx_6, q_bx_7, q_bx_8, q_pop_0, q_pop_s, ↓reduceIte, Nat.reduceEqDiff, reduceCtorEq, eq_self, Bool.false_eq_true, Nat.reduceAdd, Nat.reduceSub, Nat.reduceMul, Nat.reduceLeDiff, Nat.reduceLT, Nat.le_refl, Nat.zero_le, true_and, and_true, false_and, and_false, or_false, false_or, true_or, or_true, not_true_eq_false, not_false_eq_true, if_true, if_false, List.getElem?_cons_zero, List.getElem?_cons_succ, List.set_cons_zero, List.set_cons_succ, List.length_cons, List.length_nil, ↓tX1_init_0, ↓tX1_init_1, ↓tX1_init_4, ↓tX1_init_5, ↓tX1_init_8, ↓tX1_init_9, ↓tX1_init_12, ↓tX1_init_15, ↓tX1_init_18, ↓tX1_init_19, ↓tX1_init_21, ↓tX1_init_23, ↓tX1_init_26, ↓tX1_init_27, ↓tX1_init_30, ↓tX1_init_32, ↓tX1_init_35, ↓tX1_init_36, ↓tX1_init_38, ↓tX1_init_40, ↓tX1_init_43, ↓tX1_init_44, ↓tX1_init_46, ↓tX1_init_48, ↓tX1_init_51, ↓tX1_init_52, ↓tX1_init_53, ↓tX1_init_54, ↓tX1_init_56, ↓tX1_init_59, ↓tX1_init_60, ↓tX1_init_63, ↓tX1_init_64, ↓tX1_init_65, ↓tX1_init_68, ↓tX1_init_71, ↓tX1_init_72, ↓tX1_init_73, ↓tX1_init_74, ↓tX1_init_75, ↓tX1_init_76, ↓tX1_init_77, ↓tX1_init_80, ↓tX1_init_81, ↓tX1_init_82, ↓tX1_init_83, ↓tX1_init_84, ↓tX1_init_86, ↓tX1_init_89, ↓tX1_init_90, ↓tX1_init_91, ↓tX1_init_92, ↓tX1_init_95, ↓tX1_init_96, ↓tX1_init_97, ↓tX1_init_98, ↓tX1_init_101, ↓tX1_init_102, ↓tX1_init_103, ↓tX1_init_104, ↓tX1_init_107, ↓tX1_init_108, ↓tX1_init_109, ↓tX1_init_110, ↓tX1_init_113, ↓tX1_init_116, ↓tX1_init_119, ↓tX1_init_120, ↓tX1_init_123, ↓tX1_init_125, ↓tX1_init_126, ↓tX1_init_129, ↓tX1_init_132, ↓tX1_init_133, ↓oAl, ↓oCallI, ↓oCallV, ↓oDup, ↓oGet, ↓oGo, ↓oIast, ↓oIf2gt, ↓oIl, ↓oInc, ↓oIs, ↓oK, ↓oNew, ↓oNewa, ↓oObj, ↓oPutR, ↓oVret, q_set_s, q_set_n, ca_0, caO_len, q_up_a, caO_1, ca_a1, cas_a1, caO_0, z_clamp, z_ltI, z_leI, z_eqI, z_lt0, z_ge0, z_eq0I, z_gt0I, z_le0I, z_m1lt, z_m1ge, z_m1eq, z_m1eq', z_inT, z_add, z_sub, z_mul, z_div, z_rem, n_ltT, n_ltF, n_leT, n_leF, n_eqT, n_eqF, z_11, q_tl_i, q_tl_n, q_ap_n, q_ap_c, q_newP, q_setP, va_up_ne, va_up_self, hf]
  refine ⟨3, 3 * 4937, by decide, by decide, ?_⟩
  refine c4_init (by omega) (va_up_self _ _ _) (by decide) ?_
  obtain ⟨g, hg⟩ : ∃ g, g = (q_nd (i + 1 + 4, va_up f (i + 1) (some (.inr (4, [.null, .null, .null, .int 0])))) (i + 1) 4937 (fun _ => 0) (fun _ => 0) (fun _ => 0) 0).2 := ⟨_, rfl⟩
  rw [show q_nd (i + 1 + 4, va_up f (i + 1) (some (.inr (4, [.null, .null, .null, .int 0])))) (i + 1) 4937 (fun _ => 0) (fun _ => 0) (fun _ => 0) 0 = (i + 5, g) by rw [hg]; rfl]
  have go : ∀ a, a < i + 1 ∨ i + 5 ≤ a → g a = f a := fun a h => by
    rw [hg]
    exact (q_ov_out _ _ _ _ (by omega)).trans (va_up_ne _ _ (by omega))
  have gi : g i = some (.inr (1, [.null, .null, .null, .null, .null])) := by rw [go i (by omega)]; exact hf
  refine q_X.run sX1_init [53] 80 ?_
  simp (maxSteps := 10000000) (disch := omega) only [↓q_run_s, q_stop_n, q_stop_c, q_lg_c, q_ls_d, q_ld_n, q_ld_c, q_cat_i, q_cat_r, q_cat_n, q_wd_n, q_wd_c, q_bx_1, q_bx_2, q_bx_3, q_bx_4, q_bx_5, q_bx_6, q_bx_7, q_bx_8, q_pop_0, q_pop_s, ↓reduceIte, Nat.reduceEqDiff, reduceCtorEq, eq_self, Bool.false_eq_true, Nat.reduceAdd, Nat.reduceSub, Nat.reduceMul, Nat.reduceLeDiff, Nat.reduceLT, Nat.le_refl, Nat.zero_le, true_and, and_true, false_and, and_false, or_false, false_or, true_or, or_true, not_true_eq_false, not_false_eq_true, if_true, if_false, List.getElem?_cons_zero, List.getElem?_cons_succ, List.set_cons_zero, List.set_cons_succ, List.length_cons, List.length_nil, ↓tX1_init_0, ↓tX1_init_1, ↓tX1_init_4, ↓tX1_init_5, ↓tX1_init_8, ↓tX1_init_9, ↓tX1_init_12, ↓tX1_init_15, ↓tX1_init_18, ↓tX1_init_19, ↓tX1_init_21, ↓tX1_init_23, ↓tX1_init_26, ↓tX1_init_27, ↓tX1_init_30, ↓tX1_init_32, ↓tX1_init_35, ↓tX1_init_36, ↓tX1_init_38, ↓tX1_init_40, ↓tX1_init_43, ↓tX1_init_44, ↓tX1_init_46, ↓tX1_init_48, ↓tX1_init_51, ↓tX1_init_52, ↓tX1_init_53, ↓tX1_init_54, ↓tX1_init_56, ↓tX1_init_59, ↓tX1_init_60, ↓tX1_init_63, ↓tX1_init_64, ↓tX1_init_65, ↓tX1_init_68, ↓tX1_init_71, ↓tX1_init_72, ↓tX1_init_73, ↓tX1_init_74, ↓tX1_init_75, ↓tX1_init_76, ↓tX1_init_77, ↓tX1_init_80, ↓tX1_init_81, ↓tX1_init_82, ↓tX1_init_83, ↓tX1_init_84, ↓tX1_init_86, ↓tX1_init_89, ↓tX1_init_90, ↓tX1_init_91, ↓tX1_init_92, ↓tX1_init_95, ↓tX1_init_96, ↓tX1_init_97, ↓tX1_init_98, ↓tX1_init_101, ↓tX1_init_102, ↓tX1_init_103, ↓tX1_init_104, ↓tX1_init_107, ↓tX1_init_108, ↓tX1_init_109, ↓tX1_init_110, ↓tX1_init_113, ↓tX1_init_116, ↓tX1_init_119, ↓tX1_init_120, ↓tX1_init_123, ↓tX1_init_125, ↓tX1_init_126, ↓tX1_init_129, ↓tX1_init_132, ↓tX1_init_133, ↓oAl, ↓oCallI, ↓oCallV, ↓oDup, ↓oGet, ↓oGo, ↓oIast, ↓oIf2gt, ↓oIl, ↓oInc, ↓oIs, ↓oK, ↓oNew, ↓oNewa, ↓oObj, ↓oPutR, ↓oVret, q_set_s, q_set_n, ca_0, caO_len, q_up_a, caO_1, ca_a1, cas_a1, caO_0, z_clamp, z_ltI, z_leI, z_eqI, z_lt0, z_ge0, z_eq0I, z_gt0I, z_le0I, z_m1lt, z_m1ge, z_m1eq, z_m1eq', z_inT, z_add, z_sub, z_mul, z_div, z_rem, n_ltT, n_ltF, n_leT, n_leF, n_eqT, n_eqF, z_11, q_tl_i, q_tl_n, q_ap_n, q_ap_c, q_newP, q_setP, va_up_ne, va_up_self, gi]
  refine q_X.lv2 [(0, .ref i), (1, .int (nI 2))] ⟨rfl, rfl, trivial⟩ (fin _ rfl fun a => ?_)
  rcases (show a < i ∨ a = i ∨ a = i + 1 ∨ a = i + 1 + 1 ∨ a = i + 1 + 2 ∨ a = i + 1 + 3 ∨ a = i + 5 ∨ a = i + 6 ∨ a = i + 7 ∨ a = i + 8 ∨ i + 9 ≤ a by omega) with h | h | h | h | h | h | h | h | h | h | h
  · simp (disch := omega) only [va_up_ne]
    rw [go a (by omega), ca_out (by omega)]
    exact (q_ov_out (i + 9, f) (i + 1) 4 _ (by omega)).symm
  · subst h
    simp (disch := omega) only [va_up_ne, va_up_self]
    exact ca_0.symm
  · subst h
    simp (disch := omega) only [va_up_ne, va_up_self]
    rw [hg]
    exact nd_0.trans ((ca_in (q := 1) (by decide) (by decide)).trans nd_0).symm
  · subst h
    simp (disch := omega) only [va_up_ne, va_up_self]
    rw [hg]
    exact nd_1.trans ((ca_in (q := 2) (by decide) (by decide)).trans nd_1).symm
  · subst h
    simp (disch := omega) only [va_up_ne, va_up_self]
    rw [hg]
    exact nd_2.trans ((ca_in (q := 3) (by decide) (by decide)).trans nd_2).symm
  · subst h
    simp (disch := omega) only [va_up_ne, va_up_self]
    rw [hg]
    exact nd_3.trans ((ca_in (q := 4) (by decide) (by decide)).trans nd_3).symm
  · subst h
    simp (disch := omega) only [va_up_ne, va_up_self]
    rw [q_zero_1]
    exact (ca_a1 (A := fun _ _ => 0)).symm
  · subst h
    simp (disch := omega) only [va_up_ne, va_up_self]
    rw [q_zero_1]
    exact (ca_a2 (A := fun _ _ => 0)).symm
  · subst h
    simp (disch := omega) only [va_up_ne, va_up_self]
    rw [q_zero_1]
    exact (ca_a3 (A := fun _ _ => 0)).symm
  · subst h
    simp (disch := omega) only [va_up_ne, va_up_self]
    rw [q_zero_1]
    exact (ca_a4 (A := fun _ _ => 0)).symm
  · simp (disch := omega) only [va_up_ne]
    rw [go a (by omega), ca_out (by omega)]
    exact (q_ov_out (i + 9, f) (i + 1) 4 _ (by omega)).symm
end
