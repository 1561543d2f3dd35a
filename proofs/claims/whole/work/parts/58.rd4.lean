/-! the class's Reader: all of it; what is fed -/
theorem z_ushr8 {a : Nat} (ha : a < 4294967296) : ((nI a).toUInt32 >>> ((nI 8).toUInt32 &&& Int32.toUInt32 31)).toInt32 = nI (a / 256) := by
  have e : (nI 8).toUInt32 &&& Int32.toUInt32 31 = 8 := by decide
  rw [e]
  apply Int32.toBitVec_inj.mp
  apply BitVec.eq_of_toNat_eq
  show ((nI a).toUInt32 >>> (8 : UInt32)).toNat = (BitVec.ofNat 32 (a / 256)).toNat
  rw [UInt32.toNat_shiftRight]
  show (BitVec.ofNat 32 a).toNat >>> (8 % 32) = _
  rw [Nat.shiftRight_eq_div_pow, BitVec.toNat_ofNat, BitVec.toNat_ofNat]
  show a % 4294967296 / 256 = a / 256 % 4294967296
  omega
section
variable {G : qC} {L : Launch} {d : Nat} {M : qM} {Q : Option Value → qM → Prop} {M0 : qM} {i : Nat} {s : Nat → Int32} {A : Nat → Nat → Int32} {k l r : Nat → Int32} {sz : Nat} {tp : Nat → Nat} {T : Nat}
theorem c6_all : ∀ f : Nat, (∀ f', f' ≤ f → w_Ps G L M0 i tp T mX6_readChoice (fun δ => [.ref i, .int (nI δ)]) 80 (fun h => 3 * (T - h) + 3 ≤ f') (fun δ h => p_P (p_tk tp T) f' 0 δ h)) ∧ (∀ f', f' ≤ f → w_Ps G L M0 i tp T mX6_readChain (fun δ => [.ref i, .int (nI δ)]) 79 (fun h => 3 * (T - h) + 2 ≤ f') (fun δ h => p_P (p_tk tp T) f' 1 δ h)) ∧ (∀ f', f' ≤ f → w_Ps G L M0 i tp T mX6_readRepeats (fun δ => [.ref i, .int (nI δ)]) 78 (fun h => 3 * (T - h) + 1 ≤ f') (fun δ h => p_bind (p_P (p_tk tp T) f' 2 δ h) (p_rep (p_tk tp T) 60)))
  | 0 => ⟨(fun f' hf' _ _ _ _ _ _ _ _ _ _ _ _ _ _ _ _ _ _ hW => absurd hW (by omega)), (fun f' hf' _ _ _ _ _ _ _ _ _ _ _ _ _ _ _ _ _ _ hW => absurd hW (by omega)), (fun f' hf' _ _ _ _ _ _ _ _ _ _ _ _ _ _ _ _ _ _ hW => absurd hW (by omega))⟩
  | f + 1 => by
    obtain ⟨h1, h2, h3⟩ := c6_all f
    refine ⟨fun f' hf' => ?_, fun f' hf' => ?_, fun f' hf' => ?_⟩
    · rcases Nat.lt_or_eq_of_le hf' with g | g
      · exact h1 f' (by omega)
      · subst g
        exact c6_readChoice fun f' hf' => h2 f' (by omega)
    · rcases Nat.lt_or_eq_of_le hf' with g | g
      · exact h2 f' (by omega)
      · subst g
        exact c6_readChain fun f' hf' => h3 f' (by omega)
    · rcases Nat.lt_or_eq_of_le hf' with g | g
      · exact h3 f' (by omega)
      · subst g
        exact c6_readRepeats (c6_readPart (h1 f (Nat.le_refl _))) fun δ h hh hδ => (p_P_B (tk := p_tk tp T) p_tk_T (f + 1) 2 δ h hh hδ).2.1
set_option maxRecDepth 100000 in
set_option maxHeartbeats 8000000 in
theorem c6_parse (h1 : s 1 = nI T) (hT : T ≤ 60) (hb : ∀ j, j < T → A 0 j = nI (tp j) ∧ tp j < 256) (hd : 400 ≤ d) (hS : ∀ s' A' k' l' r' x v, (p_all tp T).2.1 = some x → (p_all tp T).1 = T → s' 1 = nI 0 → t_nr k' l' r' 0 (t_nodes x) x v → t_nodes x ≤ 120 → Q (some (.int (nI v))) (q_rd (q_nd M0 (i + 2) 120 k' l' r' (t_nodes x)) i s' A')) (hF : ∀ s' A' k' l' r' z, (p_all tp T).2.1 = none ∨ (p_all tp T).1 < T → s' 1 = nI 0 → s' 5 = nI (p_all tp T).1 → Q (some (.int (-1))) (q_rd (q_nd M0 (i + 2) 120 k' l' r' z) i s' A')) : q_Call G L d mX6_parse 0 0 [.ref i] (q_rd (q_nd M0 (i + 2) 120 k l r sz) i s A) Q := by
  have hB := p_all_B (tp := tp) (T := T)
  have hp := (c6_all (G := G) (L := L) (M0 := M0) (i := i) (tp := tp) (T := T) 200).1 200 (Nat.le_refl _)
  unfold w_Ps at hp
  dsimp only at hp
  have hp := fun d Q s A k l r sz => hp d Q s A k l r sz 0 0
  rw [show p_P (p_tk tp T) 200 0 0 0 = p_all tp T from rfl] at hp
  generalize p_all tp T = rr at *
  have hr1 := hB.2.1
  refine q_Call.of [(0, .ref i)] rfl ?_
  refine q_X.run sX6_parse [] 20 ?_
  simp (maxSteps := 10000000) (disch := omega) only [↓q_run_s, q_stop_n, q_stop_c, q_lg_c, q_ls_d, q_ld_n, q_ld_c, q_cat_i, q_cat_r, q_cat_n, q_wd_n, q_wd_c, q_bx_1, q_bx_2, q_bx_3, q_bx_4, q_bx_5, q_bx_6, q_bx_7, q_bx_8, q_pop_0, q_pop_s, ↓reduceIte, Nat.reduceEqDiff, reduceCtorEq, eq_self, Bool.false_eq_true, Nat.reduceAdd, Nat.reduceSub, Nat.reduceMul, Nat.reduceLeDiff, Nat.reduceLT, Nat.le_refl, Nat.zero_le, true_and, and_true, false_and, and_false, or_false, false_or, true_or, or_true, not_true_eq_false, not_false_eq_true, if_true, if_false, List.getElem?_cons_zero, List.getElem?_cons_succ, List.set_cons_zero, List.set_cons_succ, List.length_cons, List.length_nil, ↓tX6_parse_0, ↓tX6_parse_1, ↓tX6_parse_4, ↓tX6_parse_7, ↓tX6_parse_8, ↓tX6_parse_9, ↓tX6_parse_12, ↓tX6_parse_13, ↓tX6_parse_14, ↓tX6_parse_17, ↓tX6_parse_18, ↓tX6_parse_19, ↓tX6_parse_22, ↓tX6_parse_25, ↓tX6_parse_26, ↓tX6_parse_27, ↓tX6_parse_30, ↓tX6_parse_31, ↓tX6_parse_32, ↓tX6_parse_35, ↓tX6_parse_36, ↓tX6_parse_37, ↓tX6_parse_40, ↓tX6_parse_41, ↓tX6_parse_44, ↓tX6_parse_47, ↓tX6_parse_48, ↓tX6_parse_51, ↓tX6_parse_52, ↓oAl, ↓oCallV, ↓oGet, ↓oGo, ↓oIf2ge, ↓oIl, ↓oIret, ↓oIs, ↓oK, ↓oPutI, q_set_s, q_set_n, rd_0, rdO_len, q_up_a, rdO_2, rdOs_4, rdOs_5, rdO_1, rdOs_6, rdOs_1, rdO_5, rdO_6, z_clamp, z_ltI, z_leI, z_eqI, z_lt0, z_ge0, z_eq0I, z_gt0I, z_le0I, z_m1lt, z_m1ge, z_m1eq, z_m1eq', z_inT, z_add, z_sub, z_mul, z_div, z_rem, n_ltT, n_ltF, n_leT, n_leF, n_eqT, n_eqF, z_11, q_tl_i, q_tl_n, q_ap_n, q_ap_c, rn_0]
  rw [q_rn]
  refine c4_clear ?_
  rw [← q_rn]
  have hT0 : w_Tp (va_up (va_up (va_up (va_up s 4 (nI 0)) 5 (nI 0)) 6 (nI T)) 1 (nI 0)) A tp T := ⟨rfl, hT, hb⟩
  refine q_X.run sX6_parse [] 40 ?_
  simp (maxSteps := 10000000) (disch := omega) only [↓q_run_s, q_stop_n, q_stop_c, q_lg_c, q_ls_d, q_ld_n, q_ld_c, q_cat_i, q_cat_r, q_cat_n, q_wd_n, q_wd_c, q_bx_1, q_bx_2, q_bx_3, q_bx_4, q_bx_5, q_bx_6, q_bx_7, q_bx_8, q_pop_0, q_pop_s, ↓reduceIte, Nat.reduceEqDiff, reduceCtorEq, eq_self, Bool.false_eq_true, Nat.reduceAdd, Nat.reduceSub, Nat.reduceMul, Nat.reduceLeDiff, Nat.reduceLT, Nat.le_refl, Nat.zero_le, true_and, and_true, false_and, and_false, or_false, false_or, true_or, or_true, not_true_eq_false, not_false_eq_true, if_true, if_false, List.getElem?_cons_zero, List.getElem?_cons_succ, List.set_cons_zero, List.set_cons_succ, List.length_cons, List.length_nil, ↓tX6_parse_0, ↓tX6_parse_1, ↓tX6_parse_4, ↓tX6_parse_7, ↓tX6_parse_8, ↓tX6_parse_9, ↓tX6_parse_12, ↓tX6_parse_13, ↓tX6_parse_14, ↓tX6_parse_17, ↓tX6_parse_18, ↓tX6_parse_19, ↓tX6_parse_22, ↓tX6_parse_25, ↓tX6_parse_26, ↓tX6_parse_27, ↓tX6_parse_30, ↓tX6_parse_31, ↓tX6_parse_32, ↓tX6_parse_35, ↓tX6_parse_36, ↓tX6_parse_37, ↓tX6_parse_40, ↓tX6_parse_41, ↓tX6_parse_44, ↓tX6_parse_47, ↓tX6_parse_48, ↓tX6_parse_51, ↓tX6_parse_52, ↓oAl, ↓oCallV, ↓oGet, ↓oGo, ↓oIf2ge, ↓oIl, ↓oIret, ↓oIs, ↓oK, ↓oPutI, q_set_s, q_set_n, rd_0, rdO_len, q_up_a, rdO_2, rdOs_4, rdOs_5, rdO_1, rdOs_6, rdOs_1, rdO_5, rdO_6, z_clamp, z_ltI, z_leI, z_eqI, z_lt0, z_ge0, z_eq0I, z_gt0I, z_le0I, z_m1lt, z_m1ge, z_m1eq, z_m1eq', z_inT, z_add, z_sub, z_mul, z_div, z_rem, n_ltT, n_ltF, n_leT, n_leF, n_eqT, n_eqF, z_11, q_tl_i, q_tl_n, q_ap_n, q_ap_c, h1]
  refine hp (d - 1) _ _ A k l r 0 0 hT0 rfl (Nat.zero_le _) rfl (by omega) (Nat.le_refl _) (by decide) (by omega) (by omega) (fun s' A' k' l' r' x v e1 e2 e3 e4 e5 e6 e7 => ?_) (fun s' A' k' l' r' z e1 e2 e3 => ?_)
  · have e1' : s' 1 = nI 0 := e2.1 1 (by decide) (by decide)
    have e6' : s' 6 = nI T := e2.1 6 (by decide) (by decide)
    by_cases c : rr.1 < T
    · have h' := hF s' A' k' l' r' (0 + t_nodes x) (Or.inr c) e1' e3
      refine q_X.run sX6_parse [] 40 ?_
      simp (maxSteps := 10000000) (disch := omega) only [↓q_run_s, q_stop_n, q_stop_c, q_lg_c, q_ls_d, q_ld_n, q_ld_c, q_cat_i, q_cat_r, q_cat_n, q_wd_n, q_wd_c, q_bx_1, q_bx_2, q_bx_3, q_bx_4, q_bx_5, q_bx_6, q_bx_7, q_bx_8, q_pop_0, q_pop_s, ↓reduceIte, Nat.reduceEqDiff, reduceCtorEq, eq_self, Bool.false_eq_true, Nat.reduceAdd, Nat.reduceSub, Nat.reduceMul, Nat.reduceLeDiff, Nat.reduceLT, Nat.le_refl, Nat.zero_le, true_and, and_true, false_and, and_false, or_false, false_or, true_or, or_true, not_true_eq_false, not_false_eq_true, if_true, if_false, List.getElem?_cons_zero, List.getElem?_cons_succ, List.set_cons_zero, List.set_cons_succ, List.length_cons, List.length_nil, ↓tX6_parse_0, ↓tX6_parse_1, ↓tX6_parse_4, ↓tX6_parse_7, ↓tX6_parse_8, ↓tX6_parse_9, ↓tX6_parse_12, ↓tX6_parse_13, ↓tX6_parse_14, ↓tX6_parse_17, ↓tX6_parse_18, ↓tX6_parse_19, ↓tX6_parse_22, ↓tX6_parse_25, ↓tX6_parse_26, ↓tX6_parse_27, ↓tX6_parse_30, ↓tX6_parse_31, ↓tX6_parse_32, ↓tX6_parse_35, ↓tX6_parse_36, ↓tX6_parse_37, ↓tX6_parse_40, ↓tX6_parse_41, ↓tX6_parse_44, ↓tX6_parse_47, ↓tX6_parse_48, ↓tX6_parse_51, ↓tX6_parse_52, ↓oAl, ↓oCallV, ↓oGet, ↓oGo, ↓oIf2ge, ↓oIl, ↓oIret, ↓oIs, ↓oK, ↓oPutI, q_set_s, q_set_n, rd_0, rdO_len, q_up_a, rdO_2, rdOs_4, rdOs_5, rdO_1, rdOs_6, rdOs_1, rdO_5, rdO_6, z_clamp, z_ltI, z_leI, z_eqI, z_lt0, z_ge0, z_eq0I, z_gt0I, z_le0I, z_m1lt, z_m1ge, z_m1eq, z_m1eq', z_inT, z_add, z_sub, z_mul, z_div, z_rem, n_ltT, n_ltF, n_leT, n_leF, n_eqT, n_eqF, z_11, q_tl_i, q_tl_n, q_ap_n, q_ap_c, e3, e6']
      exact h'
    · have eT : rr.1 = T := by omega
      rw [Nat.zero_add] at e6 e7 ⊢
      have h' := hS s' A' k' l' r' x v e1 eT e1' (t_S_nr (fun q hq => hq) x v (t_D_S _ _ _ e6)) (by omega)
      refine q_X.run sX6_parse [] 40 ?_
      simp (maxSteps := 10000000) (disch := omega) only [↓q_run_s, q_stop_n, q_stop_c, q_lg_c, q_ls_d, q_ld_n, q_ld_c, q_cat_i, q_cat_r, q_cat_n, q_wd_n, q_wd_c, q_bx_1, q_bx_2, q_bx_3, q_bx_4, q_bx_5, q_bx_6, q_bx_7, q_bx_8, q_pop_0, q_pop_s, ↓reduceIte, Nat.reduceEqDiff, reduceCtorEq, eq_self, Bool.false_eq_true, Nat.reduceAdd, Nat.reduceSub, Nat.reduceMul, Nat.reduceLeDiff, Nat.reduceLT, Nat.le_refl, Nat.zero_le, true_and, and_true, false_and, and_false, or_false, false_or, true_or, or_true, not_true_eq_false, not_false_eq_true, if_true, if_false, List.getElem?_cons_zero, List.getElem?_cons_succ, List.set_cons_zero, List.set_cons_succ, List.length_cons, List.length_nil, ↓tX6_parse_0, ↓tX6_parse_1, ↓tX6_parse_4, ↓tX6_parse_7, ↓tX6_parse_8, ↓tX6_parse_9, ↓tX6_parse_12, ↓tX6_parse_13, ↓tX6_parse_14, ↓tX6_parse_17, ↓tX6_parse_18, ↓tX6_parse_19, ↓tX6_parse_22, ↓tX6_parse_25, ↓tX6_parse_26, ↓tX6_parse_27, ↓tX6_parse_30, ↓tX6_parse_31, ↓tX6_parse_32, ↓tX6_parse_35, ↓tX6_parse_36, ↓tX6_parse_37, ↓tX6_parse_40, ↓tX6_parse_41, ↓tX6_parse_44, ↓tX6_parse_47, ↓tX6_parse_48, ↓tX6_parse_51, ↓tX6_parse_52, ↓oAl, ↓oCallV, ↓oGet, ↓oGo, ↓oIf2ge, ↓oIl, ↓oIret, ↓oIs, ↓oK, ↓oPutI, q_set_s, q_set_n, rd_0, rdO_len, q_up_a, rdO_2, rdOs_4, rdOs_5, rdO_1, rdOs_6, rdOs_1, rdO_5, rdO_6, z_clamp, z_ltI, z_leI, z_eqI, z_lt0, z_ge0, z_eq0I, z_gt0I, z_le0I, z_m1lt, z_m1ge, z_m1eq, z_m1eq', z_inT, z_add, z_sub, z_mul, z_div, z_rem, n_ltT, n_ltF, n_leT, n_leF, n_eqT, n_eqF, z_11, q_tl_i, q_tl_n, q_ap_n, q_ap_c, e3, e6']
      exact h'
  · have e1' : s' 1 = nI 0 := e2.1 1 (by decide) (by decide)
    have e6' : s' 6 = nI T := e2.1 6 (by decide) (by decide)
    have h' := hF s' A' k' l' r' z (Or.inl e1) e1' e3
    by_cases c : rr.1 < T
    · refine q_X.run sX6_parse [] 40 ?_
      simp (maxSteps := 10000000) (disch := omega) only [↓q_run_s, q_stop_n, q_stop_c, q_lg_c, q_ls_d, q_ld_n, q_ld_c, q_cat_i, q_cat_r, q_cat_n, q_wd_n, q_wd_c, q_bx_1, q_bx_2, q_bx_3, q_bx_4, q_bx_5, q_bx_6, q_bx_7, q_bx_8, q_pop_0, q_pop_s, ↓reduceIte, Nat.reduceEqDiff, reduceCtorEq, eq_self, Bool.false_eq_true, Nat.reduceAdd, Nat.reduceSub, Nat.reduceMul, Nat.reduceLeDiff, Nat.reduceLT, Nat.le_refl, Nat.zero_le, true_and, and_true, false_and, and_false, or_false, false_or, true_or, or_true, not_true_eq_false, not_false_eq_true, if_true, if_false, List.getElem?_cons_zero, List.getElem?_cons_succ, List.set_cons_zero, List.set_cons_succ, List.length_cons, List.length_nil, ↓tX6_parse_0, ↓tX6_parse_1, ↓tX6_parse_4, ↓tX6_parse_7, ↓tX6_parse_8, ↓tX6_parse_9, ↓tX6_parse_12, ↓tX6_parse_13, ↓tX6_parse_14, ↓tX6_parse_17, ↓tX6_parse_18, ↓tX6_parse_19, ↓tX6_parse_22, ↓tX6_parse_25, ↓tX6_parse_26, ↓tX6_parse_27, ↓tX6_parse_30, ↓tX6_parse_31, ↓tX6_parse_32, ↓tX6_parse_35, ↓tX6_parse_36, ↓tX6_parse_37, ↓tX6_parse_40, ↓tX6_parse_41, ↓tX6_parse_44, ↓tX6_parse_47, ↓tX6_parse_48, ↓tX6_parse_51, ↓tX6_parse_52, ↓oAl, ↓oCallV, ↓oGet, ↓oGo, ↓oIf2ge, ↓oIl, ↓oIret, ↓oIs, ↓oK, ↓oPutI, q_set_s, q_set_n, rd_0, rdO_len, q_up_a, rdO_2, rdOs_4, rdOs_5, rdO_1, rdOs_6, rdOs_1, rdO_5, rdO_6, z_clamp, z_ltI, z_leI, z_eqI, z_lt0, z_ge0, z_eq0I, z_gt0I, z_le0I, z_m1lt, z_m1ge, z_m1eq, z_m1eq', z_inT, z_add, z_sub, z_mul, z_div, z_rem, n_ltT, n_ltF, n_leT, n_leF, n_eqT, n_eqF, z_11, q_tl_i, q_tl_n, q_ap_n, q_ap_c, e3, e6']
      exact h'
    · refine q_X.run sX6_parse [] 40 ?_
      simp (maxSteps := 10000000) (disch := omega) only [↓q_run_s, q_stop_n, q_stop_c, q_lg_c, q_ls_d, q_ld_n, q_ld_c, q_cat_i, q_cat_r, q_cat_n, q_wd_n, q_wd_c, q_bx_1, q_bx_2, q_bx_3, q_bx_4, q_bx_5, q_bx_6, q_bx_7, q_bx_8, q_pop_0, q_pop_s, ↓reduceIte, Nat.reduceEqDiff, reduceCtorEq, eq_self, Bool.false_eq_true, Nat.reduceAdd, Nat.reduceSub, Nat.reduceMul, Nat.reduceLeDiff, Nat.reduceLT, Nat.le_refl, Nat.zero_le, true_and, and_true, false_and, and_false, or_false, false_or, true_or, or_true, not_true_eq_false, not_false_eq_true, if_true, if_false, List.getElem?_cons_zero, List.getElem?_cons_succ, List.set_cons_zero, List.set_cons_succ, List.length_cons, List.length_nil, ↓tX6_parse_0, ↓tX6_parse_1, ↓tX6_parse_4, ↓tX6_parse_7, ↓tX6_parse_8, ↓tX6_parse_9, ↓tX6_parse_12, ↓tX6_parse_13, ↓tX6_parse_14, ↓tX6_parse_17, ↓tX6_parse_18, ↓tX6_parse_19, ↓tX6_parse_22, ↓tX6_parse_25, ↓tX6_parse_26, ↓tX6_parse_27, ↓tX6_parse_30, ↓tX6_parse_31, ↓tX6_parse_32, ↓tX6_parse_35, ↓tX6_parse_36, ↓tX6_parse_37, ↓tX6_parse_40, ↓tX6_parse_41, ↓tX6_parse_44, ↓tX6_parse_47, ↓tX6_parse_48, ↓tX6_parse_51, ↓tX6_parse_52, ↓oAl, ↓oCallV, ↓oGet, ↓oGo, ↓oIf2ge, ↓oIl, ↓oIret, ↓oIs, ↓oK, ↓oPutI, q_set_s, q_set_n, rd_0, rdO_len, q_up_a, rdO_2, rdOs_4, rdOs_5, rdO_1, rdOs_6, rdOs_1, rdO_5, rdO_6, z_clamp, z_ltI, z_leI, z_eqI, z_lt0, z_ge0, z_eq0I, z_gt0I, z_le0I, z_m1lt, z_m1ge, z_m1eq, z_m1eq', z_inT, z_add, z_sub, z_mul, z_div, z_rem, n_ltT, n_ltF, n_leT, n_leF, n_eqT, n_eqF, z_11, q_tl_i, q_tl_n, q_ap_n, q_ap_c, e3, e6']
      exact h'
set_option maxRecDepth 100000 in
set_option maxHeartbeats 8000000 in
theorem c6_length (hQ : Q (some (.int (s 1))) (q_rd M0 i s A)) : q_Call G L d mX6_length 0 0 [.ref i] (q_rd M0 i s A) Q := by
  refine q_Call.of [(0, .ref i)] rfl ?_
  refine q_X.run sX6_length [] 10 ?_
  simp (maxSteps := 10000000) (disch := omega) only [↓q_run_s, q_stop_n, q_stop_c, q_lg_c, q_ls_d, q_ld_n, q_ld_c, q_cat_i, q_cat_r, q_cat_n, q_wd_n, q_wd_c, q_bx_1, q_bx_2, q_bx_3, q_bx_4, q_bx_5, q_bx_6, q_bx_7, q_bx_8, q_pop_0, q_pop_s, ↓reduceIte, Nat.reduceEqDiff, reduceCtorEq, eq_self, Bool.false_eq_true, Nat.reduceAdd, Nat.reduceSub, Nat.reduceMul, Nat.reduceLeDiff, Nat.reduceLT, Nat.le_refl, Nat.zero_le, true_and, and_true, false_and, and_false, or_false, false_or, true_or, or_true, not_true_eq_false, not_false_eq_true, if_true, if_false, List.getElem?_cons_zero, List.getElem?_cons_succ, List.set_cons_zero, List.set_cons_succ, List.length_cons, List.length_nil, ↓tX6_length_0, ↓tX6_length_1, ↓tX6_length_4, ↓oAl, ↓oGet, ↓oIret, q_set_s, q_set_n, rd_0, rdO_len, q_up_a, rdO_1, z_clamp, z_ltI, z_leI, z_eqI, z_lt0, z_ge0, z_eq0I, z_gt0I, z_le0I, z_m1lt, z_m1ge, z_m1eq, z_m1eq', z_inT, z_add, z_sub, z_mul, z_div, z_rem, n_ltT, n_ltF, n_leT, n_leF, n_eqT, n_eqF, z_11, q_tl_i, q_tl_n, q_ap_n, q_ap_c]
  exact hQ
set_option maxRecDepth 100000 in
set_option maxHeartbeats 8000000 in
theorem c6_fault (hQ : Q (some (.int (s 5))) (q_rd M0 i s A)) : q_Call G L d mX6_fault 0 0 [.ref i] (q_rd M0 i s A) Q := by
  refine q_Call.of [(0, .ref i)] rfl ?_
  refine q_X.run sX6_fault [] 10 ?_
  simp (maxSteps := 10000000) (disch := omega) only [↓q_run_s, q_stop_n, q_stop_c, q_lg_c, q_ls_d, q_ld_n, q_ld_c, q_cat_i, q_cat_r, q_cat_n, q_wd_n, q_wd_c, q_bx_1, q_bx_2, q_bx_3, q_bx_4, q_bx_5, q_bx_6, q_bx_7, q_bx_8, q_pop_0, q_pop_s, ↓reduceIte, Nat.reduceEqDiff, reduceCtorEq, eq_self, Bool.false_eq_true, Nat.reduceAdd, Nat.reduceSub, Nat.reduceMul, Nat.reduceLeDiff, Nat.reduceLT, Nat.le_refl, Nat.zero_le, true_and, and_true, false_and, and_false, or_false, false_or, true_or, or_true, not_true_eq_false, not_false_eq_true, if_true, if_false, List.getElem?_cons_zero, List.getElem?_cons_succ, List.set_cons_zero, List.set_cons_succ, List.length_cons, List.length_nil, ↓tX6_fault_0, ↓tX6_fault_1, ↓tX6_fault_4, ↓oAl, ↓oGet, ↓oIret, q_set_s, q_set_n, rd_0, rdO_len, q_up_a, rdO_5, z_clamp, z_ltI, z_leI, z_eqI, z_lt0, z_ge0, z_eq0I, z_gt0I, z_le0I, z_m1lt, z_m1ge, z_m1eq, z_m1eq', z_inT, z_add, z_sub, z_mul, z_div, z_rem, n_ltT, n_ltF, n_leT, n_leF, n_eqT, n_eqF, z_11, q_tl_i, q_tl_n, q_ap_n, q_ap_c]
  exact hQ
set_option maxRecDepth 100000 in
set_option maxHeartbeats 8000000 in
theorem c6_nodes (hQ : Q (some (.ref (i + 2))) (q_rd M0 i s A)) : q_Call G L d mX6_nodes 0 0 [.ref i] (q_rd M0 i s A) Q := by
  refine q_Call.of [(0, .ref i)] rfl ?_
  refine q_X.run sX6_nodes [] 10 ?_
  simp (maxSteps := 10000000) (disch := omega) only [↓q_run_s, q_stop_n, q_stop_c, q_lg_c, q_ls_d, q_ld_n, q_ld_c, q_cat_i, q_cat_r, q_cat_n, q_wd_n, q_wd_c, q_bx_1, q_bx_2, q_bx_3, q_bx_4, q_bx_5, q_bx_6, q_bx_7, q_bx_8, q_pop_0, q_pop_s, ↓reduceIte, Nat.reduceEqDiff, reduceCtorEq, eq_self, Bool.false_eq_true, Nat.reduceAdd, Nat.reduceSub, Nat.reduceMul, Nat.reduceLeDiff, Nat.reduceLT, Nat.le_refl, Nat.zero_le, true_and, and_true, false_and, and_false, or_false, false_or, true_or, or_true, not_true_eq_false, not_false_eq_true, if_true, if_false, List.getElem?_cons_zero, List.getElem?_cons_succ, List.set_cons_zero, List.set_cons_succ, List.length_cons, List.length_nil, ↓tX6_nodes_0, ↓tX6_nodes_1, ↓tX6_nodes_4, ↓oAl, ↓oAret, ↓oGet, q_set_s, q_set_n, rd_0, rdO_len, q_up_a, rdO_2, z_clamp, z_ltI, z_leI, z_eqI, z_lt0, z_ge0, z_eq0I, z_gt0I, z_le0I, z_m1lt, z_m1ge, z_m1eq, z_m1eq', z_inT, z_add, z_sub, z_mul, z_div, z_rem, n_ltT, n_ltF, n_leT, n_leF, n_eqT, n_eqF, z_11, q_tl_i, q_tl_n, q_ap_n, q_ap_c]
  exact hQ
set_option maxRecDepth 100000 in
set_option maxHeartbeats 8000000 in
theorem c6_put {n : Nat} {b : Int32} (h1 : s 1 = nI n) (hn : n < 60) (hQ : Q none (q_rd M0 i (va_up s 1 (nI (n + 1))) (va_up A 0 (upd (A 0) n b)))) : q_Call G L d mX6_put 0 0 [.ref i, .int b] (q_rd M0 i s A) Q := by
  refine q_Call.of [(0, .ref i), (1, .int b)] rfl ?_
  refine q_X.run sX6_put [] 30 ?_
  simp (maxSteps := 10000000) (disch := omega) only [↓q_run_s, q_stop_n, q_stop_c, q_lg_c, q_ls_d, q_ld_n, q_ld_c, q_cat_i, q_cat_r, q_cat_n, q_wd_n, q_wd_c, q_bx_1, q_bx_2, q_bx_3, q_bx_4, q_bx_5, q_bx_6, q_bx_7, q_bx_8, q_pop_0, q_pop_s, ↓reduceIte, Nat.reduceEqDiff, reduceCtorEq, eq_self, Bool.false_eq_true, Nat.reduceAdd, Nat.reduceSub, Nat.reduceMul, Nat.reduceLeDiff, Nat.reduceLT, Nat.le_refl, Nat.zero_le, true_and, and_true, false_and, and_false, or_false, false_or, true_or, or_true, not_true_eq_false, not_false_eq_true, if_true, if_false, List.getElem?_cons_zero, List.getElem?_cons_succ, List.set_cons_zero, List.set_cons_succ, List.length_cons, List.length_nil, ↓tX6_put_0, ↓tX6_put_1, ↓tX6_put_4, ↓tX6_put_5, ↓tX6_put_8, ↓tX6_put_9, ↓tX6_put_12, ↓tX6_put_13, ↓tX6_put_16, ↓tX6_put_17, ↓tX6_put_20, ↓tX6_put_21, ↓tX6_put_22, ↓tX6_put_23, ↓tX6_put_24, ↓tX6_put_27, ↓tX6_put_28, ↓tX6_put_29, ↓tX6_put_32, ↓oAdd, ↓oAl, ↓oAlen, ↓oDup, ↓oGet, ↓oIast, ↓oIf2ge, ↓oIl, ↓oK, ↓oPutI, ↓oVret, q_set_s, q_set_n, rd_0, rdO_len, q_up_a, rdO_1, rdO_0, rd_a0, rds_a0, rdOs_1, z_clamp, z_ltI, z_leI, z_eqI, z_lt0, z_ge0, z_eq0I, z_gt0I, z_le0I, z_m1lt, z_m1ge, z_m1eq, z_m1eq', z_inT, z_add, z_sub, z_mul, z_div, z_rem, n_ltT, n_ltF, n_leT, n_leF, n_eqT, n_eqF, z_11, q_tl_i, q_tl_n, q_ap_n, q_ap_c, h1]
  exact hQ
set_option maxRecDepth 100000 in
set_option maxHeartbeats 8000000 in
theorem c6_take {v : Int32} {n : Nat} (h1 : s 1 = nI T) (hT : T ≤ 60) (hn1 : 1 ≤ n) (hn4 : n ≤ 4) (hd : 1 ≤ d) (hU : 60 < T + n → Q (some (.int (-3))) (q_rd M0 i s A)) (hQ : ∀ f, T + n ≤ 60 → (∀ j, j < T → f j = A 0 j) → (∀ j, j < n → f (T + j) = nI (z_by v j)) → Q (some (.int (nI (T + n)))) (q_rd M0 i (va_up s 1 (nI (T + n))) (va_up A 0 f))) : q_Call G L d mX6_take 0 0 [.ref i, .int (nI n), .int v] (q_rd M0 i s A) Q := by
  have hV : v.toBitVec.toNat < 4294967296 := v.toBitVec.isLt
  have eV : v = nI v.toBitVec.toNat := by
    apply Int32.toBitVec_inj.mp
    simp [nI]
  refine q_Call.of [(0, .ref i), (1, .int (nI n)), (2, .int v)] rfl ?_
  by_cases c : T + n ≤ 60
  · have hQ := fun f => hQ f c
    have loop : ∀ (g j : Nat) (f : Nat → Int32), g + j = n → (∀ q, q < T → f q = A 0 q) → (∀ q, q < j → f (T + q) = nI (z_by v q)) → q_X G L d mX6_take 0 0 Q 23 [(0, .ref i), (1, .int (nI n)), (3, .int (nI (v.toBitVec.toNat / 2 ^ (8 * j)))), (4, .int (nI j))] [] (q_rd M0 i (va_up s 1 (nI (T + j))) (va_up A 0 f)) 0 0 := by
      intro g
      induction g with
      | zero =>
        intro j f hj h2 h3
        have e : j = n := by omega
        subst e
        have h' := hQ f h2 h3
        refine q_X.run sX6_take [] 40 ?_
        simp (maxSteps := 10000000) (disch := omega) only [↓q_run_s, q_stop_n, q_stop_c, q_lg_c, q_ls_d, q_ld_n, q_ld_c, q_cat_i, q_cat_r, q_cat_n, q_wd_n, q_wd_c, q_bx_1, q_bx_2, q_bx_3, q_bx_4, q_bx_5, q_bx_6, q_bx_7, q_bx_8, q_pop_0, q_pop_s, ↓reduceIte, Nat.reduceEqDiff, reduceCtorEq, eq_self, Bool.false_eq_true, Nat.reduceAdd, Nat.reduceSub, Nat.reduceMul, Nat.reduceLeDiff, Nat.reduceLT, Nat.le_refl, Nat.zero_le, true_and, and_true, false_and, and_false, or_false, false_or, true_or, or_true, not_true_eq_false, not_false_eq_true, if_true, if_false, List.getElem?_cons_zero, List.getElem?_cons_succ, List.set_cons_zero, List.set_cons_succ, List.length_cons, List.length_nil, ↓tX6_take_0, ↓tX6_take_1, ↓tX6_take_4, ↓tX6_take_5, ↓tX6_take_7, ↓tX6_take_8, ↓tX6_take_11, ↓tX6_take_12, ↓tX6_take_15, ↓tX6_take_17, ↓tX6_take_18, ↓tX6_take_19, ↓tX6_take_20, ↓tX6_take_21, ↓tX6_take_23, ↓tX6_take_25, ↓tX6_take_26, ↓tX6_take_29, ↓tX6_take_30, ↓tX6_take_31, ↓tX6_take_34, ↓tX6_take_35, ↓tX6_take_38, ↓tX6_take_39, ↓tX6_take_41, ↓tX6_take_42, ↓tX6_take_43, ↓tX6_take_46, ↓tX6_take_49, ↓tX6_take_50, ↓tX6_take_53, ↓oAl, ↓oAnd, ↓oCallV, ↓oGet, ↓oGo, ↓oIf1lt, ↓oIf2ge, ↓oIf2le, ↓oIl, ↓oInc, ↓oIret, ↓oIs, ↓oK, ↓oSub, ↓oUshr, q_set_s, q_set_n, rd_0, rdO_len, q_up_a, rdO_1, z_clamp, z_ltI, z_leI, z_eqI, z_lt0, z_ge0, z_eq0I, z_gt0I, z_le0I, z_m1lt, z_m1ge, z_m1eq, z_m1eq', z_inT, z_add, z_sub, z_mul, z_div, z_rem, n_ltT, n_ltF, n_leT, n_leF, n_eqT, n_eqF, z_11, q_tl_i, q_tl_n, q_ap_n, q_ap_c]
        exact h'
      | succ g ih =>
        intro j f hj h2 h3
        have hlt : v.toBitVec.toNat / 2 ^ (8 * j) < 4294967296 := Nat.lt_of_le_of_lt (Nat.div_le_self _ _) hV
        have h' := ih (j + 1) (upd f (T + j) (nI (z_by v j))) (by omega) (fun q hq => by rw [q_ud_n _ _ (by omega)]; exact h2 q hq) (fun q hq => by
          rcases Nat.lt_or_eq_of_le (Nat.le_of_lt_succ hq) with g | g
          · rw [q_ud_n _ _ (by omega)]; exact h3 q g
          · rw [g, q_ud_s])
        have e8 : v.toBitVec.toNat / 2 ^ (8 * (j + 1)) = v.toBitVec.toNat / 2 ^ (8 * j) / 256 := by
          rw [show 8 * (j + 1) = 8 * j + 8 by omega, Nat.pow_add, ← Nat.div_div_eq_div_mul]
        rw [e8] at h'
        have eb : v.toBitVec.toNat / 2 ^ (8 * j) &&& 255 = z_by v j := Nat.and_two_pow_sub_one_eq_mod _ 8
        generalize v.toBitVec.toNat / 2 ^ (8 * j) = W at *
        refine q_X.run sX6_take [] 40 ?_
        simp (maxSteps := 10000000) (disch := omega) only [↓q_run_s, q_stop_n, q_stop_c, q_lg_c, q_ls_d, q_ld_n, q_ld_c, q_cat_i, q_cat_r, q_cat_n, q_wd_n, q_wd_c, q_bx_1, q_bx_2, q_bx_3, q_bx_4, q_bx_5, q_bx_6, q_bx_7, q_bx_8, q_pop_0, q_pop_s, ↓reduceIte, Nat.reduceEqDiff, reduceCtorEq, eq_self, Bool.false_eq_true, Nat.reduceAdd, Nat.reduceSub, Nat.reduceMul, Nat.reduceLeDiff, Nat.reduceLT, Nat.le_refl, Nat.zero_le, true_and, and_true, false_and, and_false, or_false, false_or, true_or, or_true, not_true_eq_false, not_false_eq_true, if_true, if_false, List.getElem?_cons_zero, List.getElem?_cons_succ, List.set_cons_zero, List.set_cons_succ, List.length_cons, List.length_nil, ↓tX6_take_0, ↓tX6_take_1, ↓tX6_take_4, ↓tX6_take_5, ↓tX6_take_7, ↓tX6_take_8, ↓tX6_take_11, ↓tX6_take_12, ↓tX6_take_15, ↓tX6_take_17, ↓tX6_take_18, ↓tX6_take_19, ↓tX6_take_20, ↓tX6_take_21, ↓tX6_take_23, ↓tX6_take_25, ↓tX6_take_26, ↓tX6_take_29, ↓tX6_take_30, ↓tX6_take_31, ↓tX6_take_34, ↓tX6_take_35, ↓tX6_take_38, ↓tX6_take_39, ↓tX6_take_41, ↓tX6_take_42, ↓tX6_take_43, ↓tX6_take_46, ↓tX6_take_49, ↓tX6_take_50, ↓tX6_take_53, ↓oAl, ↓oAnd, ↓oCallV, ↓oGet, ↓oGo, ↓oIf1lt, ↓oIf2ge, ↓oIf2le, ↓oIl, ↓oInc, ↓oIret, ↓oIs, ↓oK, ↓oSub, ↓oUshr, q_set_s, q_set_n, rd_0, rdO_len, q_up_a, rdO_1, z_clamp, z_ltI, z_leI, z_eqI, z_lt0, z_ge0, z_eq0I, z_gt0I, z_le0I, z_m1lt, z_m1ge, z_m1eq, z_m1eq', z_inT, z_add, z_sub, z_mul, z_div, z_rem, n_ltT, n_ltF, n_leT, n_leF, n_eqT, n_eqF, z_11, q_tl_i, q_tl_n, q_ap_n, q_ap_c, z_and, eb]
        refine c6_put (n := T + j) (va_up_self _ _ _) (by omega) ?_
        rw [q_upup, q_upup, va_up_self]
        refine q_X.run sX6_take [23] 40 ?_
        simp (maxSteps := 10000000) (disch := omega) only [↓q_run_s, q_stop_n, q_stop_c, q_lg_c, q_ls_d, q_ld_n, q_ld_c, q_cat_i, q_cat_r, q_cat_n, q_wd_n, q_wd_c, q_bx_1, q_bx_2, q_bx_3, q_bx_4, q_bx_5, q_bx_6, q_bx_7, q_bx_8, q_pop_0, q_pop_s, ↓reduceIte, Nat.reduceEqDiff, reduceCtorEq, eq_self, Bool.false_eq_true, Nat.reduceAdd, Nat.reduceSub, Nat.reduceMul, Nat.reduceLeDiff, Nat.reduceLT, Nat.le_refl, Nat.zero_le, true_and, and_true, false_and, and_false, or_false, false_or, true_or, or_true, not_true_eq_false, not_false_eq_true, if_true, if_false, List.getElem?_cons_zero, List.getElem?_cons_succ, List.set_cons_zero, List.set_cons_succ, List.length_cons, List.length_nil, ↓tX6_take_0, ↓tX6_take_1, ↓tX6_take_4, ↓tX6_take_5, ↓tX6_take_7, ↓tX6_take_8, ↓tX6_take_11, ↓tX6_take_12, ↓tX6_take_15, ↓tX6_take_17, ↓tX6_take_18, ↓tX6_take_19, ↓tX6_take_20, ↓tX6_take_21, ↓tX6_take_23, ↓tX6_take_25, ↓tX6_take_26, ↓tX6_take_29, ↓tX6_take_30, ↓tX6_take_31, ↓tX6_take_34, ↓tX6_take_35, ↓tX6_take_38, ↓tX6_take_39, ↓tX6_take_41, ↓tX6_take_42, ↓tX6_take_43, ↓tX6_take_46, ↓tX6_take_49, ↓tX6_take_50, ↓tX6_take_53, ↓oAl, ↓oAnd, ↓oCallV, ↓oGet, ↓oGo, ↓oIf1lt, ↓oIf2ge, ↓oIf2le, ↓oIl, ↓oInc, ↓oIret, ↓oIs, ↓oK, ↓oSub, ↓oUshr, q_set_s, q_set_n, rd_0, rdO_len, q_up_a, rdO_1, z_clamp, z_ltI, z_leI, z_eqI, z_lt0, z_ge0, z_eq0I, z_gt0I, z_le0I, z_m1lt, z_m1ge, z_m1eq, z_m1eq', z_inT, z_add, z_sub, z_mul, z_div, z_rem, n_ltT, n_ltF, n_leT, n_leF, n_eqT, n_eqF, z_11, q_tl_i, q_tl_n, q_ap_n, q_ap_c, z_ushr8]
        refine q_X.lv2 _ ?_ h'
        exact ⟨rfl, rfl, rfl, rfl, trivial⟩
    have hw := loop n 0 (A 0) (by omega) (fun _ _ => rfl) (fun q hq => absurd hq (by omega))
    rw [Nat.mul_zero, Nat.pow_zero, Nat.div_one, ← eV, Nat.add_zero, ← h1, q_upid, q_upid] at hw
    refine q_X.run sX6_take [23] 40 ?_
    simp (maxSteps := 10000000) (disch := omega) only [↓q_run_s, q_stop_n, q_stop_c, q_lg_c, q_ls_d, q_ld_n, q_ld_c, q_cat_i, q_cat_r, q_cat_n, q_wd_n, q_wd_c, q_bx_1, q_bx_2, q_bx_3, q_bx_4, q_bx_5, q_bx_6, q_bx_7, q_bx_8, q_pop_0, q_pop_s, ↓reduceIte, Nat.reduceEqDiff, reduceCtorEq, eq_self, Bool.false_eq_true, Nat.reduceAdd, Nat.reduceSub, Nat.reduceMul, Nat.reduceLeDiff, Nat.reduceLT, Nat.le_refl, Nat.zero_le, true_and, and_true, false_and, and_false, or_false, false_or, true_or, or_true, not_true_eq_false, not_false_eq_true, if_true, if_false, List.getElem?_cons_zero, List.getElem?_cons_succ, List.set_cons_zero, List.set_cons_succ, List.length_cons, List.length_nil, ↓tX6_take_0, ↓tX6_take_1, ↓tX6_take_4, ↓tX6_take_5, ↓tX6_take_7, ↓tX6_take_8, ↓tX6_take_11, ↓tX6_take_12, ↓tX6_take_15, ↓tX6_take_17, ↓tX6_take_18, ↓tX6_take_19, ↓tX6_take_20, ↓tX6_take_21, ↓tX6_take_23, ↓tX6_take_25, ↓tX6_take_26, ↓tX6_take_29, ↓tX6_take_30, ↓tX6_take_31, ↓tX6_take_34, ↓tX6_take_35, ↓tX6_take_38, ↓tX6_take_39, ↓tX6_take_41, ↓tX6_take_42, ↓tX6_take_43, ↓tX6_take_46, ↓tX6_take_49, ↓tX6_take_50, ↓tX6_take_53, ↓oAl, ↓oAnd, ↓oCallV, ↓oGet, ↓oGo, ↓oIf1lt, ↓oIf2ge, ↓oIf2le, ↓oIl, ↓oInc, ↓oIret, ↓oIs, ↓oK, ↓oSub, ↓oUshr, q_set_s, q_set_n, rd_0, rdO_len, q_up_a, rdO_1, z_clamp, z_ltI, z_leI, z_eqI, z_lt0, z_ge0, z_eq0I, z_gt0I, z_le0I, z_m1lt, z_m1ge, z_m1eq, z_m1eq', z_inT, z_add, z_sub, z_mul, z_div, z_rem, n_ltT, n_ltF, n_leT, n_leF, n_eqT, n_eqF, z_11, q_tl_i, q_tl_n, q_ap_n, q_ap_c, h1]
    refine q_X.lv2 _ ?_ hw
    exact ⟨rfl, rfl, rfl, rfl, trivial⟩
  · have hU := hU (by omega)
    refine q_X.run sX6_take [] 40 ?_
    simp (maxSteps := 10000000) (disch := omega) only [↓q_run_s, q_stop_n, q_stop_c, q_lg_c, q_ls_d, q_ld_n, q_ld_c, q_cat_i, q_cat_r, q_cat_n, q_wd_n, q_wd_c, q_bx_1, q_bx_2, q_bx_3, q_bx_4, q_bx_5, q_bx_6, q_bx_7, q_bx_8, q_pop_0, q_pop_s, ↓reduceIte, Nat.reduceEqDiff, reduceCtorEq, eq_self, Bool.false_eq_true, Nat.reduceAdd, Nat.reduceSub, Nat.reduceMul, Nat.reduceLeDiff, Nat.reduceLT, Nat.le_refl, Nat.zero_le, true_and, and_true, false_and, and_false, or_false, false_or, true_or, or_true, not_true_eq_false, not_false_eq_true, if_true, if_false, List.getElem?_cons_zero, List.getElem?_cons_succ, List.set_cons_zero, List.set_cons_succ, List.length_cons, List.length_nil, ↓tX6_take_0, ↓tX6_take_1, ↓tX6_take_4, ↓tX6_take_5, ↓tX6_take_7, ↓tX6_take_8, ↓tX6_take_11, ↓tX6_take_12, ↓tX6_take_15, ↓tX6_take_17, ↓tX6_take_18, ↓tX6_take_19, ↓tX6_take_20, ↓tX6_take_21, ↓tX6_take_23, ↓tX6_take_25, ↓tX6_take_26, ↓tX6_take_29, ↓tX6_take_30, ↓tX6_take_31, ↓tX6_take_34, ↓tX6_take_35, ↓tX6_take_38, ↓tX6_take_39, ↓tX6_take_41, ↓tX6_take_42, ↓tX6_take_43, ↓tX6_take_46, ↓tX6_take_49, ↓tX6_take_50, ↓tX6_take_53, ↓oAl, ↓oAnd, ↓oCallV, ↓oGet, ↓oGo, ↓oIf1lt, ↓oIf2ge, ↓oIf2le, ↓oIl, ↓oInc, ↓oIret, ↓oIs, ↓oK, ↓oSub, ↓oUshr, q_set_s, q_set_n, rd_0, rdO_len, q_up_a, rdO_1, z_clamp, z_ltI, z_leI, z_eqI, z_lt0, z_ge0, z_eq0I, z_gt0I, z_le0I, z_m1lt, z_m1ge, z_m1eq, z_m1eq', z_inT, z_add, z_sub, z_mul, z_div, z_rem, n_ltT, n_ltF, n_leT, n_leF, n_eqT, n_eqF, z_11, q_tl_i, q_tl_n, q_ap_n, q_ap_c, h1]
    exact hU
end
