/-! the reference: row0, either; read -/
theorem p_Rp_B {tk : Nat → Nat} {T : Nat} (hT : ∀ x, T ≤ x → tk x = 256) {f δ h : Nat} (hh : h ≤ T) (hδ : δ ≤ 6) : p_B T δ h 1 (p_bind (p_P tk f 2 δ h) (p_rep tk 60)) := by
  have h1 := p_P_B hT f 2 δ h hh hδ
  rw [if_neg (by decide)] at h1
  generalize p_P tk f 2 δ h = r at h1 ⊢
  cases e : r.2.1 with
  | none =>
    rw [p_bind_n e]
    obtain ⟨a1, a2, a3, c, k, b1, b2, b3, b4⟩ := h1
    exact ⟨a1, a2, (fun x e => by cases e), c, k, b1, b2, b3, (fun x e => by cases e)⟩
  | some x =>
    rw [p_bind_s e]
    obtain ⟨r1, r2, r3⟩ := r
    cases e
    exact p_rep_B hT 60 r1 x r3 h δ h1.2.1 h1
theorem p_rep_nm {tk : Nat → Nat} : ∀ (f h : Nat) (x : qT) (m : Nat), t_nodes x ≤ m → ∀ y, (p_rep tk f h x m).2.1 = some y → t_nodes y ≤ (p_rep tk f h x m).2.2
  | 0, _, x, m, hx, y, e => by
    cases e
    exact hx
  | f + 1, h, x, m, hx, y, e => by
    unfold p_rep at e ⊢
    by_cases c1 : tk h = 43
    · rw [if_pos c1] at e ⊢
      exact p_rep_nm f (h + 1) _ _ (by show 1 + t_nodes x ≤ m + 1; omega) y e
    · rw [if_neg c1] at e ⊢
      by_cases c2 : tk h = 63
      · rw [if_pos c2] at e ⊢
        exact p_rep_nm f (h + 1) _ _ (by show 1 + t_nodes x ≤ m + 1; omega) y e
      · rw [if_neg c2] at e ⊢
        cases e
        exact hx
theorem p_P_nm {tk : Nat → Nat} : ∀ (f md δ h : Nat) (x : qT), (p_P tk f md δ h).2.1 = some x → t_nodes x ≤ (p_P tk f md δ h).2.2
  | 0, md, δ, h, x, e => by cases e
  | f + 1, 0, δ, h, x, e => by
    rw [p_P_0] at e ⊢
    have i1 := p_P_nm (tk := tk) f 1 δ h
    generalize p_P tk f 1 δ h = r at e i1 ⊢
    cases e1 : r.2.1 with
    | none => rw [p_bind_n e1] at e; cases e
    | some u =>
      rw [p_bind_s e1] at e ⊢
      by_cases c : tk r.1 = 124
      · rw [if_pos c] at e ⊢
        have i2 := p_P_nm (tk := tk) f 0 δ (r.1 + 1)
        generalize p_P tk f 0 δ (r.1 + 1) = r2 at e i2 ⊢
        cases e2 : r2.2.1 with
        | none => rw [p_bind_n (show (p_add r.2.2 r2).2.1 = none from e2)] at e; cases e
        | some w =>
          rw [p_bind_s (show (p_add r.2.2 r2).2.1 = some w from e2)] at e ⊢
          cases e
          have a := i1 u e1
          have b := i2 w e2
          show 1 + t_nodes u + t_nodes w ≤ r.2.2 + r2.2.2 + 1
          omega
      · rw [if_neg c] at e ⊢
        cases e
        exact i1 _ e1
  | f + 1, 1, δ, h, x, e => by
    rw [p_P_1] at e ⊢
    have i1 : ∀ u, (p_bind (p_P tk f 2 δ h) (p_rep tk 60)).2.1 = some u → t_nodes u ≤ (p_bind (p_P tk f 2 δ h) (p_rep tk 60)).2.2 := by
      intro u hu
      have i0 := p_P_nm (tk := tk) f 2 δ h
      generalize p_P tk f 2 δ h = r at hu i0 ⊢
      cases e1 : r.2.1 with
      | none => rw [p_bind_n e1] at hu; cases hu
      | some u' =>
        rw [p_bind_s e1] at hu ⊢
        exact p_rep_nm 60 r.1 u' r.2.2 (i0 u' e1) u hu
    generalize p_bind (p_P tk f 2 δ h) (p_rep tk 60) = r at e i1 ⊢
    cases e1 : r.2.1 with
    | none => rw [p_bind_n e1] at e; cases e
    | some u =>
      rw [p_bind_s e1] at e ⊢
      by_cases c : p_bg (tk r.1)
      · rw [if_pos c] at e ⊢
        have i2 := p_P_nm (tk := tk) f 1 δ r.1
        generalize p_P tk f 1 δ r.1 = r2 at e i2 ⊢
        cases e2 : r2.2.1 with
        | none => rw [p_bind_n (show (p_add r.2.2 r2).2.1 = none from e2)] at e; cases e
        | some w =>
          rw [p_bind_s (show (p_add r.2.2 r2).2.1 = some w from e2)] at e ⊢
          cases e
          have a := i1 u e1
          have b := i2 w e2
          rw [t_join_nd]
          show t_nodes u + t_nodes w + 1 ≤ r.2.2 + r2.2.2 + (t_sl u + 1)
          omega
      · rw [if_neg c] at e ⊢
        cases e
        exact i1 _ e1
  | f + 1, md + 2, δ, h, x, e => by
    have eq : p_P tk (f + 1) (md + 2) δ h = p_P tk (f + 1) 2 δ h := rfl
    rw [eq, p_P_2] at e ⊢
    by_cases c1 : 97 ≤ tk h ∧ tk h ≤ 99
    · rw [if_pos c1] at e ⊢
      cases e
      exact Nat.le_refl 1
    · rw [if_neg c1] at e ⊢
      by_cases c2 : tk h = 91
      · rw [if_pos c2] at e ⊢
        unfold p_set at e ⊢
        by_cases c3 : (p_cls tk 3 (h + 1) 0).2 = 0 ∨ tk (p_cls tk 3 (h + 1) 0).1 ≠ 93
        · rw [if_pos c3] at e; cases e
        · rw [if_neg c3] at e ⊢
          cases e
          exact Nat.le_refl 1
      · rw [if_neg c2] at e ⊢
        by_cases c3 : tk h = 40 ∧ δ < 6
        · rw [if_pos c3] at e ⊢
          have i1 := p_P_nm (tk := tk) f 0 (δ + 1) (h + 1)
          generalize p_P tk f 0 (δ + 1) (h + 1) = r at e i1 ⊢
          cases e1 : r.2.1 with
          | none => rw [p_bind_n e1] at e; cases e
          | some u =>
            rw [p_bind_s e1] at e ⊢
            by_cases c4 : tk r.1 = 41
            · rw [if_pos c4] at e ⊢
              cases e
              exact i1 _ e1
            · rw [if_neg c4] at e; cases e
        · rw [if_neg c3] at e; cases e
section
variable {G : qC} {L : Launch} {d : Nat} {Q : Option Value → qM → Prop} {M0 : qM} {r : Nat} {s : Nat → Int32} {A : Nat → Nat → Int32} {B : Nat → Nat → Int64} {tp : Nat → Nat} {T : Nat}
set_option maxRecDepth 100000 in
set_option maxHeartbeats 8000000 in
theorem c12_row0 {f : Nat} (hRp : m_Ps G L M0 r B tp T mX12_repeated 78 (fun h => 3 * (T - h) + 1 ≤ f) (fun δ h => p_bind (p_P (p_tk tp T) f 2 δ h) (p_rep (p_tk tp T) 60))) (hRow : m_Ps G L M0 r B tp T mX12_row0 79 (fun h => 3 * (T - h) + 2 ≤ f) (fun δ h => p_P (p_tk tp T) f 1 δ h)) : m_Ps G L M0 r B tp T mX12_row0 79 (fun h => 3 * (T - h) + 2 ≤ f + 1) (fun δ h => p_P (p_tk tp T) (f + 1) 1 δ h) := by
  intro d Q s A n δ h hT h19 hh h20 h21 hδ h10 hW hn hd hS hF
  have hT60 := hT.2.1
  have hB := p_Rp_B (tk := p_tk tp T) (T := T) p_tk_T (f := f) hh hδ
  simp only [p_P_1] at hn hS hF
  have hRp := hRp (d - 1)
  dsimp only at hRp
  have hRp := fun Q s A n => hRp Q s A n δ h
  generalize p_bind (p_P (p_tk tp T) f 2 δ h) (p_rep (p_tk tp T) 60) = rr at hn hS hF hB hRp
  obtain ⟨hB1, hB2, hB3, c, k, hB4, hB5, hB6, hB7⟩ := hB
  have hn2 : n + rr.2.2 ≤ 6400 := by
    cases e : rr.2.1 with
    | none => rw [p_bind_n e] at hn; exact hn
    | some x =>
      rw [p_bind_s e] at hn
      by_cases c4 : p_bg (p_tk tp T rr.1)
      · rw [if_pos c4] at hn
        generalize p_P (p_tk tp T) f 1 δ rr.1 = r2 at hn
        cases e2 : r2.2.1 with
        | none =>
          rw [p_bind_n (show (p_add rr.2.2 r2).2.1 = none from e2)] at hn
          have hn : n + (rr.2.2 + r2.2.2) ≤ 6400 := hn
          omega
        | some y =>
          rw [p_bind_s (show (p_add rr.2.2 r2).2.1 = some y from e2)] at hn
          have hn : n + (rr.2.2 + r2.2.2 + (t_sl x + 1)) ≤ 6400 := hn
          omega
      · rw [if_neg c4] at hn; exact hn
  refine q_Call.of [(0, .ref r)] rfl ?_
  refine q_X.run sX12_row0 [] 20 ?_
  simp (maxSteps := 10000000) (disch := omega) only [↓q_run_s, q_stop_n, q_stop_c, q_lg_c, q_ls_d, q_ld_n, q_ld_c, q_cat_i, q_cat_r, q_cat_n, q_wd_n, q_wd_c, q_bx_1, q_bx_2, q_bx_3, q_bx_4, q_bx_5, q_bx_6, q_bx_7, q_bx_8, q_pop_0, q_pop_s, ↓reduceIte, Nat.reduceEqDiff, reduceCtorEq, eq_self, Bool.false_eq_true, Nat.reduceAdd, Nat.reduceSub, Nat.reduceMul, Nat.reduceLeDiff, Nat.reduceLT, Nat.le_refl, Nat.zero_le, true_and, and_true, false_and, and_false, or_false, false_or, true_or, or_true, not_true_eq_false, not_false_eq_true, if_true, if_false, List.getElem?_cons_zero, List.getElem?_cons_succ, List.set_cons_zero, List.set_cons_succ, List.length_cons, List.length_nil, ↓tX12_row0_0, ↓tX12_row0_1, ↓tX12_row0_4, ↓tX12_row0_5, ↓tX12_row0_6, ↓tX12_row0_9, ↓tX12_row0_12, ↓tX12_row0_13, ↓tX12_row0_16, ↓tX12_row0_19, ↓tX12_row0_20, ↓tX12_row0_21, ↓tX12_row0_22, ↓tX12_row0_25, ↓tX12_row0_26, ↓tX12_row0_27, ↓tX12_row0_30, ↓tX12_row0_33, ↓tX12_row0_34, ↓tX12_row0_37, ↓tX12_row0_38, ↓tX12_row0_39, ↓tX12_row0_40, ↓tX12_row0_43, ↓oAl, ↓oCallV, ↓oGet, ↓oGo, ↓oIf1ge, ↓oIf1lt, ↓oIf1ne, ↓oIl, ↓oIret, ↓oIs, ↓oK, q_set_s, q_set_n, q_md_0, mO_len, q_up_a, mO_20, z_clamp, z_ltI, z_leI, z_eqI, z_lt0, z_ge0, z_eq0I, z_gt0I, z_le0I, z_m1lt, z_m1ge, z_m1eq, z_m1eq', z_inT, z_add, z_sub, z_mul, z_div, z_rem, n_ltT, n_ltF, n_leT, n_leF, n_eqT, n_eqF, z_11, q_tl_i, q_tl_n, q_ap_n, q_ap_c]
  refine hRp _ s A n hT h19 hh h20 h21 hδ h10 (by omega) hn2 (by omega) (fun s1 A1 x v e1 e2 e3 e4 e5 e6 e7 e8 => ?_) (fun s1 A1 v e1 e2 e3 => ?_)
  · have hT1 := e2.tape hT
    obtain ⟨b1, b2⟩ := hB3 x e1
    obtain ⟨b3, b4⟩ := hB7 x e1
    have b5 := t_sl_g x
    rw [p_bind_s e1] at hn hS hF
    refine q_X.run sX12_row0 [] 20 ?_
    simp (maxSteps := 10000000) (disch := omega) only [↓q_run_s, q_stop_n, q_stop_c, q_lg_c, q_ls_d, q_ld_n, q_ld_c, q_cat_i, q_cat_r, q_cat_n, q_wd_n, q_wd_c, q_bx_1, q_bx_2, q_bx_3, q_bx_4, q_bx_5, q_bx_6, q_bx_7, q_bx_8, q_pop_0, q_pop_s, ↓reduceIte, Nat.reduceEqDiff, reduceCtorEq, eq_self, Bool.false_eq_true, Nat.reduceAdd, Nat.reduceSub, Nat.reduceMul, Nat.reduceLeDiff, Nat.reduceLT, Nat.le_refl, Nat.zero_le, true_and, and_true, false_and, and_false, or_false, false_or, true_or, or_true, not_true_eq_false, not_false_eq_true, if_true, if_false, List.getElem?_cons_zero, List.getElem?_cons_succ, List.set_cons_zero, List.set_cons_succ, List.length_cons, List.length_nil, ↓tX12_row0_0, ↓tX12_row0_1, ↓tX12_row0_4, ↓tX12_row0_5, ↓tX12_row0_6, ↓tX12_row0_9, ↓tX12_row0_12, ↓tX12_row0_13, ↓tX12_row0_16, ↓tX12_row0_19, ↓tX12_row0_20, ↓tX12_row0_21, ↓tX12_row0_22, ↓tX12_row0_25, ↓tX12_row0_26, ↓tX12_row0_27, ↓tX12_row0_30, ↓tX12_row0_33, ↓tX12_row0_34, ↓tX12_row0_37, ↓tX12_row0_38, ↓tX12_row0_39, ↓tX12_row0_40, ↓tX12_row0_43, ↓oAl, ↓oCallV, ↓oGet, ↓oGo, ↓oIf1ge, ↓oIf1lt, ↓oIf1ne, ↓oIl, ↓oIret, ↓oIs, ↓oK, q_set_s, q_set_n, q_md_0, mO_len, q_up_a, mO_20, z_clamp, z_ltI, z_leI, z_eqI, z_lt0, z_ge0, z_eq0I, z_gt0I, z_le0I, z_m1lt, z_m1ge, z_m1eq, z_m1eq', z_inT, z_add, z_sub, z_mul, z_div, z_rem, n_ltT, n_ltF, n_leT, n_leF, n_eqT, n_eqF, z_11, q_tl_i, q_tl_n, q_ap_n, q_ap_c, e4]
    refine c12_begins hT1 e3 hB2 (by omega) (fun g => ?_) (fun g => ?_)
    · rw [if_pos g] at hn hS hF
      have hB' := p_P_B (tk := p_tk tp T) (T := T) p_tk_T f 1 δ rr.1 hB2 hδ
      have hRow := hRow (d - 1)
      dsimp only at hRow
      have hRow := fun Q s A n => hRow Q s A n δ rr.1
      generalize p_P (p_tk tp T) f 1 δ rr.1 = r2 at hn hS hF hRow hB'
      have hr2 := hB'.2.1
      have hn3 : n + rr.2.2 + r2.2.2 ≤ 6400 := by
        cases e2 : r2.2.1 with
        | none =>
          rw [p_bind_n (show (p_add rr.2.2 r2).2.1 = none from e2)] at hn
          have hn : n + (rr.2.2 + r2.2.2) ≤ 6400 := hn
          omega
        | some y =>
          rw [p_bind_s (show (p_add rr.2.2 r2).2.1 = some y from e2)] at hn
          have hn : n + (rr.2.2 + r2.2.2 + (t_sl x + 1)) ≤ 6400 := hn
          omega
      refine q_X.run sX12_row0 [] 20 ?_
      simp (maxSteps := 10000000) (disch := omega) only [↓q_run_s, q_stop_n, q_stop_c, q_lg_c, q_ls_d, q_ld_n, q_ld_c, q_cat_i, q_cat_r, q_cat_n, q_wd_n, q_wd_c, q_bx_1, q_bx_2, q_bx_3, q_bx_4, q_bx_5, q_bx_6, q_bx_7, q_bx_8, q_pop_0, q_pop_s, ↓reduceIte, Nat.reduceEqDiff, reduceCtorEq, eq_self, Bool.false_eq_true, Nat.reduceAdd, Nat.reduceSub, Nat.reduceMul, Nat.reduceLeDiff, Nat.reduceLT, Nat.le_refl, Nat.zero_le, true_and, and_true, false_and, and_false, or_false, false_or, true_or, or_true, not_true_eq_false, not_false_eq_true, if_true, if_false, List.getElem?_cons_zero, List.getElem?_cons_succ, List.set_cons_zero, List.set_cons_succ, List.length_cons, List.length_nil, ↓tX12_row0_0, ↓tX12_row0_1, ↓tX12_row0_4, ↓tX12_row0_5, ↓tX12_row0_6, ↓tX12_row0_9, ↓tX12_row0_12, ↓tX12_row0_13, ↓tX12_row0_16, ↓tX12_row0_19, ↓tX12_row0_20, ↓tX12_row0_21, ↓tX12_row0_22, ↓tX12_row0_25, ↓tX12_row0_26, ↓tX12_row0_27, ↓tX12_row0_30, ↓tX12_row0_33, ↓tX12_row0_34, ↓tX12_row0_37, ↓tX12_row0_38, ↓tX12_row0_39, ↓tX12_row0_40, ↓tX12_row0_43, ↓oAl, ↓oCallV, ↓oGet, ↓oGo, ↓oIf1ge, ↓oIf1lt, ↓oIf1ne, ↓oIl, ↓oIret, ↓oIs, ↓oK, q_set_s, q_set_n, q_md_0, mO_len, q_up_a, mO_20, z_clamp, z_ltI, z_leI, z_eqI, z_lt0, z_ge0, z_eq0I, z_gt0I, z_le0I, z_m1lt, z_m1ge, z_m1eq, z_m1eq', z_inT, z_add, z_sub, z_mul, z_div, z_rem, n_ltT, n_ltF, n_leT, n_leF, n_eqT, n_eqF, z_11, q_tl_i, q_tl_n, q_ap_n, q_ap_c]
      refine hRow _ s1 A1 (n + rr.2.2) hT1 e3 hB2 e4 e5 hδ e6 (by omega) hn3 (by omega) (fun s2 A2 y w f1 f2 f3 f4 f5 f6 f7 f8 => ?_) (fun s2 A2 w f1 f2 f3 => ?_)
      · rw [p_bind_s (show (p_add rr.2.2 r2).2.1 = some y from f1)] at hn hS
        have hn : n + (rr.2.2 + r2.2.2 + (t_sl x + 1)) ≤ 6400 := hn
        have hv2 : t_mr A2 x v := t_mr_fr f2.2.2 x v e8 e7
        refine q_X.run sX12_row0 [] 20 ?_
        simp (maxSteps := 10000000) (disch := omega) only [↓q_run_s, q_stop_n, q_stop_c, q_lg_c, q_ls_d, q_ld_n, q_ld_c, q_cat_i, q_cat_r, q_cat_n, q_wd_n, q_wd_c, q_bx_1, q_bx_2, q_bx_3, q_bx_4, q_bx_5, q_bx_6, q_bx_7, q_bx_8, q_pop_0, q_pop_s, ↓reduceIte, Nat.reduceEqDiff, reduceCtorEq, eq_self, Bool.false_eq_true, Nat.reduceAdd, Nat.reduceSub, Nat.reduceMul, Nat.reduceLeDiff, Nat.reduceLT, Nat.le_refl, Nat.zero_le, true_and, and_true, false_and, and_false, or_false, false_or, true_or, or_true, not_true_eq_false, not_false_eq_true, if_true, if_false, List.getElem?_cons_zero, List.getElem?_cons_succ, List.set_cons_zero, List.set_cons_succ, List.length_cons, List.length_nil, ↓tX12_row0_0, ↓tX12_row0_1, ↓tX12_row0_4, ↓tX12_row0_5, ↓tX12_row0_6, ↓tX12_row0_9, ↓tX12_row0_12, ↓tX12_row0_13, ↓tX12_row0_16, ↓tX12_row0_19, ↓tX12_row0_20, ↓tX12_row0_21, ↓tX12_row0_22, ↓tX12_row0_25, ↓tX12_row0_26, ↓tX12_row0_27, ↓tX12_row0_30, ↓tX12_row0_33, ↓tX12_row0_34, ↓tX12_row0_37, ↓tX12_row0_38, ↓tX12_row0_39, ↓tX12_row0_40, ↓tX12_row0_43, ↓oAl, ↓oCallV, ↓oGet, ↓oGo, ↓oIf1ge, ↓oIf1lt, ↓oIf1ne, ↓oIl, ↓oIret, ↓oIs, ↓oK, q_set_s, q_set_n, q_md_0, mO_len, q_up_a, mO_20, z_clamp, z_ltI, z_leI, z_eqI, z_lt0, z_ge0, z_eq0I, z_gt0I, z_le0I, z_m1lt, z_m1ge, z_m1eq, z_m1eq', z_inT, z_add, z_sub, z_mul, z_div, z_rem, n_ltT, n_ltF, n_leT, n_leF, n_eqT, n_eqF, z_11, q_tl_i, q_tl_n, q_ap_n, q_ap_c, f4]
        refine c12_joined x (d - 1) _ s2 A2 (n + rr.2.2 + r2.2.2) v w y f6 (by omega) hv2 f7 (by omega) f8 (by omega) fun s3 A3 j1 j2 j3 j4 => ?_
        have h' := hS s3 A3 (t_join x y) (n + rr.2.2 + r2.2.2 + t_sl x) rfl ((e2.trans f2 (by omega)).trans j1 (by omega)) (by rw [j2 19 (by decide)]; exact f3) (by rw [j2 20 (by decide)]; exact f4) (by rw [j2 21 (by decide)]; exact f5) (by
          show s3 10 = nI (n + (rr.2.2 + r2.2.2 + (t_sl x + 1)))
          rw [j3]
          congr 1
          omega) j4 (by show n + rr.2.2 + r2.2.2 + t_sl x < n + (rr.2.2 + r2.2.2 + (t_sl x + 1)); omega)
        refine q_X.run sX12_row0 [] 20 ?_
        simp (maxSteps := 10000000) (disch := omega) only [↓q_run_s, q_stop_n, q_stop_c, q_lg_c, q_ls_d, q_ld_n, q_ld_c, q_cat_i, q_cat_r, q_cat_n, q_wd_n, q_wd_c, q_bx_1, q_bx_2, q_bx_3, q_bx_4, q_bx_5, q_bx_6, q_bx_7, q_bx_8, q_pop_0, q_pop_s, ↓reduceIte, Nat.reduceEqDiff, reduceCtorEq, eq_self, Bool.false_eq_true, Nat.reduceAdd, Nat.reduceSub, Nat.reduceMul, Nat.reduceLeDiff, Nat.reduceLT, Nat.le_refl, Nat.zero_le, true_and, and_true, false_and, and_false, or_false, false_or, true_or, or_true, not_true_eq_false, not_false_eq_true, if_true, if_false, List.getElem?_cons_zero, List.getElem?_cons_succ, List.set_cons_zero, List.set_cons_succ, List.length_cons, List.length_nil, ↓tX12_row0_0, ↓tX12_row0_1, ↓tX12_row0_4, ↓tX12_row0_5, ↓tX12_row0_6, ↓tX12_row0_9, ↓tX12_row0_12, ↓tX12_row0_13, ↓tX12_row0_16, ↓tX12_row0_19, ↓tX12_row0_20, ↓tX12_row0_21, ↓tX12_row0_22, ↓tX12_row0_25, ↓tX12_row0_26, ↓tX12_row0_27, ↓tX12_row0_30, ↓tX12_row0_33, ↓tX12_row0_34, ↓tX12_row0_37, ↓tX12_row0_38, ↓tX12_row0_39, ↓tX12_row0_40, ↓tX12_row0_43, ↓oAl, ↓oCallV, ↓oGet, ↓oGo, ↓oIf1ge, ↓oIf1lt, ↓oIf1ne, ↓oIl, ↓oIret, ↓oIs, ↓oK, q_set_s, q_set_n, q_md_0, mO_len, q_up_a, mO_20, z_clamp, z_ltI, z_leI, z_eqI, z_lt0, z_ge0, z_eq0I, z_gt0I, z_le0I, z_m1lt, z_m1ge, z_m1eq, z_m1eq', z_inT, z_add, z_sub, z_mul, z_div, z_rem, n_ltT, n_ltF, n_leT, n_leF, n_eqT, n_eqF, z_11, q_tl_i, q_tl_n, q_ap_n, q_ap_c]
        exact h'
      · rw [p_bind_n (show (p_add rr.2.2 r2).2.1 = none from f1)] at hF
        have h' := hF s2 A2 (-1) rfl (e2.trans f2 (by omega)) f3
        refine q_X.run sX12_row0 [] 20 ?_
        simp (maxSteps := 10000000) (disch := omega) only [↓q_run_s, q_stop_n, q_stop_c, q_lg_c, q_ls_d, q_ld_n, q_ld_c, q_cat_i, q_cat_r, q_cat_n, q_wd_n, q_wd_c, q_bx_1, q_bx_2, q_bx_3, q_bx_4, q_bx_5, q_bx_6, q_bx_7, q_bx_8, q_pop_0, q_pop_s, ↓reduceIte, Nat.reduceEqDiff, reduceCtorEq, eq_self, Bool.false_eq_true, Nat.reduceAdd, Nat.reduceSub, Nat.reduceMul, Nat.reduceLeDiff, Nat.reduceLT, Nat.le_refl, Nat.zero_le, true_and, and_true, false_and, and_false, or_false, false_or, true_or, or_true, not_true_eq_false, not_false_eq_true, if_true, if_false, List.getElem?_cons_zero, List.getElem?_cons_succ, List.set_cons_zero, List.set_cons_succ, List.length_cons, List.length_nil, ↓tX12_row0_0, ↓tX12_row0_1, ↓tX12_row0_4, ↓tX12_row0_5, ↓tX12_row0_6, ↓tX12_row0_9, ↓tX12_row0_12, ↓tX12_row0_13, ↓tX12_row0_16, ↓tX12_row0_19, ↓tX12_row0_20, ↓tX12_row0_21, ↓tX12_row0_22, ↓tX12_row0_25, ↓tX12_row0_26, ↓tX12_row0_27, ↓tX12_row0_30, ↓tX12_row0_33, ↓tX12_row0_34, ↓tX12_row0_37, ↓tX12_row0_38, ↓tX12_row0_39, ↓tX12_row0_40, ↓tX12_row0_43, ↓oAl, ↓oCallV, ↓oGet, ↓oGo, ↓oIf1ge, ↓oIf1lt, ↓oIf1ne, ↓oIl, ↓oIret, ↓oIs, ↓oK, q_set_s, q_set_n, q_md_0, mO_len, q_up_a, mO_20, z_clamp, z_ltI, z_leI, z_eqI, z_lt0, z_ge0, z_eq0I, z_gt0I, z_le0I, z_m1lt, z_m1ge, z_m1eq, z_m1eq', z_inT, z_add, z_sub, z_mul, z_div, z_rem, n_ltT, n_ltF, n_leT, n_leF, n_eqT, n_eqF, z_11, q_tl_i, q_tl_n, q_ap_n, q_ap_c, f3]
        exact h'
    · rw [if_neg g] at hS
      have h' := hS s1 A1 x v rfl e2 e3 e4 e5 e6 e7 e8
      refine q_X.run sX12_row0 [] 20 ?_
      simp (maxSteps := 10000000) (disch := omega) only [↓q_run_s, q_stop_n, q_stop_c, q_lg_c, q_ls_d, q_ld_n, q_ld_c, q_cat_i, q_cat_r, q_cat_n, q_wd_n, q_wd_c, q_bx_1, q_bx_2, q_bx_3, q_bx_4, q_bx_5, q_bx_6, q_bx_7, q_bx_8, q_pop_0, q_pop_s, ↓reduceIte, Nat.reduceEqDiff, reduceCtorEq, eq_self, Bool.false_eq_true, Nat.reduceAdd, Nat.reduceSub, Nat.reduceMul, Nat.reduceLeDiff, Nat.reduceLT, Nat.le_refl, Nat.zero_le, true_and, and_true, false_and, and_false, or_false, false_or, true_or, or_true, not_true_eq_false, not_false_eq_true, if_true, if_false, List.getElem?_cons_zero, List.getElem?_cons_succ, List.set_cons_zero, List.set_cons_succ, List.length_cons, List.length_nil, ↓tX12_row0_0, ↓tX12_row0_1, ↓tX12_row0_4, ↓tX12_row0_5, ↓tX12_row0_6, ↓tX12_row0_9, ↓tX12_row0_12, ↓tX12_row0_13, ↓tX12_row0_16, ↓tX12_row0_19, ↓tX12_row0_20, ↓tX12_row0_21, ↓tX12_row0_22, ↓tX12_row0_25, ↓tX12_row0_26, ↓tX12_row0_27, ↓tX12_row0_30, ↓tX12_row0_33, ↓tX12_row0_34, ↓tX12_row0_37, ↓tX12_row0_38, ↓tX12_row0_39, ↓tX12_row0_40, ↓tX12_row0_43, ↓oAl, ↓oCallV, ↓oGet, ↓oGo, ↓oIf1ge, ↓oIf1lt, ↓oIf1ne, ↓oIl, ↓oIret, ↓oIs, ↓oK, q_set_s, q_set_n, q_md_0, mO_len, q_up_a, mO_20, z_clamp, z_ltI, z_leI, z_eqI, z_lt0, z_ge0, z_eq0I, z_gt0I, z_le0I, z_m1lt, z_m1ge, z_m1eq, z_m1eq', z_inT, z_add, z_sub, z_mul, z_div, z_rem, n_ltT, n_ltF, n_leT, n_leF, n_eqT, n_eqF, z_11, q_tl_i, q_tl_n, q_ap_n, q_ap_c]
      exact h'
  · rw [p_bind_n e1] at hF
    have h' := hF s1 A1 v rfl e2 e3
    refine q_X.run sX12_row0 [] 20 ?_
    simp (maxSteps := 10000000) (disch := omega) only [↓q_run_s, q_stop_n, q_stop_c, q_lg_c, q_ls_d, q_ld_n, q_ld_c, q_cat_i, q_cat_r, q_cat_n, q_wd_n, q_wd_c, q_bx_1, q_bx_2, q_bx_3, q_bx_4, q_bx_5, q_bx_6, q_bx_7, q_bx_8, q_pop_0, q_pop_s, ↓reduceIte, Nat.reduceEqDiff, reduceCtorEq, eq_self, Bool.false_eq_true, Nat.reduceAdd, Nat.reduceSub, Nat.reduceMul, Nat.reduceLeDiff, Nat.reduceLT, Nat.le_refl, Nat.zero_le, true_and, and_true, false_and, and_false, or_false, false_or, true_or, or_true, not_true_eq_false, not_false_eq_true, if_true, if_false, List.getElem?_cons_zero, List.getElem?_cons_succ, List.set_cons_zero, List.set_cons_succ, List.length_cons, List.length_nil, ↓tX12_row0_0, ↓tX12_row0_1, ↓tX12_row0_4, ↓tX12_row0_5, ↓tX12_row0_6, ↓tX12_row0_9, ↓tX12_row0_12, ↓tX12_row0_13, ↓tX12_row0_16, ↓tX12_row0_19, ↓tX12_row0_20, ↓tX12_row0_21, ↓tX12_row0_22, ↓tX12_row0_25, ↓tX12_row0_26, ↓tX12_row0_27, ↓tX12_row0_30, ↓tX12_row0_33, ↓tX12_row0_34, ↓tX12_row0_37, ↓tX12_row0_38, ↓tX12_row0_39, ↓tX12_row0_40, ↓tX12_row0_43, ↓oAl, ↓oCallV, ↓oGet, ↓oGo, ↓oIf1ge, ↓oIf1lt, ↓oIf1ne, ↓oIl, ↓oIret, ↓oIs, ↓oK, q_set_s, q_set_n, q_md_0, mO_len, q_up_a, mO_20, z_clamp, z_ltI, z_leI, z_eqI, z_lt0, z_ge0, z_eq0I, z_gt0I, z_le0I, z_m1lt, z_m1ge, z_m1eq, z_m1eq', z_inT, z_add, z_sub, z_mul, z_div, z_rem, n_ltT, n_ltF, n_leT, n_leF, n_eqT, n_eqF, z_11, q_tl_i, q_tl_n, q_ap_n, q_ap_c, e3]
    exact h'
set_option maxRecDepth 100000 in
set_option maxHeartbeats 8000000 in
theorem c12_either {f : Nat} (hRow : m_Ps G L M0 r B tp T mX12_row0 79 (fun h => 3 * (T - h) + 2 ≤ f) (fun δ h => p_P (p_tk tp T) f 1 δ h)) (hE : m_Ps G L M0 r B tp T mX12_either 80 (fun h => 3 * (T - h) + 3 ≤ f) (fun δ h => p_P (p_tk tp T) f 0 δ h)) : m_Ps G L M0 r B tp T mX12_either 80 (fun h => 3 * (T - h) + 3 ≤ f + 1) (fun δ h => p_P (p_tk tp T) (f + 1) 0 δ h) := by
  intro d Q s A n δ h hT h19 hh h20 h21 hδ h10 hW hn hd hS hF
  have hT60 := hT.2.1
  have hB := p_P_B (tk := p_tk tp T) (T := T) p_tk_T f 1 δ h hh hδ
  simp only [p_P_0] at hn hS hF
  have hRow := hRow (d - 1)
  dsimp only at hRow
  have hRow := fun Q s A n => hRow Q s A n δ h
  generalize p_P (p_tk tp T) f 1 δ h = rr at hn hS hF hB hRow
  obtain ⟨hB1, hB2, hB3, c, k, hB4, hB5, hB6, hB7⟩ := hB
  have hn2 : n + rr.2.2 ≤ 6400 := by
    cases e : rr.2.1 with
    | none => rw [p_bind_n e] at hn; exact hn
    | some x =>
      rw [p_bind_s e] at hn
      by_cases c4 : p_tk tp T rr.1 = 124
      · rw [if_pos c4] at hn
        generalize p_P (p_tk tp T) f 0 δ (rr.1 + 1) = r2 at hn
        cases e2 : r2.2.1 with
        | none =>
          rw [p_bind_n (show (p_add rr.2.2 r2).2.1 = none from e2)] at hn
          have hn : n + (rr.2.2 + r2.2.2) ≤ 6400 := hn
          omega
        | some y =>
          rw [p_bind_s (show (p_add rr.2.2 r2).2.1 = some y from e2)] at hn
          have hn : n + (rr.2.2 + r2.2.2 + 1) ≤ 6400 := hn
          omega
      · rw [if_neg c4] at hn; exact hn
  refine q_Call.of [(0, .ref r)] rfl ?_
  refine q_X.run sX12_either [] 20 ?_
  simp (maxSteps := 10000000) (disch := omega) only [↓q_run_s, q_stop_n, q_stop_c, q_lg_c, q_ls_d, q_ld_n, q_ld_c, q_cat_i, q_cat_r, q_cat_n, q_wd_n, q_wd_c, q_bx_1, q_bx_2, q_bx_3, q_bx_4, q_bx_5, q_bx_6, q_bx_7, q_bx_8, q_pop_0, q_pop_s, ↓reduceIte, Nat.reduceEqDiff, reduceCtorEq, eq_self, Bool.false_eq_true, Nat.reduceAdd, Nat.reduceSub, Nat.reduceMul, Nat.reduceLeDiff, Nat.reduceLT, Nat.le_refl, Nat.zero_le, true_and, and_true, false_and, and_false, or_false, false_or, true_or, or_true, not_true_eq_false, not_false_eq_true, if_true, if_false, List.getElem?_cons_zero, List.getElem?_cons_succ, List.set_cons_zero, List.set_cons_succ, List.length_cons, List.length_nil, ↓tX12_either_0, ↓tX12_either_1, ↓tX12_either_4, ↓tX12_either_5, ↓tX12_either_6, ↓tX12_either_9, ↓tX12_either_12, ↓tX12_either_13, ↓tX12_either_16, ↓tX12_either_18, ↓tX12_either_21, ↓tX12_either_22, ↓tX12_either_23, ↓tX12_either_24, ↓tX12_either_25, ↓tX12_either_28, ↓tX12_either_29, ↓tX12_either_30, ↓tX12_either_33, ↓tX12_either_34, ↓tX12_either_37, ↓tX12_either_38, ↓tX12_either_39, ↓tX12_either_42, ↓tX12_either_45, ↓tX12_either_46, ↓tX12_either_49, ↓tX12_either_50, ↓tX12_either_51, ↓tX12_either_52, ↓tX12_either_53, ↓tX12_either_54, ↓tX12_either_57, ↓oAdd, ↓oAl, ↓oCallV, ↓oDup, ↓oGet, ↓oGo, ↓oIf1ge, ↓oIf1lt, ↓oIf2eq, ↓oIl, ↓oIret, ↓oIs, ↓oK, ↓oPutI, q_set_s, q_set_n, q_md_0, mO_len, q_up_a, mO_20, mO_19, mOs_19, z_clamp, z_ltI, z_leI, z_eqI, z_lt0, z_ge0, z_eq0I, z_gt0I, z_le0I, z_m1lt, z_m1ge, z_m1eq, z_m1eq', z_inT, z_add, z_sub, z_mul, z_div, z_rem, n_ltT, n_ltF, n_leT, n_leF, n_eqT, n_eqF, z_11, q_tl_i, q_tl_n, q_ap_n, q_ap_c]
  refine hRow _ s A n hT h19 hh h20 h21 hδ h10 (by omega) hn2 (by omega) (fun s1 A1 x v e1 e2 e3 e4 e5 e6 e7 e8 => ?_) (fun s1 A1 v e1 e2 e3 => ?_)
  · have hT1 := e2.tape hT
    obtain ⟨b1, b2⟩ := hB3 x e1
    have hle := p_tk_le hT1 rr.1
    rw [p_bind_s e1] at hn hS hF
    refine q_X.run sX12_either [] 20 ?_
    simp (maxSteps := 10000000) (disch := omega) only [↓q_run_s, q_stop_n, q_stop_c, q_lg_c, q_ls_d, q_ld_n, q_ld_c, q_cat_i, q_cat_r, q_cat_n, q_wd_n, q_wd_c, q_bx_1, q_bx_2, q_bx_3, q_bx_4, q_bx_5, q_bx_6, q_bx_7, q_bx_8, q_pop_0, q_pop_s, ↓reduceIte, Nat.reduceEqDiff, reduceCtorEq, eq_self, Bool.false_eq_true, Nat.reduceAdd, Nat.reduceSub, Nat.reduceMul, Nat.reduceLeDiff, Nat.reduceLT, Nat.le_refl, Nat.zero_le, true_and, and_true, false_and, and_false, or_false, false_or, true_or, or_true, not_true_eq_false, not_false_eq_true, if_true, if_false, List.getElem?_cons_zero, List.getElem?_cons_succ, List.set_cons_zero, List.set_cons_succ, List.length_cons, List.length_nil, ↓tX12_either_0, ↓tX12_either_1, ↓tX12_either_4, ↓tX12_either_5, ↓tX12_either_6, ↓tX12_either_9, ↓tX12_either_12, ↓tX12_either_13, ↓tX12_either_16, ↓tX12_either_18, ↓tX12_either_21, ↓tX12_either_22, ↓tX12_either_23, ↓tX12_either_24, ↓tX12_either_25, ↓tX12_either_28, ↓tX12_either_29, ↓tX12_either_30, ↓tX12_either_33, ↓tX12_either_34, ↓tX12_either_37, ↓tX12_either_38, ↓tX12_either_39, ↓tX12_either_42, ↓tX12_either_45, ↓tX12_either_46, ↓tX12_either_49, ↓tX12_either_50, ↓tX12_either_51, ↓tX12_either_52, ↓tX12_either_53, ↓tX12_either_54, ↓tX12_either_57, ↓oAdd, ↓oAl, ↓oCallV, ↓oDup, ↓oGet, ↓oGo, ↓oIf1ge, ↓oIf1lt, ↓oIf2eq, ↓oIl, ↓oIret, ↓oIs, ↓oK, ↓oPutI, q_set_s, q_set_n, q_md_0, mO_len, q_up_a, mO_20, mO_19, mOs_19, z_clamp, z_ltI, z_leI, z_eqI, z_lt0, z_ge0, z_eq0I, z_gt0I, z_le0I, z_m1lt, z_m1ge, z_m1eq, z_m1eq', z_inT, z_add, z_sub, z_mul, z_div, z_rem, n_ltT, n_ltF, n_leT, n_leF, n_eqT, n_eqF, z_11, q_tl_i, q_tl_n, q_ap_n, q_ap_c, e4]
    refine e12_look hT1 e3 hB2 ?_
    by_cases g : p_tk tp T rr.1 = 124
    · rw [if_pos g] at hn hS hF
      have hl := p_tk_lt (tp := tp) (T := T) (x := rr.1) (by omega)
      have hB' := p_P_B (tk := p_tk tp T) (T := T) p_tk_T f 0 δ (rr.1 + 1) hl hδ
      have hE := hE (d - 1)
      dsimp only at hE
      have hE := fun Q s A n => hE Q s A n δ (rr.1 + 1)
      generalize p_P (p_tk tp T) f 0 δ (rr.1 + 1) = r2 at hn hS hF hE hB'
      have hr2 := hB'.2.1
      have hn3 : n + rr.2.2 + r2.2.2 ≤ 6400 := by
        cases e2 : r2.2.1 with
        | none =>
          rw [p_bind_n (show (p_add rr.2.2 r2).2.1 = none from e2)] at hn
          have hn : n + (rr.2.2 + r2.2.2) ≤ 6400 := hn
          omega
        | some y =>
          rw [p_bind_s (show (p_add rr.2.2 r2).2.1 = some y from e2)] at hn
          have hn : n + (rr.2.2 + r2.2.2 + 1) ≤ 6400 := hn
          omega
      have z1 := e2.up (k := 19) (v := nI (rr.1 + 1)) (by decide)
      refine q_X.run sX12_either [] 20 ?_
      simp (maxSteps := 10000000) (disch := omega) only [↓q_run_s, q_stop_n, q_stop_c, q_lg_c, q_ls_d, q_ld_n, q_ld_c, q_cat_i, q_cat_r, q_cat_n, q_wd_n, q_wd_c, q_bx_1, q_bx_2, q_bx_3, q_bx_4, q_bx_5, q_bx_6, q_bx_7, q_bx_8, q_pop_0, q_pop_s, ↓reduceIte, Nat.reduceEqDiff, reduceCtorEq, eq_self, Bool.false_eq_true, Nat.reduceAdd, Nat.reduceSub, Nat.reduceMul, Nat.reduceLeDiff, Nat.reduceLT, Nat.le_refl, Nat.zero_le, true_and, and_true, false_and, and_false, or_false, false_or, true_or, or_true, not_true_eq_false, not_false_eq_true, if_true, if_false, List.getElem?_cons_zero, List.getElem?_cons_succ, List.set_cons_zero, List.set_cons_succ, List.length_cons, List.length_nil, ↓tX12_either_0, ↓tX12_either_1, ↓tX12_either_4, ↓tX12_either_5, ↓tX12_either_6, ↓tX12_either_9, ↓tX12_either_12, ↓tX12_either_13, ↓tX12_either_16, ↓tX12_either_18, ↓tX12_either_21, ↓tX12_either_22, ↓tX12_either_23, ↓tX12_either_24, ↓tX12_either_25, ↓tX12_either_28, ↓tX12_either_29, ↓tX12_either_30, ↓tX12_either_33, ↓tX12_either_34, ↓tX12_either_37, ↓tX12_either_38, ↓tX12_either_39, ↓tX12_either_42, ↓tX12_either_45, ↓tX12_either_46, ↓tX12_either_49, ↓tX12_either_50, ↓tX12_either_51, ↓tX12_either_52, ↓tX12_either_53, ↓tX12_either_54, ↓tX12_either_57, ↓oAdd, ↓oAl, ↓oCallV, ↓oDup, ↓oGet, ↓oGo, ↓oIf1ge, ↓oIf1lt, ↓oIf2eq, ↓oIl, ↓oIret, ↓oIs, ↓oK, ↓oPutI, q_set_s, q_set_n, q_md_0, mO_len, q_up_a, mO_20, mO_19, mOs_19, z_clamp, z_ltI, z_leI, z_eqI, z_lt0, z_ge0, z_eq0I, z_gt0I, z_le0I, z_m1lt, z_m1ge, z_m1eq, z_m1eq', z_inT, z_add, z_sub, z_mul, z_div, z_rem, n_ltT, n_ltF, n_leT, n_leF, n_eqT, n_eqF, z_11, q_tl_i, q_tl_n, q_ap_n, q_ap_c, m_tk_eq, g, e3]
      refine hE _ (va_up s1 19 (nI (rr.1 + 1))) A1 (n + rr.2.2) (z1.tape hT) (va_up_self _ _ _) hl (by rw [va_up_ne _ _ (by decide)]; exact e4) (by rw [va_up_ne _ _ (by decide)]; exact e5) hδ (by rw [va_up_ne _ _ (by decide)]; exact e6) (by omega) hn3 (by omega) (fun s2 A2 y w f1 f2 f3 f4 f5 f6 f7 f8 => ?_) (fun s2 A2 w f1 f2 f3 => ?_)
      · rw [p_bind_s (show (p_add rr.2.2 r2).2.1 = some y from f1)] at hn hS
        have hn : n + (rr.2.2 + r2.2.2 + 1) ≤ 6400 := hn
        have hv2 : t_mr A2 x v := t_mr_fr f2.2.2 x v e8 e7
        refine q_X.run sX12_either [] 20 ?_
        simp (maxSteps := 10000000) (disch := omega) only [↓q_run_s, q_stop_n, q_stop_c, q_lg_c, q_ls_d, q_ld_n, q_ld_c, q_cat_i, q_cat_r, q_cat_n, q_wd_n, q_wd_c, q_bx_1, q_bx_2, q_bx_3, q_bx_4, q_bx_5, q_bx_6, q_bx_7, q_bx_8, q_pop_0, q_pop_s, ↓reduceIte, Nat.reduceEqDiff, reduceCtorEq, eq_self, Bool.false_eq_true, Nat.reduceAdd, Nat.reduceSub, Nat.reduceMul, Nat.reduceLeDiff, Nat.reduceLT, Nat.le_refl, Nat.zero_le, true_and, and_true, false_and, and_false, or_false, false_or, true_or, or_true, not_true_eq_false, not_false_eq_true, if_true, if_false, List.getElem?_cons_zero, List.getElem?_cons_succ, List.set_cons_zero, List.set_cons_succ, List.length_cons, List.length_nil, ↓tX12_either_0, ↓tX12_either_1, ↓tX12_either_4, ↓tX12_either_5, ↓tX12_either_6, ↓tX12_either_9, ↓tX12_either_12, ↓tX12_either_13, ↓tX12_either_16, ↓tX12_either_18, ↓tX12_either_21, ↓tX12_either_22, ↓tX12_either_23, ↓tX12_either_24, ↓tX12_either_25, ↓tX12_either_28, ↓tX12_either_29, ↓tX12_either_30, ↓tX12_either_33, ↓tX12_either_34, ↓tX12_either_37, ↓tX12_either_38, ↓tX12_either_39, ↓tX12_either_42, ↓tX12_either_45, ↓tX12_either_46, ↓tX12_either_49, ↓tX12_either_50, ↓tX12_either_51, ↓tX12_either_52, ↓tX12_either_53, ↓tX12_either_54, ↓tX12_either_57, ↓oAdd, ↓oAl, ↓oCallV, ↓oDup, ↓oGet, ↓oGo, ↓oIf1ge, ↓oIf1lt, ↓oIf2eq, ↓oIl, ↓oIret, ↓oIs, ↓oK, ↓oPutI, q_set_s, q_set_n, q_md_0, mO_len, q_up_a, mO_20, mO_19, mOs_19, z_clamp, z_ltI, z_leI, z_eqI, z_lt0, z_ge0, z_eq0I, z_gt0I, z_le0I, z_m1lt, z_m1ge, z_m1eq, z_m1eq', z_inT, z_add, z_sub, z_mul, z_div, z_rem, n_ltT, n_ltF, n_leT, n_leF, n_eqT, n_eqF, z_11, q_tl_i, q_tl_n, q_ap_n, q_ap_c, f4]
        refine c12_mk2 (k := 3) (n := n + rr.2.2 + r2.2.2) (by omega) f6 (by omega) (Or.inr rfl) (by omega) f8 hv2 f7 fun s3 A3 hm ht => ?_
        have h' := hS s3 A3 (.sub x y) (n + rr.2.2 + r2.2.2) rfl ((z1.trans f2 (by omega)).trans (m_Pz_mk hm) (by omega)) (by rw [hm.1 19 (by decide)]; exact f3) (by rw [hm.1 20 (by decide)]; exact f4) (by rw [hm.1 21 (by decide)]; exact f5) (by
          show s3 10 = nI (n + (rr.2.2 + r2.2.2 + 1))
          rw [hm.2.1]
          congr 1
          omega) ht (by show n + rr.2.2 + r2.2.2 < n + (rr.2.2 + r2.2.2 + 1); omega)
        refine q_X.run sX12_either [] 20 ?_
        simp (maxSteps := 10000000) (disch := omega) only [↓q_run_s, q_stop_n, q_stop_c, q_lg_c, q_ls_d, q_ld_n, q_ld_c, q_cat_i, q_cat_r, q_cat_n, q_wd_n, q_wd_c, q_bx_1, q_bx_2, q_bx_3, q_bx_4, q_bx_5, q_bx_6, q_bx_7, q_bx_8, q_pop_0, q_pop_s, ↓reduceIte, Nat.reduceEqDiff, reduceCtorEq, eq_self, Bool.false_eq_true, Nat.reduceAdd, Nat.reduceSub, Nat.reduceMul, Nat.reduceLeDiff, Nat.reduceLT, Nat.le_refl, Nat.zero_le, true_and, and_true, false_and, and_false, or_false, false_or, true_or, or_true, not_true_eq_false, not_false_eq_true, if_true, if_false, List.getElem?_cons_zero, List.getElem?_cons_succ, List.set_cons_zero, List.set_cons_succ, List.length_cons, List.length_nil, ↓tX12_either_0, ↓tX12_either_1, ↓tX12_either_4, ↓tX12_either_5, ↓tX12_either_6, ↓tX12_either_9, ↓tX12_either_12, ↓tX12_either_13, ↓tX12_either_16, ↓tX12_either_18, ↓tX12_either_21, ↓tX12_either_22, ↓tX12_either_23, ↓tX12_either_24, ↓tX12_either_25, ↓tX12_either_28, ↓tX12_either_29, ↓tX12_either_30, ↓tX12_either_33, ↓tX12_either_34, ↓tX12_either_37, ↓tX12_either_38, ↓tX12_either_39, ↓tX12_either_42, ↓tX12_either_45, ↓tX12_either_46, ↓tX12_either_49, ↓tX12_either_50, ↓tX12_either_51, ↓tX12_either_52, ↓tX12_either_53, ↓tX12_either_54, ↓tX12_either_57, ↓oAdd, ↓oAl, ↓oCallV, ↓oDup, ↓oGet, ↓oGo, ↓oIf1ge, ↓oIf1lt, ↓oIf2eq, ↓oIl, ↓oIret, ↓oIs, ↓oK, ↓oPutI, q_set_s, q_set_n, q_md_0, mO_len, q_up_a, mO_20, mO_19, mOs_19, z_clamp, z_ltI, z_leI, z_eqI, z_lt0, z_ge0, z_eq0I, z_gt0I, z_le0I, z_m1lt, z_m1ge, z_m1eq, z_m1eq', z_inT, z_add, z_sub, z_mul, z_div, z_rem, n_ltT, n_ltF, n_leT, n_leF, n_eqT, n_eqF, z_11, q_tl_i, q_tl_n, q_ap_n, q_ap_c]
        exact h'
      · rw [p_bind_n (show (p_add rr.2.2 r2).2.1 = none from f1)] at hF
        have h' := hF s2 A2 (-1) rfl (z1.trans f2 (by omega)) f3
        refine q_X.run sX12_either [] 20 ?_
        simp (maxSteps := 10000000) (disch := omega) only [↓q_run_s, q_stop_n, q_stop_c, q_lg_c, q_ls_d, q_ld_n, q_ld_c, q_cat_i, q_cat_r, q_cat_n, q_wd_n, q_wd_c, q_bx_1, q_bx_2, q_bx_3, q_bx_4, q_bx_5, q_bx_6, q_bx_7, q_bx_8, q_pop_0, q_pop_s, ↓reduceIte, Nat.reduceEqDiff, reduceCtorEq, eq_self, Bool.false_eq_true, Nat.reduceAdd, Nat.reduceSub, Nat.reduceMul, Nat.reduceLeDiff, Nat.reduceLT, Nat.le_refl, Nat.zero_le, true_and, and_true, false_and, and_false, or_false, false_or, true_or, or_true, not_true_eq_false, not_false_eq_true, if_true, if_false, List.getElem?_cons_zero, List.getElem?_cons_succ, List.set_cons_zero, List.set_cons_succ, List.length_cons, List.length_nil, ↓tX12_either_0, ↓tX12_either_1, ↓tX12_either_4, ↓tX12_either_5, ↓tX12_either_6, ↓tX12_either_9, ↓tX12_either_12, ↓tX12_either_13, ↓tX12_either_16, ↓tX12_either_18, ↓tX12_either_21, ↓tX12_either_22, ↓tX12_either_23, ↓tX12_either_24, ↓tX12_either_25, ↓tX12_either_28, ↓tX12_either_29, ↓tX12_either_30, ↓tX12_either_33, ↓tX12_either_34, ↓tX12_either_37, ↓tX12_either_38, ↓tX12_either_39, ↓tX12_either_42, ↓tX12_either_45, ↓tX12_either_46, ↓tX12_either_49, ↓tX12_either_50, ↓tX12_either_51, ↓tX12_either_52, ↓tX12_either_53, ↓tX12_either_54, ↓tX12_either_57, ↓oAdd, ↓oAl, ↓oCallV, ↓oDup, ↓oGet, ↓oGo, ↓oIf1ge, ↓oIf1lt, ↓oIf2eq, ↓oIl, ↓oIret, ↓oIs, ↓oK, ↓oPutI, q_set_s, q_set_n, q_md_0, mO_len, q_up_a, mO_20, mO_19, mOs_19, z_clamp, z_ltI, z_leI, z_eqI, z_lt0, z_ge0, z_eq0I, z_gt0I, z_le0I, z_m1lt, z_m1ge, z_m1eq, z_m1eq', z_inT, z_add, z_sub, z_mul, z_div, z_rem, n_ltT, n_ltF, n_leT, n_leF, n_eqT, n_eqF, z_11, q_tl_i, q_tl_n, q_ap_n, q_ap_c, f3]
        exact h'
    · rw [if_neg g] at hS
      have h' := hS s1 A1 x v rfl e2 e3 e4 e5 e6 e7 e8
      refine q_X.run sX12_either [] 20 ?_
      simp (maxSteps := 10000000) (disch := omega) only [↓q_run_s, q_stop_n, q_stop_c, q_lg_c, q_ls_d, q_ld_n, q_ld_c, q_cat_i, q_cat_r, q_cat_n, q_wd_n, q_wd_c, q_bx_1, q_bx_2, q_bx_3, q_bx_4, q_bx_5, q_bx_6, q_bx_7, q_bx_8, q_pop_0, q_pop_s, ↓reduceIte, Nat.reduceEqDiff, reduceCtorEq, eq_self, Bool.false_eq_true, Nat.reduceAdd, Nat.reduceSub, Nat.reduceMul, Nat.reduceLeDiff, Nat.reduceLT, Nat.le_refl, Nat.zero_le, true_and, and_true, false_and, and_false, or_false, false_or, true_or, or_true, not_true_eq_false, not_false_eq_true, if_true, if_false, List.getElem?_cons_zero, List.getElem?_cons_succ, List.set_cons_zero, List.set_cons_succ, List.length_cons, List.length_nil, ↓tX12_either_0, ↓tX12_either_1, ↓tX12_either_4, ↓tX12_either_5, ↓tX12_either_6, ↓tX12_either_9, ↓tX12_either_12, ↓tX12_either_13, ↓tX12_either_16, ↓tX12_either_18, ↓tX12_either_21, ↓tX12_either_22, ↓tX12_either_23, ↓tX12_either_24, ↓tX12_either_25, ↓tX12_either_28, ↓tX12_either_29, ↓tX12_either_30, ↓tX12_either_33, ↓tX12_either_34, ↓tX12_either_37, ↓tX12_either_38, ↓tX12_either_39, ↓tX12_either_42, ↓tX12_either_45, ↓tX12_either_46, ↓tX12_either_49, ↓tX12_either_50, ↓tX12_either_51, ↓tX12_either_52, ↓tX12_either_53, ↓tX12_either_54, ↓tX12_either_57, ↓oAdd, ↓oAl, ↓oCallV, ↓oDup, ↓oGet, ↓oGo, ↓oIf1ge, ↓oIf1lt, ↓oIf2eq, ↓oIl, ↓oIret, ↓oIs, ↓oK, ↓oPutI, q_set_s, q_set_n, q_md_0, mO_len, q_up_a, mO_20, mO_19, mOs_19, z_clamp, z_ltI, z_leI, z_eqI, z_lt0, z_ge0, z_eq0I, z_gt0I, z_le0I, z_m1lt, z_m1ge, z_m1eq, z_m1eq', z_inT, z_add, z_sub, z_mul, z_div, z_rem, n_ltT, n_ltF, n_leT, n_leF, n_eqT, n_eqF, z_11, q_tl_i, q_tl_n, q_ap_n, q_ap_c, m_tk_eq, g]
      exact h'
  · rw [p_bind_n e1] at hF
    have h' := hF s1 A1 v rfl e2 e3
    refine q_X.run sX12_either [] 20 ?_
    simp (maxSteps := 10000000) (disch := omega) only [↓q_run_s, q_stop_n, q_stop_c, q_lg_c, q_ls_d, q_ld_n, q_ld_c, q_cat_i, q_cat_r, q_cat_n, q_wd_n, q_wd_c, q_bx_1, q_bx_2, q_bx_3, q_bx_4, q_bx_5, q_bx_6, q_bx_7, q_bx_8, q_pop_0, q_pop_s, ↓reduceIte, Nat.reduceEqDiff, reduceCtorEq, eq_self, Bool.false_eq_true, Nat.reduceAdd, Nat.reduceSub, Nat.reduceMul, Nat.reduceLeDiff, Nat.reduceLT, Nat.le_refl, Nat.zero_le, true_and, and_true, false_and, and_false, or_false, false_or, true_or, or_true, not_true_eq_false, not_false_eq_true, if_true, if_false, List.getElem?_cons_zero, List.getElem?_cons_succ, List.set_cons_zero, List.set_cons_succ, List.length_cons, List.length_nil, ↓tX12_either_0, ↓tX12_either_1, ↓tX12_either_4, ↓tX12_either_5, ↓tX12_either_6, ↓tX12_either_9, ↓tX12_either_12, ↓tX12_either_13, ↓tX12_either_16, ↓tX12_either_18, ↓tX12_either_21, ↓tX12_either_22, ↓tX12_either_23, ↓tX12_either_24, ↓tX12_either_25, ↓tX12_either_28, ↓tX12_either_29, ↓tX12_either_30, ↓tX12_either_33, ↓tX12_either_34, ↓tX12_either_37, ↓tX12_either_38, ↓tX12_either_39, ↓tX12_either_42, ↓tX12_either_45, ↓tX12_either_46, ↓tX12_either_49, ↓tX12_either_50, ↓tX12_either_51, ↓tX12_either_52, ↓tX12_either_53, ↓tX12_either_54, ↓tX12_either_57, ↓oAdd, ↓oAl, ↓oCallV, ↓oDup, ↓oGet, ↓oGo, ↓oIf1ge, ↓oIf1lt, ↓oIf2eq, ↓oIl, ↓oIret, ↓oIs, ↓oK, ↓oPutI, q_set_s, q_set_n, q_md_0, mO_len, q_up_a, mO_20, mO_19, mOs_19, z_clamp, z_ltI, z_leI, z_eqI, z_lt0, z_ge0, z_eq0I, z_gt0I, z_le0I, z_m1lt, z_m1ge, z_m1eq, z_m1eq', z_inT, z_add, z_sub, z_mul, z_div, z_rem, n_ltT, n_ltF, n_leT, n_leF, n_eqT, n_eqF, z_11, q_tl_i, q_tl_n, q_ap_n, q_ap_c, e3]
    exact h'
theorem c12_parse : ∀ f : Nat, m_Ps G L M0 r B tp T mX12_either 80 (fun h => 3 * (T - h) + 3 ≤ f) (fun δ h => p_P (p_tk tp T) f 0 δ h) ∧ m_Ps G L M0 r B tp T mX12_row0 79 (fun h => 3 * (T - h) + 2 ≤ f) (fun δ h => p_P (p_tk tp T) f 1 δ h) ∧ m_Ps G L M0 r B tp T mX12_base 77 (fun h => 3 * (T - h) + 1 ≤ f) (fun δ h => p_P (p_tk tp T) f 2 δ h)
  | 0 => ⟨(fun _ _ _ _ _ _ _ _ _ _ _ _ _ _ hW => absurd hW (by omega)), (fun _ _ _ _ _ _ _ _ _ _ _ _ _ _ hW => absurd hW (by omega)), (fun _ _ _ _ _ _ _ _ _ _ _ _ _ _ hW => absurd hW (by omega))⟩
  | f + 1 => by
    obtain ⟨h1, h2, h3⟩ := c12_parse f
    exact ⟨c12_either h2 h1, c12_row0 (c12_repeated h3 fun δ h hh hδ => (p_P_B (tk := p_tk tp T) p_tk_T f 2 δ h hh hδ).2.1) h2, c12_base h1⟩
/-- the whole text -/
noncomputable def p_all (tp : Nat → Nat) (T : Nat) : pR := p_P (p_tk tp T) 200 0 0 0
theorem p_all_B {tp : Nat → Nat} {T : Nat} : p_B T 0 0 2 (p_all tp T) := p_P_B (tk := p_tk tp T) p_tk_T 200 0 0 0 (Nat.zero_le _) (by decide)
theorem p_all_nm {tp : Nat → Nat} {T : Nat} {x : qT} (h : (p_all tp T).2.1 = some x) : t_nodes x ≤ (p_all tp T).2.2 := p_P_nm 200 0 0 0 x h
def m_Rd (s : Nat → Int32) (A : Nat → Nat → Int32) (s' : Nat → Int32) (A' : Nat → Nat → Int32) : Prop := (∀ k, k ≠ 10 → k ≠ 16 → k ≠ 18 → k ≠ 19 → k ≠ 20 → k ≠ 21 → s' k = s k) ∧ s' 18 = nI 0 ∧ (∀ f, f < 3 ∨ 9 < f → f ≠ 13 → f ≠ 14 → f ≠ 15 → A' f = A f) ∧ m_fr A A' 6000
theorem z_m100 {k : Nat} (h : k ≤ 60) : (-100 : Int32) - nI k = -100 - nI k := rfl
theorem z_le12F {k : Nat} (h : 12 < k) (hk : k < 2147483648) : (nI k ≤ nI 12) = False := eq_false fun g => by have := (nI_leI hk (by decide)).mp g; omega
set_option maxRecDepth 100000 in
set_option maxHeartbeats 8000000 in
theorem c12_read {v : Int32} (hT : m_Tp s A tp T) (hd : 400 ≤ d) (hF : (∀ p, p < 10 → v ≠ nI p) → Q (some (.int (-1))) (q_md M0 r s A B)) (hE : ∀ p s' A', p < 10 → v = nI p → ((p_all tp T).2.1 = none ∨ (p_all tp T).1 < T) → m_Rd s A s' A' → A' 13 = A 13 → A' 14 = A 14 → A' 15 = A 15 → Q (some (.int (-100 - nI (p_all tp T).1))) (q_md M0 r s' A' B)) (hM : ∀ p x s' A', p < 10 → v = nI p → (p_all tp T).2.1 = some x → (p_all tp T).1 = T → 12 < t_nodes x → m_Rd s A s' A' → A' 13 = A 13 → A' 14 = A 14 → A' 15 = A 15 → Q (some (.int (-1000))) (q_md M0 r s' A' B)) (hS : ∀ p x s1 A1 s' A', p < 10 → v = nI p → (p_all tp T).2.1 = some x → (p_all tp T).1 = T → t_nodes x ≤ 12 → m_Rd s A s' A' → m_Pu s1 A1 p x s' A' → A1 13 = A 13 → A1 14 = A 14 → A1 15 = A 15 → Q (some (.int (nI (t_cost x)))) (q_md M0 r s' A' B)) : q_Call G L d mX12_read 0 0 [.ref r, .int v] (q_md M0 r s A B) Q := by
  have hT60 := hT.2.1
  have hB := p_all_B (tp := tp) (T := T)
  have h384 := p_384 hT60 hB
  obtain ⟨hB1, hB2, hB3, -⟩ := hB
  refine q_Call.of [(0, .ref r), (1, .int v)] rfl ?_
  refine q_X.run sX12_read [] 20 ?_
  simp (maxSteps := 10000000) (disch := omega) only [↓q_run_s, q_stop_n, q_stop_c, q_lg_c, q_ls_d, q_ld_n, q_ld_c, q_cat_i, q_cat_r, q_cat_n, q_wd_n, q_wd_c, q_bx_1, q_bx_2, q_bx_3, q_bx_4, q_bx_5, q_bx_6, q_bx_7, q_bx_8, q_pop_0, q_pop_s, ↓reduceIte, Nat.reduceEqDiff, reduceCtorEq, eq_self, Bool.false_eq_true, Nat.reduceAdd, Nat.reduceSub, Nat.reduceMul, Nat.reduceLeDiff, Nat.reduceLT, Nat.le_refl, Nat.zero_le, true_and, and_true, false_and, and_false, or_false, false_or, true_or, or_true, not_true_eq_false, not_false_eq_true, if_true, if_false, List.getElem?_cons_zero, List.getElem?_cons_succ, List.set_cons_zero, List.set_cons_succ, List.length_cons, List.length_nil, ↓tX12_read_0, ↓tX12_read_1, ↓tX12_read_4, ↓tX12_read_7, ↓tX12_read_8, ↓tX12_read_9, ↓tX12_read_10, ↓tX12_read_11, ↓tX12_read_14, ↓tX12_read_15, ↓tX12_read_16, ↓tX12_read_19, ↓tX12_read_20, ↓tX12_read_21, ↓tX12_read_24, ↓tX12_read_25, ↓tX12_read_28, ↓tX12_read_31, ↓tX12_read_32, ↓tX12_read_35, ↓tX12_read_36, ↓tX12_read_37, ↓tX12_read_40, ↓tX12_read_43, ↓tX12_read_44, ↓tX12_read_47, ↓tX12_read_48, ↓tX12_read_51, ↓tX12_read_54, ↓tX12_read_55, ↓tX12_read_58, ↓tX12_read_59, ↓tX12_read_60, ↓tX12_read_61, ↓tX12_read_64, ↓tX12_read_65, ↓tX12_read_68, ↓tX12_read_71, ↓tX12_read_73, ↓tX12_read_74, ↓tX12_read_77, ↓tX12_read_78, ↓tX12_read_79, ↓tX12_read_80, ↓tX12_read_83, ↓tX12_read_84, ↓tX12_read_85, ↓tX12_read_87, ↓tX12_read_90, ↓tX12_read_93, ↓tX12_read_94, ↓tX12_read_95, ↓tX12_read_96, ↓tX12_read_97, ↓tX12_read_100, ↓tX12_read_101, ↓tX12_read_104, ↓tX12_read_105, ↓tX12_read_106, ↓oAl, ↓oCallS, ↓oCallV, ↓oGet, ↓oIald, ↓oIf1ge, ↓oIf1lt, ↓oIf1ne, ↓oIf2ge, ↓oIf2le, ↓oIl, ↓oIret, ↓oIs, ↓oK, ↓oPutI, ↓oSub, q_set_s, q_set_n, q_md_0, mO_len, q_up_a, mOs_19, mOs_20, mOs_21, mOs_10, mO_20, mO_19, mO_18, mOs_18, mO_8, md_8, mO_7, md_7, z_clamp, z_ltI, z_leI, z_eqI, z_lt0, z_ge0, z_eq0I, z_gt0I, z_le0I, z_m1lt, z_m1ge, z_m1eq, z_m1eq', z_inT, z_add, z_sub, z_mul, z_div, z_rem, n_ltT, n_ltF, n_leT, n_leF, n_eqT, n_eqF, z_11, q_tl_i, q_tl_n, q_ap_n, q_ap_c]
  refine c12_isPlace (by omega) (fun g1 g2 => ?_) (fun g => ?_)
  · obtain ⟨p, hp, rfl⟩ := q_pl g1 g2
    have z0 : m_Pz s A 6000 (va_up (va_up (va_up (va_up s 19 (nI 0)) 20 (-1)) 21 (nI 0)) 10 (nI 6000)) A := (((m_Pz.refl.up (by decide)).up (by decide)).up (by decide)).up (by decide)
    have hp' := (c12_parse (G := G) (L := L) (M0 := M0) (r := r) (B := B) (tp := tp) (T := T) 200).1
    unfold m_Ps at hp'
    dsimp only at hp'
    have hp' := fun d Q s A n => hp' d Q s A n 0 0
    rw [show p_P (p_tk tp T) 200 0 0 0 = p_all tp T from rfl] at hp'
    have hnm := fun x => p_all_nm (tp := tp) (T := T) (x := x)
    generalize p_all tp T = rr at *
    refine q_X.run sX12_read [] 40 ?_
    simp (maxSteps := 10000000) (disch := omega) only [↓q_run_s, q_stop_n, q_stop_c, q_lg_c, q_ls_d, q_ld_n, q_ld_c, q_cat_i, q_cat_r, q_cat_n, q_wd_n, q_wd_c, q_bx_1, q_bx_2, q_bx_3, q_bx_4, q_bx_5, q_bx_6, q_bx_7, q_bx_8, q_pop_0, q_pop_s, ↓reduceIte, Nat.reduceEqDiff, reduceCtorEq, eq_self, Bool.false_eq_true, Nat.reduceAdd, Nat.reduceSub, Nat.reduceMul, Nat.reduceLeDiff, Nat.reduceLT, Nat.le_refl, Nat.zero_le, true_and, and_true, false_and, and_false, or_false, false_or, true_or, or_true, not_true_eq_false, not_false_eq_true, if_true, if_false, List.getElem?_cons_zero, List.getElem?_cons_succ, List.set_cons_zero, List.set_cons_succ, List.length_cons, List.length_nil, ↓tX12_read_0, ↓tX12_read_1, ↓tX12_read_4, ↓tX12_read_7, ↓tX12_read_8, ↓tX12_read_9, ↓tX12_read_10, ↓tX12_read_11, ↓tX12_read_14, ↓tX12_read_15, ↓tX12_read_16, ↓tX12_read_19, ↓tX12_read_20, ↓tX12_read_21, ↓tX12_read_24, ↓tX12_read_25, ↓tX12_read_28, ↓tX12_read_31, ↓tX12_read_32, ↓tX12_read_35, ↓tX12_read_36, ↓tX12_read_37, ↓tX12_read_40, ↓tX12_read_43, ↓tX12_read_44, ↓tX12_read_47, ↓tX12_read_48, ↓tX12_read_51, ↓tX12_read_54, ↓tX12_read_55, ↓tX12_read_58, ↓tX12_read_59, ↓tX12_read_60, ↓tX12_read_61, ↓tX12_read_64, ↓tX12_read_65, ↓tX12_read_68, ↓tX12_read_71, ↓tX12_read_73, ↓tX12_read_74, ↓tX12_read_77, ↓tX12_read_78, ↓tX12_read_79, ↓tX12_read_80, ↓tX12_read_83, ↓tX12_read_84, ↓tX12_read_85, ↓tX12_read_87, ↓tX12_read_90, ↓tX12_read_93, ↓tX12_read_94, ↓tX12_read_95, ↓tX12_read_96, ↓tX12_read_97, ↓tX12_read_100, ↓tX12_read_101, ↓tX12_read_104, ↓tX12_read_105, ↓tX12_read_106, ↓oAl, ↓oCallS, ↓oCallV, ↓oGet, ↓oIald, ↓oIf1ge, ↓oIf1lt, ↓oIf1ne, ↓oIf2ge, ↓oIf2le, ↓oIl, ↓oIret, ↓oIs, ↓oK, ↓oPutI, ↓oSub, q_set_s, q_set_n, q_md_0, mO_len, q_up_a, mOs_19, mOs_20, mOs_21, mOs_10, mO_20, mO_19, mO_18, mOs_18, mO_8, md_8, mO_7, md_7, z_clamp, z_ltI, z_leI, z_eqI, z_lt0, z_ge0, z_eq0I, z_gt0I, z_le0I, z_m1lt, z_m1ge, z_m1eq, z_m1eq', z_inT, z_add, z_sub, z_mul, z_div, z_rem, n_ltT, n_ltF, n_leT, n_leF, n_eqT, n_eqF, z_11, q_tl_i, q_tl_n, q_ap_n, q_ap_c]
    refine hp' (d - 1) _ _ A 6000 (z0.tape hT) rfl (Nat.zero_le _) rfl rfl (by decide) rfl (by omega) (by omega) (by omega) (fun s1 A1 x w e1 e2 e3 e4 e5 e6 e7 e8 => ?_) (fun s1 A1 w e1 e2 e3 => ?_)
    · have e2 := z0.trans e2 (Nat.le_refl _)
      obtain ⟨e18, -⟩ := e2.tape hT
      by_cases c : rr.1 < T
      · refine q_X.run sX12_read [] 40 ?_
        simp (maxSteps := 10000000) (disch := omega) only [↓q_run_s, q_stop_n, q_stop_c, q_lg_c, q_ls_d, q_ld_n, q_ld_c, q_cat_i, q_cat_r, q_cat_n, q_wd_n, q_wd_c, q_bx_1, q_bx_2, q_bx_3, q_bx_4, q_bx_5, q_bx_6, q_bx_7, q_bx_8, q_pop_0, q_pop_s, ↓reduceIte, Nat.reduceEqDiff, reduceCtorEq, eq_self, Bool.false_eq_true, Nat.reduceAdd, Nat.reduceSub, Nat.reduceMul, Nat.reduceLeDiff, Nat.reduceLT, Nat.le_refl, Nat.zero_le, true_and, and_true, false_and, and_false, or_false, false_or, true_or, or_true, not_true_eq_false, not_false_eq_true, if_true, if_false, List.getElem?_cons_zero, List.getElem?_cons_succ, List.set_cons_zero, List.set_cons_succ, List.length_cons, List.length_nil, ↓tX12_read_0, ↓tX12_read_1, ↓tX12_read_4, ↓tX12_read_7, ↓tX12_read_8, ↓tX12_read_9, ↓tX12_read_10, ↓tX12_read_11, ↓tX12_read_14, ↓tX12_read_15, ↓tX12_read_16, ↓tX12_read_19, ↓tX12_read_20, ↓tX12_read_21, ↓tX12_read_24, ↓tX12_read_25, ↓tX12_read_28, ↓tX12_read_31, ↓tX12_read_32, ↓tX12_read_35, ↓tX12_read_36, ↓tX12_read_37, ↓tX12_read_40, ↓tX12_read_43, ↓tX12_read_44, ↓tX12_read_47, ↓tX12_read_48, ↓tX12_read_51, ↓tX12_read_54, ↓tX12_read_55, ↓tX12_read_58, ↓tX12_read_59, ↓tX12_read_60, ↓tX12_read_61, ↓tX12_read_64, ↓tX12_read_65, ↓tX12_read_68, ↓tX12_read_71, ↓tX12_read_73, ↓tX12_read_74, ↓tX12_read_77, ↓tX12_read_78, ↓tX12_read_79, ↓tX12_read_80, ↓tX12_read_83, ↓tX12_read_84, ↓tX12_read_85, ↓tX12_read_87, ↓tX12_read_90, ↓tX12_read_93, ↓tX12_read_94, ↓tX12_read_95, ↓tX12_read_96, ↓tX12_read_97, ↓tX12_read_100, ↓tX12_read_101, ↓tX12_read_104, ↓tX12_read_105, ↓tX12_read_106, ↓oAl, ↓oCallS, ↓oCallV, ↓oGet, ↓oIald, ↓oIf1ge, ↓oIf1lt, ↓oIf1ne, ↓oIf2ge, ↓oIf2le, ↓oIl, ↓oIret, ↓oIs, ↓oK, ↓oPutI, ↓oSub, q_set_s, q_set_n, q_md_0, mO_len, q_up_a, mOs_19, mOs_20, mOs_21, mOs_10, mO_20, mO_19, mO_18, mOs_18, mO_8, md_8, mO_7, md_7, z_clamp, z_ltI, z_leI, z_eqI, z_lt0, z_ge0, z_eq0I, z_gt0I, z_le0I, z_m1lt, z_m1ge, z_m1eq, z_m1eq', z_inT, z_add, z_sub, z_mul, z_div, z_rem, n_ltT, n_ltF, n_leT, n_leF, n_eqT, n_eqF, z_11, q_tl_i, q_tl_n, q_ap_n, q_ap_c, e4, e3, e18]
        refine c12_wrong e3 (fun g => ?_) (fun g => ?_)
        · rw [e4] at g; exact absurd g (by decide)
        · have h' := hE p (va_up (va_up s1 20 (nI rr.1)) 18 (nI 0)) A1 hp rfl (Or.inr c) ⟨fun k a1 a2 a3 a4 a5 a6 => by rw [va_up_ne _ _ a3, va_up_ne _ _ a5]; exact e2.1 k a1 a4 a5 a6, va_up_self _ _ _, fun f a1 a2 a3 a4 => e2.2.1 f a1, e2.2.2⟩ (e2.2.1 13 (by decide)) (e2.2.1 14 (by decide)) (e2.2.1 15 (by decide))
          refine q_X.run sX12_read [] 40 ?_
          simp (maxSteps := 10000000) (disch := omega) only [↓q_run_s, q_stop_n, q_stop_c, q_lg_c, q_ls_d, q_ld_n, q_ld_c, q_cat_i, q_cat_r, q_cat_n, q_wd_n, q_wd_c, q_bx_1, q_bx_2, q_bx_3, q_bx_4, q_bx_5, q_bx_6, q_bx_7, q_bx_8, q_pop_0, q_pop_s, ↓reduceIte, Nat.reduceEqDiff, reduceCtorEq, eq_self, Bool.false_eq_true, Nat.reduceAdd, Nat.reduceSub, Nat.reduceMul, Nat.reduceLeDiff, Nat.reduceLT, Nat.le_refl, Nat.zero_le, true_and, and_true, false_and, and_false, or_false, false_or, true_or, or_true, not_true_eq_false, not_false_eq_true, if_true, if_false, List.getElem?_cons_zero, List.getElem?_cons_succ, List.set_cons_zero, List.set_cons_succ, List.length_cons, List.length_nil, ↓tX12_read_0, ↓tX12_read_1, ↓tX12_read_4, ↓tX12_read_7, ↓tX12_read_8, ↓tX12_read_9, ↓tX12_read_10, ↓tX12_read_11, ↓tX12_read_14, ↓tX12_read_15, ↓tX12_read_16, ↓tX12_read_19, ↓tX12_read_20, ↓tX12_read_21, ↓tX12_read_24, ↓tX12_read_25, ↓tX12_read_28, ↓tX12_read_31, ↓tX12_read_32, ↓tX12_read_35, ↓tX12_read_36, ↓tX12_read_37, ↓tX12_read_40, ↓tX12_read_43, ↓tX12_read_44, ↓tX12_read_47, ↓tX12_read_48, ↓tX12_read_51, ↓tX12_read_54, ↓tX12_read_55, ↓tX12_read_58, ↓tX12_read_59, ↓tX12_read_60, ↓tX12_read_61, ↓tX12_read_64, ↓tX12_read_65, ↓tX12_read_68, ↓tX12_read_71, ↓tX12_read_73, ↓tX12_read_74, ↓tX12_read_77, ↓tX12_read_78, ↓tX12_read_79, ↓tX12_read_80, ↓tX12_read_83, ↓tX12_read_84, ↓tX12_read_85, ↓tX12_read_87, ↓tX12_read_90, ↓tX12_read_93, ↓tX12_read_94, ↓tX12_read_95, ↓tX12_read_96, ↓tX12_read_97, ↓tX12_read_100, ↓tX12_read_101, ↓tX12_read_104, ↓tX12_read_105, ↓tX12_read_106, ↓oAl, ↓oCallS, ↓oCallV, ↓oGet, ↓oIald, ↓oIf1ge, ↓oIf1lt, ↓oIf1ne, ↓oIf2ge, ↓oIf2le, ↓oIl, ↓oIret, ↓oIs, ↓oK, ↓oPutI, ↓oSub, q_set_s, q_set_n, q_md_0, mO_len, q_up_a, mOs_19, mOs_20, mOs_21, mOs_10, mO_20, mO_19, mO_18, mOs_18, mO_8, md_8, mO_7, md_7, z_clamp, z_ltI, z_leI, z_eqI, z_lt0, z_ge0, z_eq0I, z_gt0I, z_le0I, z_m1lt, z_m1ge, z_m1eq, z_m1eq', z_inT, z_add, z_sub, z_mul, z_div, z_rem, n_ltT, n_ltF, n_leT, n_leF, n_eqT, n_eqF, z_11, q_tl_i, q_tl_n, q_ap_n, q_ap_c, e4, e3, e18]
          exact h'
      · have eT : rr.1 = T := by omega
        obtain ⟨-, -, hw, h3, h4, h5, h6, h7, h8, h9⟩ := t_mr_n e7
        have hl := t_mr_lt e7
        have fr : m_Rd s A (va_up s1 18 (nI 0)) A1 := ⟨fun k a1 a2 a3 a4 a5 a6 => by rw [va_up_ne _ _ a3]; exact e2.1 k a1 a4 a5 a6, va_up_self _ _ _, fun f a1 a2 a3 a4 => e2.2.1 f a1, e2.2.2⟩
        by_cases c12 : t_nodes x ≤ 12
        · refine q_X.run sX12_read [] 60 ?_
          simp (maxSteps := 10000000) (disch := omega) only [↓q_run_s, q_stop_n, q_stop_c, q_lg_c, q_ls_d, q_ld_n, q_ld_c, q_cat_i, q_cat_r, q_cat_n, q_wd_n, q_wd_c, q_bx_1, q_bx_2, q_bx_3, q_bx_4, q_bx_5, q_bx_6, q_bx_7, q_bx_8, q_pop_0, q_pop_s, ↓reduceIte, Nat.reduceEqDiff, reduceCtorEq, eq_self, Bool.false_eq_true, Nat.reduceAdd, Nat.reduceSub, Nat.reduceMul, Nat.reduceLeDiff, Nat.reduceLT, Nat.le_refl, Nat.zero_le, true_and, and_true, false_and, and_false, or_false, false_or, true_or, or_true, not_true_eq_false, not_false_eq_true, if_true, if_false, List.getElem?_cons_zero, List.getElem?_cons_succ, List.set_cons_zero, List.set_cons_succ, List.length_cons, List.length_nil, ↓tX12_read_0, ↓tX12_read_1, ↓tX12_read_4, ↓tX12_read_7, ↓tX12_read_8, ↓tX12_read_9, ↓tX12_read_10, ↓tX12_read_11, ↓tX12_read_14, ↓tX12_read_15, ↓tX12_read_16, ↓tX12_read_19, ↓tX12_read_20, ↓tX12_read_21, ↓tX12_read_24, ↓tX12_read_25, ↓tX12_read_28, ↓tX12_read_31, ↓tX12_read_32, ↓tX12_read_35, ↓tX12_read_36, ↓tX12_read_37, ↓tX12_read_40, ↓tX12_read_43, ↓tX12_read_44, ↓tX12_read_47, ↓tX12_read_48, ↓tX12_read_51, ↓tX12_read_54, ↓tX12_read_55, ↓tX12_read_58, ↓tX12_read_59, ↓tX12_read_60, ↓tX12_read_61, ↓tX12_read_64, ↓tX12_read_65, ↓tX12_read_68, ↓tX12_read_71, ↓tX12_read_73, ↓tX12_read_74, ↓tX12_read_77, ↓tX12_read_78, ↓tX12_read_79, ↓tX12_read_80, ↓tX12_read_83, ↓tX12_read_84, ↓tX12_read_85, ↓tX12_read_87, ↓tX12_read_90, ↓tX12_read_93, ↓tX12_read_94, ↓tX12_read_95, ↓tX12_read_96, ↓tX12_read_97, ↓tX12_read_100, ↓tX12_read_101, ↓tX12_read_104, ↓tX12_read_105, ↓tX12_read_106, ↓oAl, ↓oCallS, ↓oCallV, ↓oGet, ↓oIald, ↓oIf1ge, ↓oIf1lt, ↓oIf1ne, ↓oIf2ge, ↓oIf2le, ↓oIl, ↓oIret, ↓oIs, ↓oK, ↓oPutI, ↓oSub, q_set_s, q_set_n, q_md_0, mO_len, q_up_a, mOs_19, mOs_20, mOs_21, mOs_10, mO_20, mO_19, mO_18, mOs_18, mO_8, md_8, mO_7, md_7, z_clamp, z_ltI, z_leI, z_eqI, z_lt0, z_ge0, z_eq0I, z_gt0I, z_le0I, z_m1lt, z_m1ge, z_m1eq, z_m1eq', z_inT, z_add, z_sub, z_mul, z_div, z_rem, n_ltT, n_ltF, n_leT, n_leF, n_eqT, n_eqF, z_11, q_tl_i, q_tl_n, q_ap_n, q_ap_c, e4, e3, e18, h8]
          refine c12_put hp e7 c12 (by omega) fun s2 A2 hu => ?_
          have h7' : A2 7 w = nI (t_cost x) := by rw [hu.2.1 7 (by decide) (by decide) (by decide)]; exact h7
          have h' := hS p x (va_up s1 18 (nI 0)) A1 s2 A2 hp rfl e1 eT c12 ⟨fun k a1 a2 a3 a4 a5 a6 => by rw [hu.1 k a2]; exact fr.1 k a1 a2 a3 a4 a5 a6, by rw [hu.1 18 (by decide)]; exact va_up_self _ _ _, fun f a1 a2 a3 a4 => by rw [hu.2.1 f a2 a3 a4]; exact fr.2.2.1 f a1 a2 a3 a4, fun f a1 a2 j hj => by rw [hu.2.1 f (by omega) (by omega) (by omega)]; exact fr.2.2.2 f a1 a2 j hj⟩ hu (e2.2.1 13 (by decide)) (e2.2.1 14 (by decide)) (e2.2.1 15 (by decide))
          refine q_X.run sX12_read [] 60 ?_
          simp (maxSteps := 10000000) (disch := omega) only [↓q_run_s, q_stop_n, q_stop_c, q_lg_c, q_ls_d, q_ld_n, q_ld_c, q_cat_i, q_cat_r, q_cat_n, q_wd_n, q_wd_c, q_bx_1, q_bx_2, q_bx_3, q_bx_4, q_bx_5, q_bx_6, q_bx_7, q_bx_8, q_pop_0, q_pop_s, ↓reduceIte, Nat.reduceEqDiff, reduceCtorEq, eq_self, Bool.false_eq_true, Nat.reduceAdd, Nat.reduceSub, Nat.reduceMul, Nat.reduceLeDiff, Nat.reduceLT, Nat.le_refl, Nat.zero_le, true_and, and_true, false_and, and_false, or_false, false_or, true_or, or_true, not_true_eq_false, not_false_eq_true, if_true, if_false, List.getElem?_cons_zero, List.getElem?_cons_succ, List.set_cons_zero, List.set_cons_succ, List.length_cons, List.length_nil, ↓tX12_read_0, ↓tX12_read_1, ↓tX12_read_4, ↓tX12_read_7, ↓tX12_read_8, ↓tX12_read_9, ↓tX12_read_10, ↓tX12_read_11, ↓tX12_read_14, ↓tX12_read_15, ↓tX12_read_16, ↓tX12_read_19, ↓tX12_read_20, ↓tX12_read_21, ↓tX12_read_24, ↓tX12_read_25, ↓tX12_read_28, ↓tX12_read_31, ↓tX12_read_32, ↓tX12_read_35, ↓tX12_read_36, ↓tX12_read_37, ↓tX12_read_40, ↓tX12_read_43, ↓tX12_read_44, ↓tX12_read_47, ↓tX12_read_48, ↓tX12_read_51, ↓tX12_read_54, ↓tX12_read_55, ↓tX12_read_58, ↓tX12_read_59, ↓tX12_read_60, ↓tX12_read_61, ↓tX12_read_64, ↓tX12_read_65, ↓tX12_read_68, ↓tX12_read_71, ↓tX12_read_73, ↓tX12_read_74, ↓tX12_read_77, ↓tX12_read_78, ↓tX12_read_79, ↓tX12_read_80, ↓tX12_read_83, ↓tX12_read_84, ↓tX12_read_85, ↓tX12_read_87, ↓tX12_read_90, ↓tX12_read_93, ↓tX12_read_94, ↓tX12_read_95, ↓tX12_read_96, ↓tX12_read_97, ↓tX12_read_100, ↓tX12_read_101, ↓tX12_read_104, ↓tX12_read_105, ↓tX12_read_106, ↓oAl, ↓oCallS, ↓oCallV, ↓oGet, ↓oIald, ↓oIf1ge, ↓oIf1lt, ↓oIf1ne, ↓oIf2ge, ↓oIf2le, ↓oIl, ↓oIret, ↓oIs, ↓oK, ↓oPutI, ↓oSub, q_set_s, q_set_n, q_md_0, mO_len, q_up_a, mOs_19, mOs_20, mOs_21, mOs_10, mO_20, mO_19, mO_18, mOs_18, mO_8, md_8, mO_7, md_7, z_clamp, z_ltI, z_leI, z_eqI, z_lt0, z_ge0, z_eq0I, z_gt0I, z_le0I, z_m1lt, z_m1ge, z_m1eq, z_m1eq', z_inT, z_add, z_sub, z_mul, z_div, z_rem, n_ltT, n_ltF, n_leT, n_leF, n_eqT, n_eqF, z_11, q_tl_i, q_tl_n, q_ap_n, q_ap_c, h7']
          exact h'
        · have h' := hM p x _ A1 hp rfl e1 eT (by omega) fr (e2.2.1 13 (by decide)) (e2.2.1 14 (by decide)) (e2.2.1 15 (by decide))
          have hnd : t_nodes x < 2147483648 := by have := hnm x e1; omega
          refine q_X.run sX12_read [] 60 ?_
          simp (maxSteps := 10000000) (disch := omega) only [↓q_run_s, q_stop_n, q_stop_c, q_lg_c, q_ls_d, q_ld_n, q_ld_c, q_cat_i, q_cat_r, q_cat_n, q_wd_n, q_wd_c, q_bx_1, q_bx_2, q_bx_3, q_bx_4, q_bx_5, q_bx_6, q_bx_7, q_bx_8, q_pop_0, q_pop_s, ↓reduceIte, Nat.reduceEqDiff, reduceCtorEq, eq_self, Bool.false_eq_true, Nat.reduceAdd, Nat.reduceSub, Nat.reduceMul, Nat.reduceLeDiff, Nat.reduceLT, Nat.le_refl, Nat.zero_le, true_and, and_true, false_and, and_false, or_false, false_or, true_or, or_true, not_true_eq_false, not_false_eq_true, if_true, if_false, List.getElem?_cons_zero, List.getElem?_cons_succ, List.set_cons_zero, List.set_cons_succ, List.length_cons, List.length_nil, ↓tX12_read_0, ↓tX12_read_1, ↓tX12_read_4, ↓tX12_read_7, ↓tX12_read_8, ↓tX12_read_9, ↓tX12_read_10, ↓tX12_read_11, ↓tX12_read_14, ↓tX12_read_15, ↓tX12_read_16, ↓tX12_read_19, ↓tX12_read_20, ↓tX12_read_21, ↓tX12_read_24, ↓tX12_read_25, ↓tX12_read_28, ↓tX12_read_31, ↓tX12_read_32, ↓tX12_read_35, ↓tX12_read_36, ↓tX12_read_37, ↓tX12_read_40, ↓tX12_read_43, ↓tX12_read_44, ↓tX12_read_47, ↓tX12_read_48, ↓tX12_read_51, ↓tX12_read_54, ↓tX12_read_55, ↓tX12_read_58, ↓tX12_read_59, ↓tX12_read_60, ↓tX12_read_61, ↓tX12_read_64, ↓tX12_read_65, ↓tX12_read_68, ↓tX12_read_71, ↓tX12_read_73, ↓tX12_read_74, ↓tX12_read_77, ↓tX12_read_78, ↓tX12_read_79, ↓tX12_read_80, ↓tX12_read_83, ↓tX12_read_84, ↓tX12_read_85, ↓tX12_read_87, ↓tX12_read_90, ↓tX12_read_93, ↓tX12_read_94, ↓tX12_read_95, ↓tX12_read_96, ↓tX12_read_97, ↓tX12_read_100, ↓tX12_read_101, ↓tX12_read_104, ↓tX12_read_105, ↓tX12_read_106, ↓oAl, ↓oCallS, ↓oCallV, ↓oGet, ↓oIald, ↓oIf1ge, ↓oIf1lt, ↓oIf1ne, ↓oIf2ge, ↓oIf2le, ↓oIl, ↓oIret, ↓oIs, ↓oK, ↓oPutI, ↓oSub, q_set_s, q_set_n, q_md_0, mO_len, q_up_a, mOs_19, mOs_20, mOs_21, mOs_10, mO_20, mO_19, mO_18, mOs_18, mO_8, md_8, mO_7, md_7, z_clamp, z_ltI, z_leI, z_eqI, z_lt0, z_ge0, z_eq0I, z_gt0I, z_le0I, z_m1lt, z_m1ge, z_m1eq, z_m1eq', z_inT, z_add, z_sub, z_mul, z_div, z_rem, n_ltT, n_ltF, n_leT, n_leF, n_eqT, n_eqF, z_11, q_tl_i, q_tl_n, q_ap_n, q_ap_c, e4, e3, e18, h8]
          exact h'
    · have e2 := z0.trans e2 (Nat.le_refl _)
      obtain ⟨e18, -⟩ := e2.tape hT
      have h' := hE p (va_up s1 18 (nI 0)) A1 hp rfl (Or.inl e1) ⟨fun k a1 a2 a3 a4 a5 a6 => by rw [va_up_ne _ _ a3]; exact e2.1 k a1 a4 a5 a6, va_up_self _ _ _, fun f a1 a2 a3 a4 => e2.2.1 f a1, e2.2.2⟩ (e2.2.1 13 (by decide)) (e2.2.1 14 (by decide)) (e2.2.1 15 (by decide))
      refine q_X.run sX12_read [] 40 ?_
      simp (maxSteps := 10000000) (disch := omega) only [↓q_run_s, q_stop_n, q_stop_c, q_lg_c, q_ls_d, q_ld_n, q_ld_c, q_cat_i, q_cat_r, q_cat_n, q_wd_n, q_wd_c, q_bx_1, q_bx_2, q_bx_3, q_bx_4, q_bx_5, q_bx_6, q_bx_7, q_bx_8, q_pop_0, q_pop_s, ↓reduceIte, Nat.reduceEqDiff, reduceCtorEq, eq_self, Bool.false_eq_true, Nat.reduceAdd, Nat.reduceSub, Nat.reduceMul, Nat.reduceLeDiff, Nat.reduceLT, Nat.le_refl, Nat.zero_le, true_and, and_true, false_and, and_false, or_false, false_or, true_or, or_true, not_true_eq_false, not_false_eq_true, if_true, if_false, List.getElem?_cons_zero, List.getElem?_cons_succ, List.set_cons_zero, List.set_cons_succ, List.length_cons, List.length_nil, ↓tX12_read_0, ↓tX12_read_1, ↓tX12_read_4, ↓tX12_read_7, ↓tX12_read_8, ↓tX12_read_9, ↓tX12_read_10, ↓tX12_read_11, ↓tX12_read_14, ↓tX12_read_15, ↓tX12_read_16, ↓tX12_read_19, ↓tX12_read_20, ↓tX12_read_21, ↓tX12_read_24, ↓tX12_read_25, ↓tX12_read_28, ↓tX12_read_31, ↓tX12_read_32, ↓tX12_read_35, ↓tX12_read_36, ↓tX12_read_37, ↓tX12_read_40, ↓tX12_read_43, ↓tX12_read_44, ↓tX12_read_47, ↓tX12_read_48, ↓tX12_read_51, ↓tX12_read_54, ↓tX12_read_55, ↓tX12_read_58, ↓tX12_read_59, ↓tX12_read_60, ↓tX12_read_61, ↓tX12_read_64, ↓tX12_read_65, ↓tX12_read_68, ↓tX12_read_71, ↓tX12_read_73, ↓tX12_read_74, ↓tX12_read_77, ↓tX12_read_78, ↓tX12_read_79, ↓tX12_read_80, ↓tX12_read_83, ↓tX12_read_84, ↓tX12_read_85, ↓tX12_read_87, ↓tX12_read_90, ↓tX12_read_93, ↓tX12_read_94, ↓tX12_read_95, ↓tX12_read_96, ↓tX12_read_97, ↓tX12_read_100, ↓tX12_read_101, ↓tX12_read_104, ↓tX12_read_105, ↓tX12_read_106, ↓oAl, ↓oCallS, ↓oCallV, ↓oGet, ↓oIald, ↓oIf1ge, ↓oIf1lt, ↓oIf1ne, ↓oIf2ge, ↓oIf2le, ↓oIl, ↓oIret, ↓oIs, ↓oK, ↓oPutI, ↓oSub, q_set_s, q_set_n, q_md_0, mO_len, q_up_a, mOs_19, mOs_20, mOs_21, mOs_10, mO_20, mO_19, mO_18, mOs_18, mO_8, md_8, mO_7, md_7, z_clamp, z_ltI, z_leI, z_eqI, z_lt0, z_ge0, z_eq0I, z_gt0I, z_le0I, z_m1lt, z_m1ge, z_m1eq, z_m1eq', z_inT, z_add, z_sub, z_mul, z_div, z_rem, n_ltT, n_ltF, n_leT, n_leF, n_eqT, n_eqF, z_11, q_tl_i, q_tl_n, q_ap_n, q_ap_c, e3]
      exact h'
  · have h' := hF fun p hp e => by
      subst e
      exact absurd ⟨nI_pos' (by omega), nI_le (by omega) (by omega)⟩ g
    refine q_X.run sX12_read [] 20 ?_
    simp (maxSteps := 10000000) (disch := omega) only [↓q_run_s, q_stop_n, q_stop_c, q_lg_c, q_ls_d, q_ld_n, q_ld_c, q_cat_i, q_cat_r, q_cat_n, q_wd_n, q_wd_c, q_bx_1, q_bx_2, q_bx_3, q_bx_4, q_bx_5, q_bx_6, q_bx_7, q_bx_8, q_pop_0, q_pop_s, ↓reduceIte, Nat.reduceEqDiff, reduceCtorEq, eq_self, Bool.false_eq_true, Nat.reduceAdd, Nat.reduceSub, Nat.reduceMul, Nat.reduceLeDiff, Nat.reduceLT, Nat.le_refl, Nat.zero_le, true_and, and_true, false_and, and_false, or_false, false_or, true_or, or_true, not_true_eq_false, not_false_eq_true, if_true, if_false, List.getElem?_cons_zero, List.getElem?_cons_succ, List.set_cons_zero, List.set_cons_succ, List.length_cons, List.length_nil, ↓tX12_read_0, ↓tX12_read_1, ↓tX12_read_4, ↓tX12_read_7, ↓tX12_read_8, ↓tX12_read_9, ↓tX12_read_10, ↓tX12_read_11, ↓tX12_read_14, ↓tX12_read_15, ↓tX12_read_16, ↓tX12_read_19, ↓tX12_read_20, ↓tX12_read_21, ↓tX12_read_24, ↓tX12_read_25, ↓tX12_read_28, ↓tX12_read_31, ↓tX12_read_32, ↓tX12_read_35, ↓tX12_read_36, ↓tX12_read_37, ↓tX12_read_40, ↓tX12_read_43, ↓tX12_read_44, ↓tX12_read_47, ↓tX12_read_48, ↓tX12_read_51, ↓tX12_read_54, ↓tX12_read_55, ↓tX12_read_58, ↓tX12_read_59, ↓tX12_read_60, ↓tX12_read_61, ↓tX12_read_64, ↓tX12_read_65, ↓tX12_read_68, ↓tX12_read_71, ↓tX12_read_73, ↓tX12_read_74, ↓tX12_read_77, ↓tX12_read_78, ↓tX12_read_79, ↓tX12_read_80, ↓tX12_read_83, ↓tX12_read_84, ↓tX12_read_85, ↓tX12_read_87, ↓tX12_read_90, ↓tX12_read_93, ↓tX12_read_94, ↓tX12_read_95, ↓tX12_read_96, ↓tX12_read_97, ↓tX12_read_100, ↓tX12_read_101, ↓tX12_read_104, ↓tX12_read_105, ↓tX12_read_106, ↓oAl, ↓oCallS, ↓oCallV, ↓oGet, ↓oIald, ↓oIf1ge, ↓oIf1lt, ↓oIf1ne, ↓oIf2ge, ↓oIf2le, ↓oIl, ↓oIret, ↓oIs, ↓oK, ↓oPutI, ↓oSub, q_set_s, q_set_n, q_md_0, mO_len, q_up_a, mOs_19, mOs_20, mOs_21, mOs_10, mO_20, mO_19, mO_18, mOs_18, mO_8, md_8, mO_7, md_7, z_clamp, z_ltI, z_leI, z_eqI, z_lt0, z_ge0, z_eq0I, z_gt0I, z_le0I, z_m1lt, z_m1ge, z_m1eq, z_m1eq', z_inT, z_add, z_sub, z_mul, z_div, z_rem, n_ltT, n_ltF, n_leT, n_leF, n_eqT, n_eqF, z_11, q_tl_i, q_tl_n, q_ap_n, q_ap_c]
    exact h'
end
