/-! the automaton run over a row -/
theorem g_ok_ex : ∀ (t : qT) (a : Nat), ∃ acc : Nat → Nat, g_ok acc t a
  | .num v, a => ⟨fun _ => 2 ^ v.toNat, rfl⟩
  | .var s, a => ⟨fun _ => s, rfl⟩
  | .add x y, a => by
    obtain ⟨f, hf⟩ := g_ok_ex x a
    obtain ⟨g, hg⟩ := g_ok_ex y (a + g_n x)
    exact ⟨fun q => if q < a + g_n x then f q else g q, g_ok_fr x a (fun q h1 h2 => if_pos h2) hf, g_ok_fr y _ (fun q h1 h2 => if_neg (by omega)) hg⟩
  | .sub x y, a => by
    obtain ⟨f, hf⟩ := g_ok_ex x a
    obtain ⟨g, hg⟩ := g_ok_ex y (a + g_n x)
    exact ⟨fun q => if q < a + g_n x then f q else g q, g_ok_fr x a (fun q h1 h2 => if_pos h2) hf, g_ok_fr y _ (fun q h1 h2 => if_neg (by omega)) hg⟩
  | .neg x, a => g_ok_ex x a
  | .mulL _ x, a => g_ok_ex x a
  | .mulR x _, a => g_ok_ex x a
theorem u_step_in {t : qT} {acc : Nat → Nat} {S c : Nat} : u_step (g_f t 0) (g_w t 0) acc S c < 2 ^ g_n t := g_lt fun j hj => by
  obtain ⟨-, h | ⟨q, -, -, h⟩, -⟩ := u_step_bit.mp hj
  · have := (g_f_rng t 0 j h.2).2
    omega
  · have := (g_w_rng t 0 q j h).2.2
    omega
/-- the longest part that begins at b and is fit, of those that end at m at most -/
def t_Lg (R : Nat → Prop) (m : Nat) : Option Nat → Prop
  | none => ∀ e, e ≤ m → ¬ R e
  | some e => R e ∧ e ≤ m ∧ ∀ e', e < e' → e' ≤ m → ¬ R e'
section
variable {G : qC} {L : Launch} {d : Nat} {Q : Option Value → qM → Prop} {M0 : qM} {i : Nat} {s : Nat → Int32} {A : Nat → Nat → Int32}
set_option maxRecDepth 100000 in
set_option maxHeartbeats 8000000 in
theorem c0_longestFit {t : qT} {N n b : Nat} (hR : au_R s A t) (h12 : t_nodes t ≤ 12) (hN : N < 2147483648) (hn : n ≤ 12) (hb : b ≤ n) (hd : 1 ≤ d) (hQ : ∀ o, t_Lg (fun e => t_Sp (w_at N n) n t b e) n o → Q (some (.int (q_oi o))) (q_au M0 i s A)) : q_Call G L d mX0_longestFit 0 0 [.ref i, .int (nI N), .int (nI n), .int (nI b)] (q_au M0 i s A) Q := by
  obtain ⟨h7, h8, hst⟩ := hR
  obtain ⟨acc, hacc⟩ := g_ok_ex t 0
  have hst := hst acc hacc
  have hgn := g_n_le t
  have hpn : 2 ^ g_n t ≤ 64 := Nat.pow_le_pow_right (n := 2) (j := 6) (by decide) (by omega)
  have hgl := g_l64 (t := t) (a := 0) (by omega)
  have hw3 : ∀ x, w_at N n x < 3 := fun x => w_at_lt N n x
  have loop : ∀ (g m S : Nat) (o : Option Nat), g + m = n → b ≤ m → ((m = b ∧ S = 64) ∨ (b < m ∧ S < 2 ^ g_n t ∧ g_at (w_at N n) n t b m S)) → t_Lg (fun e => t_Sp (w_at N n) n t b e) m o → ∀ lv : qLv, q_sub [(0, .ref i), (1, .int (nI N)), (2, .int (nI n)), (4, .int (nI S)), (5, .int (q_oi o)), (6, .int (nI m))] lv → q_X G L d mX0_longestFit 0 0 Q 21 lv [] (q_au M0 i s A) 0 0 := by
    intro g
    induction g with
    | zero =>
      intro m S o hm hbm hS ho lv hlv
      refine q_X.lv2 _ hlv ?_
      have e : m = n := by omega
      subst e
      refine q_X.run sX0_longestFit [] 20 ?_
      simp (maxSteps := 10000000) (disch := omega) only [↓q_run_s, q_stop_n, q_stop_c, q_lg_c, q_ls_d, q_ld_n, q_ld_c, q_cat_i, q_cat_r, q_cat_n, q_wd_n, q_wd_c, q_bx_1, q_bx_2, q_bx_3, q_bx_4, q_bx_5, q_bx_6, q_bx_7, q_bx_8, q_pop_0, q_pop_s, ↓reduceIte, Nat.reduceEqDiff, reduceCtorEq, eq_self, Bool.false_eq_true, Nat.reduceAdd, Nat.reduceSub, Nat.reduceMul, Nat.reduceLeDiff, Nat.reduceLT, Nat.le_refl, Nat.zero_le, true_and, and_true, false_and, and_false, or_false, false_or, true_or, or_true, not_true_eq_false, not_false_eq_true, if_true, if_false, List.getElem?_cons_zero, List.getElem?_cons_succ, List.set_cons_zero, List.set_cons_succ, List.length_cons, List.length_nil, ↓tX0_longestFit_0, ↓tX0_longestFit_2, ↓tX0_longestFit_4, ↓tX0_longestFit_5, ↓tX0_longestFit_8, ↓tX0_longestFit_11, ↓tX0_longestFit_12, ↓tX0_longestFit_15, ↓tX0_longestFit_16, ↓tX0_longestFit_18, ↓tX0_longestFit_19, ↓tX0_longestFit_21, ↓tX0_longestFit_23, ↓tX0_longestFit_24, ↓tX0_longestFit_27, ↓tX0_longestFit_28, ↓tX0_longestFit_30, ↓tX0_longestFit_31, ↓tX0_longestFit_32, ↓tX0_longestFit_34, ↓tX0_longestFit_37, ↓tX0_longestFit_40, ↓tX0_longestFit_42, ↓tX0_longestFit_43, ↓tX0_longestFit_45, ↓tX0_longestFit_48, ↓tX0_longestFit_51, ↓tX0_longestFit_53, ↓tX0_longestFit_54, ↓tX0_longestFit_55, ↓tX0_longestFit_57, ↓tX0_longestFit_60, ↓tX0_longestFit_63, ↓tX0_longestFit_65, ↓oAdd, ↓oAl, ↓oCallS, ↓oCallV, ↓oGet, ↓oGo, ↓oIf1eq, ↓oIf2ge, ↓oIl, ↓oInc, ↓oIret, ↓oIs, ↓oK, q_set_s, q_set_n, au_0, auO_len, q_up_a, auO_8, z_clamp, z_ltI, z_leI, z_eqI, z_lt0, z_ge0, z_eq0I, z_gt0I, z_le0I, z_m1lt, z_m1ge, z_m1eq, z_m1eq', z_inT, z_add, z_sub, z_mul, z_div, z_rem, n_ltT, n_ltF, n_leT, n_leF, n_eqT, n_eqF, q_tl_i, q_tl_n, q_ap_n, q_ap_c]
      exact hQ o ho
    | succ g ih =>
      intro m S o hm hbm hS ho lv hlv
      refine q_X.lv2 _ hlv ?_
      have hw := hw3 m
      obtain ⟨S', hS', hA', hat⟩ : ∃ S', S' < 2 ^ g_n t ∧ A 5 (S * 3 + w_at N n m) = nI S' ∧ g_at (w_at N n) n t b (m + 1) S' := by
        refine ⟨_, u_step_in (acc := acc) (S := if S = 64 then 128 else S) (c := w_at N n m), ?_, ?_⟩
        · rcases hS with ⟨-, rfl⟩ | ⟨-, h, -⟩
          · exact (hst _ hw).1
          · rw [if_neg (by omega)]
            exact (hst _ hw).2 S h
        · rcases hS with ⟨rfl, rfl⟩ | ⟨-, h, hg⟩
          · refine g_at_1 hacc (by omega) fun q => ?_
            rw [if_pos rfl, u_step_bit]
            constructor
            · rintro ⟨h1, h2 | ⟨q', h2, h3, -⟩, h4⟩
              · exact ⟨h2.2, h4⟩
              · have : ∀ q', q' < 7 → (128 : Nat).testBit q' = false := by decide
                rw [this q' h2] at h3
                exact absurd h3 (by decide)
            · rintro ⟨h1, h2⟩
              have := g_f_rng t 0 q h1
              exact ⟨by omega, Or.inl ⟨by decide, h1⟩, h2⟩
          · refine g_at_s hacc (by omega) hg fun q => ?_
            rw [if_neg (by omega), u_step_bit]
            constructor
            · rintro ⟨h1, h2 | ⟨q', h2, h3, h5⟩, h4⟩
              · have := g_S_lt h h2.1
                omega
              · exact ⟨⟨q', h3, h5⟩, h4⟩
            · rintro ⟨⟨q', h3, h5⟩, h4⟩
              have r1 := g_w_rng t 0 q' q h5
              exact ⟨by omega, Or.inr ⟨q', by omega, h3, h5⟩, h4⟩
      have hS65 : S < 65 := by
        rcases hS with ⟨-, rfl⟩ | ⟨-, h, -⟩
        · decide
        · omega
      have hend := g_at_e hacc (by omega) hat
      refine q_X.run sX0_longestFit [] 20 ?_
      simp (maxSteps := 10000000) (disch := omega) only [↓q_run_s, q_stop_n, q_stop_c, q_lg_c, q_ls_d, q_ld_n, q_ld_c, q_cat_i, q_cat_r, q_cat_n, q_wd_n, q_wd_c, q_bx_1, q_bx_2, q_bx_3, q_bx_4, q_bx_5, q_bx_6, q_bx_7, q_bx_8, q_pop_0, q_pop_s, ↓reduceIte, Nat.reduceEqDiff, reduceCtorEq, eq_self, Bool.false_eq_true, Nat.reduceAdd, Nat.reduceSub, Nat.reduceMul, Nat.reduceLeDiff, Nat.reduceLT, Nat.le_refl, Nat.zero_le, true_and, and_true, false_and, and_false, or_false, false_or, true_or, or_true, not_true_eq_false, not_false_eq_true, if_true, if_false, List.getElem?_cons_zero, List.getElem?_cons_succ, List.set_cons_zero, List.set_cons_succ, List.length_cons, List.length_nil, ↓tX0_longestFit_0, ↓tX0_longestFit_2, ↓tX0_longestFit_4, ↓tX0_longestFit_5, ↓tX0_longestFit_8, ↓tX0_longestFit_11, ↓tX0_longestFit_12, ↓tX0_longestFit_15, ↓tX0_longestFit_16, ↓tX0_longestFit_18, ↓tX0_longestFit_19, ↓tX0_longestFit_21, ↓tX0_longestFit_23, ↓tX0_longestFit_24, ↓tX0_longestFit_27, ↓tX0_longestFit_28, ↓tX0_longestFit_30, ↓tX0_longestFit_31, ↓tX0_longestFit_32, ↓tX0_longestFit_34, ↓tX0_longestFit_37, ↓tX0_longestFit_40, ↓tX0_longestFit_42, ↓tX0_longestFit_43, ↓tX0_longestFit_45, ↓tX0_longestFit_48, ↓tX0_longestFit_51, ↓tX0_longestFit_53, ↓tX0_longestFit_54, ↓tX0_longestFit_55, ↓tX0_longestFit_57, ↓tX0_longestFit_60, ↓tX0_longestFit_63, ↓tX0_longestFit_65, ↓oAdd, ↓oAl, ↓oCallS, ↓oCallV, ↓oGet, ↓oGo, ↓oIf1eq, ↓oIf2ge, ↓oIl, ↓oInc, ↓oIret, ↓oIs, ↓oK, q_set_s, q_set_n, au_0, auO_len, q_up_a, auO_8, z_clamp, z_ltI, z_leI, z_eqI, z_lt0, z_ge0, z_eq0I, z_gt0I, z_le0I, z_m1lt, z_m1ge, z_m1eq, z_m1eq', z_inT, z_add, z_sub, z_mul, z_div, z_rem, n_ltT, n_ltF, n_leT, n_leF, n_eqT, n_eqF, q_tl_i, q_tl_n, q_ap_n, q_ap_c]
      refine c11_letterAt hN hn (by omega) ?_
      refine q_X.run sX0_longestFit [] 20 ?_
      simp (maxSteps := 10000000) (disch := omega) only [↓q_run_s, q_stop_n, q_stop_c, q_lg_c, q_ls_d, q_ld_n, q_ld_c, q_cat_i, q_cat_r, q_cat_n, q_wd_n, q_wd_c, q_bx_1, q_bx_2, q_bx_3, q_bx_4, q_bx_5, q_bx_6, q_bx_7, q_bx_8, q_pop_0, q_pop_s, ↓reduceIte, Nat.reduceEqDiff, reduceCtorEq, eq_self, Bool.false_eq_true, Nat.reduceAdd, Nat.reduceSub, Nat.reduceMul, Nat.reduceLeDiff, Nat.reduceLT, Nat.le_refl, Nat.zero_le, true_and, and_true, false_and, and_false, or_false, false_or, true_or, or_true, not_true_eq_false, not_false_eq_true, if_true, if_false, List.getElem?_cons_zero, List.getElem?_cons_succ, List.set_cons_zero, List.set_cons_succ, List.length_cons, List.length_nil, ↓tX0_longestFit_0, ↓tX0_longestFit_2, ↓tX0_longestFit_4, ↓tX0_longestFit_5, ↓tX0_longestFit_8, ↓tX0_longestFit_11, ↓tX0_longestFit_12, ↓tX0_longestFit_15, ↓tX0_longestFit_16, ↓tX0_longestFit_18, ↓tX0_longestFit_19, ↓tX0_longestFit_21, ↓tX0_longestFit_23, ↓tX0_longestFit_24, ↓tX0_longestFit_27, ↓tX0_longestFit_28, ↓tX0_longestFit_30, ↓tX0_longestFit_31, ↓tX0_longestFit_32, ↓tX0_longestFit_34, ↓tX0_longestFit_37, ↓tX0_longestFit_40, ↓tX0_longestFit_42, ↓tX0_longestFit_43, ↓tX0_longestFit_45, ↓tX0_longestFit_48, ↓tX0_longestFit_51, ↓tX0_longestFit_53, ↓tX0_longestFit_54, ↓tX0_longestFit_55, ↓tX0_longestFit_57, ↓tX0_longestFit_60, ↓tX0_longestFit_63, ↓tX0_longestFit_65, ↓oAdd, ↓oAl, ↓oCallS, ↓oCallV, ↓oGet, ↓oGo, ↓oIf1eq, ↓oIf2ge, ↓oIl, ↓oInc, ↓oIret, ↓oIs, ↓oK, q_set_s, q_set_n, au_0, auO_len, q_up_a, auO_8, z_clamp, z_ltI, z_leI, z_eqI, z_lt0, z_ge0, z_eq0I, z_gt0I, z_le0I, z_m1lt, z_m1ge, z_m1eq, z_m1eq', z_inT, z_add, z_sub, z_mul, z_div, z_rem, n_ltT, n_ltF, n_leT, n_leF, n_eqT, n_eqF, q_tl_i, q_tl_n, q_ap_n, q_ap_c]
      refine c0_after hS65 hw ?_
      refine q_X.run sX0_longestFit [] 20 ?_
      simp (maxSteps := 10000000) (disch := omega) only [↓q_run_s, q_stop_n, q_stop_c, q_lg_c, q_ls_d, q_ld_n, q_ld_c, q_cat_i, q_cat_r, q_cat_n, q_wd_n, q_wd_c, q_bx_1, q_bx_2, q_bx_3, q_bx_4, q_bx_5, q_bx_6, q_bx_7, q_bx_8, q_pop_0, q_pop_s, ↓reduceIte, Nat.reduceEqDiff, reduceCtorEq, eq_self, Bool.false_eq_true, Nat.reduceAdd, Nat.reduceSub, Nat.reduceMul, Nat.reduceLeDiff, Nat.reduceLT, Nat.le_refl, Nat.zero_le, true_and, and_true, false_and, and_false, or_false, false_or, true_or, or_true, not_true_eq_false, not_false_eq_true, if_true, if_false, List.getElem?_cons_zero, List.getElem?_cons_succ, List.set_cons_zero, List.set_cons_succ, List.length_cons, List.length_nil, ↓tX0_longestFit_0, ↓tX0_longestFit_2, ↓tX0_longestFit_4, ↓tX0_longestFit_5, ↓tX0_longestFit_8, ↓tX0_longestFit_11, ↓tX0_longestFit_12, ↓tX0_longestFit_15, ↓tX0_longestFit_16, ↓tX0_longestFit_18, ↓tX0_longestFit_19, ↓tX0_longestFit_21, ↓tX0_longestFit_23, ↓tX0_longestFit_24, ↓tX0_longestFit_27, ↓tX0_longestFit_28, ↓tX0_longestFit_30, ↓tX0_longestFit_31, ↓tX0_longestFit_32, ↓tX0_longestFit_34, ↓tX0_longestFit_37, ↓tX0_longestFit_40, ↓tX0_longestFit_42, ↓tX0_longestFit_43, ↓tX0_longestFit_45, ↓tX0_longestFit_48, ↓tX0_longestFit_51, ↓tX0_longestFit_53, ↓tX0_longestFit_54, ↓tX0_longestFit_55, ↓tX0_longestFit_57, ↓tX0_longestFit_60, ↓tX0_longestFit_63, ↓tX0_longestFit_65, ↓oAdd, ↓oAl, ↓oCallS, ↓oCallV, ↓oGet, ↓oGo, ↓oIf1eq, ↓oIf2ge, ↓oIl, ↓oInc, ↓oIret, ↓oIs, ↓oK, q_set_s, q_set_n, au_0, auO_len, q_up_a, auO_8, z_clamp, z_ltI, z_leI, z_eqI, z_lt0, z_ge0, z_eq0I, z_gt0I, z_le0I, z_m1lt, z_m1ge, z_m1eq, z_m1eq', z_inT, z_add, z_sub, z_mul, z_div, z_rem, n_ltT, n_ltF, n_leT, n_leF, n_eqT, n_eqF, q_tl_i, q_tl_n, q_ap_n, q_ap_c, hA']
      refine c0_endsAt (S := S') (E := g_l t 0) (b := g_e t) (by omega) h7 hgl h8 (fun h => ?_) (fun h => ?_)
      · rw [if_neg (by omega)] at h
        refine q_X.run sX0_longestFit [21] 20 ?_
        simp (maxSteps := 10000000) (disch := omega) only [↓q_run_s, q_stop_n, q_stop_c, q_lg_c, q_ls_d, q_ld_n, q_ld_c, q_cat_i, q_cat_r, q_cat_n, q_wd_n, q_wd_c, q_bx_1, q_bx_2, q_bx_3, q_bx_4, q_bx_5, q_bx_6, q_bx_7, q_bx_8, q_pop_0, q_pop_s, ↓reduceIte, Nat.reduceEqDiff, reduceCtorEq, eq_self, Bool.false_eq_true, Nat.reduceAdd, Nat.reduceSub, Nat.reduceMul, Nat.reduceLeDiff, Nat.reduceLT, Nat.le_refl, Nat.zero_le, true_and, and_true, false_and, and_false, or_false, false_or, true_or, or_true, not_true_eq_false, not_false_eq_true, if_true, if_false, List.getElem?_cons_zero, List.getElem?_cons_succ, List.set_cons_zero, List.set_cons_succ, List.length_cons, List.length_nil, ↓tX0_longestFit_0, ↓tX0_longestFit_2, ↓tX0_longestFit_4, ↓tX0_longestFit_5, ↓tX0_longestFit_8, ↓tX0_longestFit_11, ↓tX0_longestFit_12, ↓tX0_longestFit_15, ↓tX0_longestFit_16, ↓tX0_longestFit_18, ↓tX0_longestFit_19, ↓tX0_longestFit_21, ↓tX0_longestFit_23, ↓tX0_longestFit_24, ↓tX0_longestFit_27, ↓tX0_longestFit_28, ↓tX0_longestFit_30, ↓tX0_longestFit_31, ↓tX0_longestFit_32, ↓tX0_longestFit_34, ↓tX0_longestFit_37, ↓tX0_longestFit_40, ↓tX0_longestFit_42, ↓tX0_longestFit_43, ↓tX0_longestFit_45, ↓tX0_longestFit_48, ↓tX0_longestFit_51, ↓tX0_longestFit_53, ↓tX0_longestFit_54, ↓tX0_longestFit_55, ↓tX0_longestFit_57, ↓tX0_longestFit_60, ↓tX0_longestFit_63, ↓tX0_longestFit_65, ↓oAdd, ↓oAl, ↓oCallS, ↓oCallV, ↓oGet, ↓oGo, ↓oIf1eq, ↓oIf2ge, ↓oIl, ↓oInc, ↓oIret, ↓oIs, ↓oK, q_set_s, q_set_n, au_0, auO_len, q_up_a, auO_8, z_clamp, z_ltI, z_leI, z_eqI, z_lt0, z_ge0, z_eq0I, z_gt0I, z_le0I, z_m1lt, z_m1ge, z_m1eq, z_m1eq', z_inT, z_add, z_sub, z_mul, z_div, z_rem, n_ltT, n_ltF, n_leT, n_leF, n_eqT, n_eqF, q_tl_i, q_tl_n, q_ap_n, q_ap_c]
        exact ih (m + 1) S' (some (m + 1)) (by omega) (by omega) (Or.inr ⟨by omega, hS', hat⟩) ⟨hend.mpr h, Nat.le_refl _, fun e' h1 h2 => absurd h1 (by omega)⟩ _ ⟨rfl, rfl, rfl, rfl, rfl, rfl, trivial⟩
      · rw [if_neg (by omega)] at h
        refine q_X.run sX0_longestFit [21] 20 ?_
        simp (maxSteps := 10000000) (disch := omega) only [↓q_run_s, q_stop_n, q_stop_c, q_lg_c, q_ls_d, q_ld_n, q_ld_c, q_cat_i, q_cat_r, q_cat_n, q_wd_n, q_wd_c, q_bx_1, q_bx_2, q_bx_3, q_bx_4, q_bx_5, q_bx_6, q_bx_7, q_bx_8, q_pop_0, q_pop_s, ↓reduceIte, Nat.reduceEqDiff, reduceCtorEq, eq_self, Bool.false_eq_true, Nat.reduceAdd, Nat.reduceSub, Nat.reduceMul, Nat.reduceLeDiff, Nat.reduceLT, Nat.le_refl, Nat.zero_le, true_and, and_true, false_and, and_false, or_false, false_or, true_or, or_true, not_true_eq_false, not_false_eq_true, if_true, if_false, List.getElem?_cons_zero, List.getElem?_cons_succ, List.set_cons_zero, List.set_cons_succ, List.length_cons, List.length_nil, ↓tX0_longestFit_0, ↓tX0_longestFit_2, ↓tX0_longestFit_4, ↓tX0_longestFit_5, ↓tX0_longestFit_8, ↓tX0_longestFit_11, ↓tX0_longestFit_12, ↓tX0_longestFit_15, ↓tX0_longestFit_16, ↓tX0_longestFit_18, ↓tX0_longestFit_19, ↓tX0_longestFit_21, ↓tX0_longestFit_23, ↓tX0_longestFit_24, ↓tX0_longestFit_27, ↓tX0_longestFit_28, ↓tX0_longestFit_30, ↓tX0_longestFit_31, ↓tX0_longestFit_32, ↓tX0_longestFit_34, ↓tX0_longestFit_37, ↓tX0_longestFit_40, ↓tX0_longestFit_42, ↓tX0_longestFit_43, ↓tX0_longestFit_45, ↓tX0_longestFit_48, ↓tX0_longestFit_51, ↓tX0_longestFit_53, ↓tX0_longestFit_54, ↓tX0_longestFit_55, ↓tX0_longestFit_57, ↓tX0_longestFit_60, ↓tX0_longestFit_63, ↓tX0_longestFit_65, ↓oAdd, ↓oAl, ↓oCallS, ↓oCallV, ↓oGet, ↓oGo, ↓oIf1eq, ↓oIf2ge, ↓oIl, ↓oInc, ↓oIret, ↓oIs, ↓oK, q_set_s, q_set_n, au_0, auO_len, q_up_a, auO_8, z_clamp, z_ltI, z_leI, z_eqI, z_lt0, z_ge0, z_eq0I, z_gt0I, z_le0I, z_m1lt, z_m1ge, z_m1eq, z_m1eq', z_inT, z_add, z_sub, z_mul, z_div, z_rem, n_ltT, n_ltF, n_leT, n_leF, n_eqT, n_eqF, q_tl_i, q_tl_n, q_ap_n, q_ap_c]
        refine ih (m + 1) S' o (by omega) (by omega) (Or.inr ⟨by omega, hS', hat⟩) ?_ _ ⟨rfl, rfl, rfl, rfl, rfl, rfl, trivial⟩
        have hno : ¬ t_Sp (w_at N n) n t b (m + 1) := fun hh => h (hend.mp hh)
        cases o with
        | none =>
          intro e he hh
          rcases Nat.lt_or_eq_of_le he with h1 | h1
          · exact ho e (by omega) hh
          · exact hno (h1 ▸ hh)
        | some e =>
          obtain ⟨o1, o2, o3⟩ := ho
          refine ⟨o1, by omega, fun e' h1 h2 hh => ?_⟩
          rcases Nat.lt_or_eq_of_le h2 with h3 | h3
          · exact o3 e' h1 (by omega) hh
          · exact hno (h3 ▸ hh)
  have hemp : t_Sp (w_at N n) n t b b ↔ g_e t = true := by
    rw [g_fst t 0 hacc b b]
    constructor
    · rintro (⟨-, -, h⟩ | ⟨q, -, -, -, h⟩)
      · exact h
      · have := (g_k_le t 0 q _ _ h).1
        omega
    · exact fun h => Or.inl ⟨rfl, hb, h⟩
  have hle : ∀ e, t_Sp (w_at N n) n t b e → b ≤ e := fun e h => (t_Sp_le t b e h).1
  refine q_Call.of [(0, .ref i), (1, .int (nI N)), (2, .int (nI n)), (3, .int (nI b))] rfl ?_
  cases he : g_e t with
  | true =>
    rw [he] at h8
    have h8 : s 8 = nI 1 := h8
    refine q_X.run sX0_longestFit [21] 20 ?_
    simp (maxSteps := 10000000) (disch := omega) only [↓q_run_s, q_stop_n, q_stop_c, q_lg_c, q_ls_d, q_ld_n, q_ld_c, q_cat_i, q_cat_r, q_cat_n, q_wd_n, q_wd_c, q_bx_1, q_bx_2, q_bx_3, q_bx_4, q_bx_5, q_bx_6, q_bx_7, q_bx_8, q_pop_0, q_pop_s, ↓reduceIte, Nat.reduceEqDiff, reduceCtorEq, eq_self, Bool.false_eq_true, Nat.reduceAdd, Nat.reduceSub, Nat.reduceMul, Nat.reduceLeDiff, Nat.reduceLT, Nat.le_refl, Nat.zero_le, true_and, and_true, false_and, and_false, or_false, false_or, true_or, or_true, not_true_eq_false, not_false_eq_true, if_true, if_false, List.getElem?_cons_zero, List.getElem?_cons_succ, List.set_cons_zero, List.set_cons_succ, List.length_cons, List.length_nil, ↓tX0_longestFit_0, ↓tX0_longestFit_2, ↓tX0_longestFit_4, ↓tX0_longestFit_5, ↓tX0_longestFit_8, ↓tX0_longestFit_11, ↓tX0_longestFit_12, ↓tX0_longestFit_15, ↓tX0_longestFit_16, ↓tX0_longestFit_18, ↓tX0_longestFit_19, ↓tX0_longestFit_21, ↓tX0_longestFit_23, ↓tX0_longestFit_24, ↓tX0_longestFit_27, ↓tX0_longestFit_28, ↓tX0_longestFit_30, ↓tX0_longestFit_31, ↓tX0_longestFit_32, ↓tX0_longestFit_34, ↓tX0_longestFit_37, ↓tX0_longestFit_40, ↓tX0_longestFit_42, ↓tX0_longestFit_43, ↓tX0_longestFit_45, ↓tX0_longestFit_48, ↓tX0_longestFit_51, ↓tX0_longestFit_53, ↓tX0_longestFit_54, ↓tX0_longestFit_55, ↓tX0_longestFit_57, ↓tX0_longestFit_60, ↓tX0_longestFit_63, ↓tX0_longestFit_65, ↓oAdd, ↓oAl, ↓oCallS, ↓oCallV, ↓oGet, ↓oGo, ↓oIf1eq, ↓oIf2ge, ↓oIl, ↓oInc, ↓oIret, ↓oIs, ↓oK, q_set_s, q_set_n, au_0, auO_len, q_up_a, auO_8, z_clamp, z_ltI, z_leI, z_eqI, z_lt0, z_ge0, z_eq0I, z_gt0I, z_le0I, z_m1lt, z_m1ge, z_m1eq, z_m1eq', z_inT, z_add, z_sub, z_mul, z_div, z_rem, n_ltT, n_ltF, n_leT, n_leF, n_eqT, n_eqF, q_tl_i, q_tl_n, q_ap_n, q_ap_c, h8]
    refine loop (n - b) b 64 (some b) (by omega) (Nat.le_refl _) (Or.inl ⟨rfl, rfl⟩) ⟨hemp.mpr he, Nat.le_refl _, fun e' h1 h2 => absurd h1 (by omega)⟩ _ ⟨rfl, rfl, rfl, rfl, rfl, rfl, trivial⟩
  | false =>
    rw [he] at h8
    have h8 : s 8 = nI 0 := h8
    refine q_X.run sX0_longestFit [21] 20 ?_
    simp (maxSteps := 10000000) (disch := omega) only [↓q_run_s, q_stop_n, q_stop_c, q_lg_c, q_ls_d, q_ld_n, q_ld_c, q_cat_i, q_cat_r, q_cat_n, q_wd_n, q_wd_c, q_bx_1, q_bx_2, q_bx_3, q_bx_4, q_bx_5, q_bx_6, q_bx_7, q_bx_8, q_pop_0, q_pop_s, ↓reduceIte, Nat.reduceEqDiff, reduceCtorEq, eq_self, Bool.false_eq_true, Nat.reduceAdd, Nat.reduceSub, Nat.reduceMul, Nat.reduceLeDiff, Nat.reduceLT, Nat.le_refl, Nat.zero_le, true_and, and_true, false_and, and_false, or_false, false_or, true_or, or_true, not_true_eq_false, not_false_eq_true, if_true, if_false, List.getElem?_cons_zero, List.getElem?_cons_succ, List.set_cons_zero, List.set_cons_succ, List.length_cons, List.length_nil, ↓tX0_longestFit_0, ↓tX0_longestFit_2, ↓tX0_longestFit_4, ↓tX0_longestFit_5, ↓tX0_longestFit_8, ↓tX0_longestFit_11, ↓tX0_longestFit_12, ↓tX0_longestFit_15, ↓tX0_longestFit_16, ↓tX0_longestFit_18, ↓tX0_longestFit_19, ↓tX0_longestFit_21, ↓tX0_longestFit_23, ↓tX0_longestFit_24, ↓tX0_longestFit_27, ↓tX0_longestFit_28, ↓tX0_longestFit_30, ↓tX0_longestFit_31, ↓tX0_longestFit_32, ↓tX0_longestFit_34, ↓tX0_longestFit_37, ↓tX0_longestFit_40, ↓tX0_longestFit_42, ↓tX0_longestFit_43, ↓tX0_longestFit_45, ↓tX0_longestFit_48, ↓tX0_longestFit_51, ↓tX0_longestFit_53, ↓tX0_longestFit_54, ↓tX0_longestFit_55, ↓tX0_longestFit_57, ↓tX0_longestFit_60, ↓tX0_longestFit_63, ↓tX0_longestFit_65, ↓oAdd, ↓oAl, ↓oCallS, ↓oCallV, ↓oGet, ↓oGo, ↓oIf1eq, ↓oIf2ge, ↓oIl, ↓oInc, ↓oIret, ↓oIs, ↓oK, q_set_s, q_set_n, au_0, auO_len, q_up_a, auO_8, z_clamp, z_ltI, z_leI, z_eqI, z_lt0, z_ge0, z_eq0I, z_gt0I, z_le0I, z_m1lt, z_m1ge, z_m1eq, z_m1eq', z_inT, z_add, z_sub, z_mul, z_div, z_rem, n_ltT, n_ltF, n_leT, n_leF, n_eqT, n_eqF, q_tl_i, q_tl_n, q_ap_n, q_ap_c, h8]
    refine loop (n - b) b 64 none (by omega) (Nat.le_refl _) (Or.inl ⟨rfl, rfl⟩) (fun e h1 h2 => ?_) _ ⟨rfl, rfl, rfl, rfl, rfl, rfl, trivial⟩
    have e1 : e = b := by
      have := hle e h2
      omega
    rw [e1] at h2
    have := hemp.mp h2
    rw [he] at this
    exact absurd this (by decide)
end
