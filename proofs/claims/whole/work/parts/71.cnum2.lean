/-! the class's Catalogue: numberOf, size -/
section
variable {G : qC} {L : Launch} {d : Nat} {Q : Option Value → qM → Prop} {M0 : qM} {i : Nat} {A : Nat → Nat → Int32} {kc lc rc : Nat → Int32} {j n sz : Nat} {k l r : Nat → Int32}
def nm_L (G : qC) (L : Launch) (d : Nat) (Q : Option Value → qM → Prop) (M0 : qM) (i j sz b : Nat) (kc lc rc : Nat → Int32) (A : Nat → Nat → Int32) : Prop := q_X G L d mX1_numberOf 0 0 Q 12 [(0, .ref i), (1, .ref j), (2, .int (nI sz)), (3, .int (nI b))] [] (q_ca (q_nd M0 (i + 1) 4937 kc lc rc 4937) i A) 0 0
/-- what numbering a tree leaves -/
def nm_R (A A' : Nat → Nat → Int32) (b : Nat) (t : qT) : Prop := (∀ f, f ≠ 3 → f ≠ 4 → A' f = A f) ∧ (∀ q, q < b → A' 3 q = A 3 q ∧ A' 4 q = A 4 q) ∧ A' 4 (b + t_nodes t - 1) = nI (t_cost t) ∧ ∃ p, k_N t p ∧ p < 4937 ∧ A' 3 (b + t_nodes t - 1) = nI p
theorem nm_R_Cat {A A' : Nat → Nat → Int32} {b : Nat} {t : qT} (h : nm_R A A' b t) (hC : k_Cat A kc lc rc) : k_Cat A' kc lc rc := ⟨by rw [h.1 2 (by decide) (by decide)]; exact hC.1, fun c' h1 h2 => by rw [h.1 1 (by decide) (by decide)]; exact hC.2 c' h1 h2⟩
set_option maxRecDepth 100000 in
set_option maxHeartbeats 8000000 in
theorem c1_rows (hN : q_isN M0 j n k l r sz) (hs : sz ≤ n) (hn : n < 100000) (h12 : sz ≤ 12) (hdj : j + 4 ≤ i ∨ i + 9 ≤ j) (hd : 5 ≤ d) : ∀ (t : qT) (b : Nat) (A : Nat → Nat → Int32), t_no k l r t b → b + t_nodes t ≤ sz → t_vd t → t_wf t → t_cost t ≤ 10 → k_Cat A kc lc rc → (∀ A', nm_R A A' b t → nm_L G L d Q M0 i j sz (b + t_nodes t) kc lc rc A') → nm_L G L d Q M0 i j sz b kc lc rc A := by
  have bd : ∀ t, t_vd t → t_wf t → t_cost t ≤ 10 → ∃ p, k_N t p ∧ p < 4937 ∧ p < k_F (t_cost t + 1) := fun t h1 h2 h3 => by
    obtain ⟨p, p1, p2, p3, -⟩ := k_N_ex t h1 h2 h3
    have := k_F_b (c := t_cost t + 1) (by omega)
    exact ⟨p, p1, by omega, p3⟩
  intro t
  induction t with
  | num v =>
    intro b A ht hb hv hw hc hC hQ
    obtain ⟨p, p1, p2, p3⟩ := bd _ hv hw hc
    obtain ⟨⟨h1, h2, h3⟩, h4, h5⟩ := ht
    have hb : b + 1 ≤ sz := hb
    unfold nm_L at hQ ⊢
    refine q_X.run sX1_numberOf [] 20 ?_
    simp (maxSteps := 10000000) (disch := omega) only [↓q_run_s, q_stop_n, q_stop_c, q_lg_c, q_ls_d, q_ld_n, q_ld_c, q_cat_i, q_cat_r, q_cat_n, q_wd_n, q_wd_c, q_bx_1, q_bx_2, q_bx_3, q_bx_4, q_bx_5, q_bx_6, q_bx_7, q_bx_8, q_pop_0, q_pop_s, ↓reduceIte, Nat.reduceEqDiff, reduceCtorEq, eq_self, Bool.false_eq_true, Nat.reduceAdd, Nat.reduceSub, Nat.reduceMul, Nat.reduceLeDiff, Nat.reduceLT, Nat.le_refl, Nat.zero_le, true_and, and_true, false_and, and_false, or_false, false_or, true_or, or_true, not_true_eq_false, not_false_eq_true, if_true, if_false, List.getElem?_cons_zero, List.getElem?_cons_succ, List.set_cons_zero, List.set_cons_succ, List.length_cons, List.length_nil, ↓tX1_numberOf_0, ↓tX1_numberOf_1, ↓tX1_numberOf_4, ↓tX1_numberOf_6, ↓tX1_numberOf_9, ↓tX1_numberOf_10, ↓tX1_numberOf_11, ↓tX1_numberOf_12, ↓tX1_numberOf_13, ↓tX1_numberOf_14, ↓tX1_numberOf_17, ↓tX1_numberOf_18, ↓tX1_numberOf_19, ↓tX1_numberOf_20, ↓tX1_numberOf_23, ↓tX1_numberOf_26, ↓tX1_numberOf_29, ↓tX1_numberOf_30, ↓tX1_numberOf_33, ↓tX1_numberOf_34, ↓tX1_numberOf_37, ↓tX1_numberOf_38, ↓tX1_numberOf_39, ↓tX1_numberOf_40, ↓tX1_numberOf_41, ↓tX1_numberOf_44, ↓tX1_numberOf_45, ↓oAl, ↓oCallV, ↓oGet, ↓oGo, ↓oIald, ↓oIf1le, ↓oIf2ge, ↓oIl, ↓oInc, ↓oIret, ↓oIs, ↓oK, ↓oMin, ↓oSub, q_set_s, q_set_n, ca_0, caO_len, q_up_a, caO_3, ca_a3, z_clamp, z_ltI, z_leI, z_eqI, z_lt0, z_ge0, z_eq0I, z_gt0I, z_le0I, z_m1lt, z_m1ge, z_m1eq, z_m1eq', z_inT, z_add, z_sub, z_mul, z_div, z_rem, n_ltT, n_ltF, n_leT, n_leF, n_eqT, n_eqF, z_11, q_tl_i, q_tl_n, q_ap_n, q_ap_c]
    refine c1_nn0 (q := b) (v := v.toNat) (kd := 0) (p := p) hN hs hn hdj (by omega) hC (by omega) (by omega) h1 h2 h3 (by decide) (by omega) p1 p3 fun A' hm => ?_
    have h' := hQ A' ⟨hm.1, fun q hq => ⟨by rw [hm.2.1, q_ud_n _ _ (by omega)], hm.2.2.1 q (by omega)⟩, hm.2.2.2, p, p1, p2, by show A' 3 b = _; rw [hm.2.1, q_ud_s]⟩
    have h' : q_X G L d mX1_numberOf 0 0 Q 12 [(0, .ref i), (1, .ref j), (2, .int (nI sz)), (3, .int (nI (b + 1)))] [] (q_ca (q_nd M0 (i + 1) 4937 kc lc rc 4937) i A') 0 0 := h'
    refine q_X.run sX1_numberOf [12] 20 ?_
    simp (maxSteps := 10000000) (disch := omega) only [↓q_run_s, q_stop_n, q_stop_c, q_lg_c, q_ls_d, q_ld_n, q_ld_c, q_cat_i, q_cat_r, q_cat_n, q_wd_n, q_wd_c, q_bx_1, q_bx_2, q_bx_3, q_bx_4, q_bx_5, q_bx_6, q_bx_7, q_bx_8, q_pop_0, q_pop_s, ↓reduceIte, Nat.reduceEqDiff, reduceCtorEq, eq_self, Bool.false_eq_true, Nat.reduceAdd, Nat.reduceSub, Nat.reduceMul, Nat.reduceLeDiff, Nat.reduceLT, Nat.le_refl, Nat.zero_le, true_and, and_true, false_and, and_false, or_false, false_or, true_or, or_true, not_true_eq_false, not_false_eq_true, if_true, if_false, List.getElem?_cons_zero, List.getElem?_cons_succ, List.set_cons_zero, List.set_cons_succ, List.length_cons, List.length_nil, ↓tX1_numberOf_0, ↓tX1_numberOf_1, ↓tX1_numberOf_4, ↓tX1_numberOf_6, ↓tX1_numberOf_9, ↓tX1_numberOf_10, ↓tX1_numberOf_11, ↓tX1_numberOf_12, ↓tX1_numberOf_13, ↓tX1_numberOf_14, ↓tX1_numberOf_17, ↓tX1_numberOf_18, ↓tX1_numberOf_19, ↓tX1_numberOf_20, ↓tX1_numberOf_23, ↓tX1_numberOf_26, ↓tX1_numberOf_29, ↓tX1_numberOf_30, ↓tX1_numberOf_33, ↓tX1_numberOf_34, ↓tX1_numberOf_37, ↓tX1_numberOf_38, ↓tX1_numberOf_39, ↓tX1_numberOf_40, ↓tX1_numberOf_41, ↓tX1_numberOf_44, ↓tX1_numberOf_45, ↓oAl, ↓oCallV, ↓oGet, ↓oGo, ↓oIald, ↓oIf1le, ↓oIf2ge, ↓oIl, ↓oInc, ↓oIret, ↓oIs, ↓oK, ↓oMin, ↓oSub, q_set_s, q_set_n, ca_0, caO_len, q_up_a, caO_3, ca_a3, z_clamp, z_ltI, z_leI, z_eqI, z_lt0, z_ge0, z_eq0I, z_gt0I, z_le0I, z_m1lt, z_m1ge, z_m1eq, z_m1eq', z_inT, z_add, z_sub, z_mul, z_div, z_rem, n_ltT, n_ltF, n_leT, n_leF, n_eqT, n_eqF, z_11, q_tl_i, q_tl_n, q_ap_n, q_ap_c]
    refine q_X.lv2 _ ?_ h'
    exact ⟨rfl, rfl, rfl, rfl, trivial⟩
  | var v =>
    intro b A ht hb hv hw hc hC hQ
    obtain ⟨p, p1, p2, p3⟩ := bd _ hv hw hc
    obtain ⟨⟨h1, h2, h3⟩, h4, h5⟩ := ht
    have hb : b + 1 ≤ sz := hb
    unfold nm_L at hQ ⊢
    refine q_X.run sX1_numberOf [] 20 ?_
    simp (maxSteps := 10000000) (disch := omega) only [↓q_run_s, q_stop_n, q_stop_c, q_lg_c, q_ls_d, q_ld_n, q_ld_c, q_cat_i, q_cat_r, q_cat_n, q_wd_n, q_wd_c, q_bx_1, q_bx_2, q_bx_3, q_bx_4, q_bx_5, q_bx_6, q_bx_7, q_bx_8, q_pop_0, q_pop_s, ↓reduceIte, Nat.reduceEqDiff, reduceCtorEq, eq_self, Bool.false_eq_true, Nat.reduceAdd, Nat.reduceSub, Nat.reduceMul, Nat.reduceLeDiff, Nat.reduceLT, Nat.le_refl, Nat.zero_le, true_and, and_true, false_and, and_false, or_false, false_or, true_or, or_true, not_true_eq_false, not_false_eq_true, if_true, if_false, List.getElem?_cons_zero, List.getElem?_cons_succ, List.set_cons_zero, List.set_cons_succ, List.length_cons, List.length_nil, ↓tX1_numberOf_0, ↓tX1_numberOf_1, ↓tX1_numberOf_4, ↓tX1_numberOf_6, ↓tX1_numberOf_9, ↓tX1_numberOf_10, ↓tX1_numberOf_11, ↓tX1_numberOf_12, ↓tX1_numberOf_13, ↓tX1_numberOf_14, ↓tX1_numberOf_17, ↓tX1_numberOf_18, ↓tX1_numberOf_19, ↓tX1_numberOf_20, ↓tX1_numberOf_23, ↓tX1_numberOf_26, ↓tX1_numberOf_29, ↓tX1_numberOf_30, ↓tX1_numberOf_33, ↓tX1_numberOf_34, ↓tX1_numberOf_37, ↓tX1_numberOf_38, ↓tX1_numberOf_39, ↓tX1_numberOf_40, ↓tX1_numberOf_41, ↓tX1_numberOf_44, ↓tX1_numberOf_45, ↓oAl, ↓oCallV, ↓oGet, ↓oGo, ↓oIald, ↓oIf1le, ↓oIf2ge, ↓oIl, ↓oInc, ↓oIret, ↓oIs, ↓oK, ↓oMin, ↓oSub, q_set_s, q_set_n, ca_0, caO_len, q_up_a, caO_3, ca_a3, z_clamp, z_ltI, z_leI, z_eqI, z_lt0, z_ge0, z_eq0I, z_gt0I, z_le0I, z_m1lt, z_m1ge, z_m1eq, z_m1eq', z_inT, z_add, z_sub, z_mul, z_div, z_rem, n_ltT, n_ltF, n_leT, n_leF, n_eqT, n_eqF, z_11, q_tl_i, q_tl_n, q_ap_n, q_ap_c]
    refine c1_nn0 (q := b) (v := v) (kd := 1) (p := p) hN hs hn hdj (by omega) hC (by omega) (by omega) h1 h2 h3 (by decide) h5 p1 p3 fun A' hm => ?_
    have h' := hQ A' ⟨hm.1, fun q hq => ⟨by rw [hm.2.1, q_ud_n _ _ (by omega)], hm.2.2.1 q (by omega)⟩, hm.2.2.2, p, p1, p2, by show A' 3 b = _; rw [hm.2.1, q_ud_s]⟩
    have h' : q_X G L d mX1_numberOf 0 0 Q 12 [(0, .ref i), (1, .ref j), (2, .int (nI sz)), (3, .int (nI (b + 1)))] [] (q_ca (q_nd M0 (i + 1) 4937 kc lc rc 4937) i A') 0 0 := h'
    refine q_X.run sX1_numberOf [12] 20 ?_
    simp (maxSteps := 10000000) (disch := omega) only [↓q_run_s, q_stop_n, q_stop_c, q_lg_c, q_ls_d, q_ld_n, q_ld_c, q_cat_i, q_cat_r, q_cat_n, q_wd_n, q_wd_c, q_bx_1, q_bx_2, q_bx_3, q_bx_4, q_bx_5, q_bx_6, q_bx_7, q_bx_8, q_pop_0, q_pop_s, ↓reduceIte, Nat.reduceEqDiff, reduceCtorEq, eq_self, Bool.false_eq_true, Nat.reduceAdd, Nat.reduceSub, Nat.reduceMul, Nat.reduceLeDiff, Nat.reduceLT, Nat.le_refl, Nat.zero_le, true_and, and_true, false_and, and_false, or_false, false_or, true_or, or_true, not_true_eq_false, not_false_eq_true, if_true, if_false, List.getElem?_cons_zero, List.getElem?_cons_succ, List.set_cons_zero, List.set_cons_succ, List.length_cons, List.length_nil, ↓tX1_numberOf_0, ↓tX1_numberOf_1, ↓tX1_numberOf_4, ↓tX1_numberOf_6, ↓tX1_numberOf_9, ↓tX1_numberOf_10, ↓tX1_numberOf_11, ↓tX1_numberOf_12, ↓tX1_numberOf_13, ↓tX1_numberOf_14, ↓tX1_numberOf_17, ↓tX1_numberOf_18, ↓tX1_numberOf_19, ↓tX1_numberOf_20, ↓tX1_numberOf_23, ↓tX1_numberOf_26, ↓tX1_numberOf_29, ↓tX1_numberOf_30, ↓tX1_numberOf_33, ↓tX1_numberOf_34, ↓tX1_numberOf_37, ↓tX1_numberOf_38, ↓tX1_numberOf_39, ↓tX1_numberOf_40, ↓tX1_numberOf_41, ↓tX1_numberOf_44, ↓tX1_numberOf_45, ↓oAl, ↓oCallV, ↓oGet, ↓oGo, ↓oIald, ↓oIf1le, ↓oIf2ge, ↓oIl, ↓oInc, ↓oIret, ↓oIs, ↓oK, ↓oMin, ↓oSub, q_set_s, q_set_n, ca_0, caO_len, q_up_a, caO_3, ca_a3, z_clamp, z_ltI, z_leI, z_eqI, z_lt0, z_ge0, z_eq0I, z_gt0I, z_le0I, z_m1lt, z_m1ge, z_m1eq, z_m1eq', z_inT, z_add, z_sub, z_mul, z_div, z_rem, n_ltT, n_ltF, n_leT, n_leF, n_eqT, n_eqF, z_11, q_tl_i, q_tl_n, q_ap_n, q_ap_c]
    refine q_X.lv2 _ ?_ h'
    exact ⟨rfl, rfl, rfl, rfl, trivial⟩
  | add u w ihu ihw =>
    intro b A ht hb hv hw hc hC hQ
    obtain ⟨p, p1, p2, p3⟩ := bd _ hv hw hc
    obtain ⟨⟨h1, h2, h3⟩, hx, hy⟩ := ht
    have hb : b + (1 + t_nodes u + t_nodes w) ≤ sz := hb
    have hc' : 1 + t_cost u + t_cost w ≤ 10 := hc
    have pu := t_nodes_pos u
    have pw := t_nodes_pos w
    have cu := t_cost_2 u
    refine ihu b A hx (by omega) hv.1 hw.2.1 (by omega) hC fun A1 m1 => ?_
    refine ihw (b + t_nodes u) A1 hy (by omega) hv.2 hw.2.2 (by omega) (nm_R_Cat m1 hC) fun A2 m2 => ?_
    obtain ⟨a1, a2, a3, pa, a4, a5, a6⟩ := m1
    obtain ⟨b1, b2, b3, pb, b4, b5, b6⟩ := m2
    have C2 : k_Cat A2 kc lc rc := ⟨by rw [b1 2 (by decide) (by decide), a1 2 (by decide) (by decide)]; exact hC.1, fun c' g1 g2 => by rw [b1 1 (by decide) (by decide), a1 1 (by decide) (by decide)]; exact hC.2 c' g1 g2⟩
    obtain ⟨x, y, x1, y1, q1⟩ := p1
    have e1 := k_N_u u x pa x1 a4
    have e2 := k_N_u w y pb y1 b4
    subst e1 e2
    obtain ⟨c1, c2⟩ := b2 (b + t_nodes u - 1) (by omega)
    unfold nm_L at hQ ⊢
    refine q_X.run sX1_numberOf [] 20 ?_
    simp (maxSteps := 10000000) (disch := omega) only [↓q_run_s, q_stop_n, q_stop_c, q_lg_c, q_ls_d, q_ld_n, q_ld_c, q_cat_i, q_cat_r, q_cat_n, q_wd_n, q_wd_c, q_bx_1, q_bx_2, q_bx_3, q_bx_4, q_bx_5, q_bx_6, q_bx_7, q_bx_8, q_pop_0, q_pop_s, ↓reduceIte, Nat.reduceEqDiff, reduceCtorEq, eq_self, Bool.false_eq_true, Nat.reduceAdd, Nat.reduceSub, Nat.reduceMul, Nat.reduceLeDiff, Nat.reduceLT, Nat.le_refl, Nat.zero_le, true_and, and_true, false_and, and_false, or_false, false_or, true_or, or_true, not_true_eq_false, not_false_eq_true, if_true, if_false, List.getElem?_cons_zero, List.getElem?_cons_succ, List.set_cons_zero, List.set_cons_succ, List.length_cons, List.length_nil, ↓tX1_numberOf_0, ↓tX1_numberOf_1, ↓tX1_numberOf_4, ↓tX1_numberOf_6, ↓tX1_numberOf_9, ↓tX1_numberOf_10, ↓tX1_numberOf_11, ↓tX1_numberOf_12, ↓tX1_numberOf_13, ↓tX1_numberOf_14, ↓tX1_numberOf_17, ↓tX1_numberOf_18, ↓tX1_numberOf_19, ↓tX1_numberOf_20, ↓tX1_numberOf_23, ↓tX1_numberOf_26, ↓tX1_numberOf_29, ↓tX1_numberOf_30, ↓tX1_numberOf_33, ↓tX1_numberOf_34, ↓tX1_numberOf_37, ↓tX1_numberOf_38, ↓tX1_numberOf_39, ↓tX1_numberOf_40, ↓tX1_numberOf_41, ↓tX1_numberOf_44, ↓tX1_numberOf_45, ↓oAl, ↓oCallV, ↓oGet, ↓oGo, ↓oIald, ↓oIf1le, ↓oIf2ge, ↓oIl, ↓oInc, ↓oIret, ↓oIs, ↓oK, ↓oMin, ↓oSub, q_set_s, q_set_n, ca_0, caO_len, q_up_a, caO_3, ca_a3, z_clamp, z_ltI, z_leI, z_eqI, z_lt0, z_ge0, z_eq0I, z_gt0I, z_le0I, z_m1lt, z_m1ge, z_m1eq, z_m1eq', z_inT, z_add, z_sub, z_mul, z_div, z_rem, n_ltT, n_ltF, n_leT, n_leF, n_eqT, n_eqF, z_11, q_tl_i, q_tl_n, q_ap_n, q_ap_c]
    refine c1_nn2 (q := b + t_nodes u + t_nodes w) (kd := 2) (own := 1) (p := p) hN hs hn hdj (by omega) C2 (by omega) (by omega) h1 h2 h3 (Or.inl ⟨rfl, rfl⟩) (by omega) (by omega) (c1.trans a6) (c2.trans a3) b6 b3 a5 b5 cu hc' q1 p3 fun A' hm => ?_
    have en : b + (1 + t_nodes u + t_nodes w) - 1 = b + t_nodes u + t_nodes w := by omega
    have h' := hQ A' ⟨fun f g1 g2 => by rw [hm.1 f g1 g2, b1 f g1 g2, a1 f g1 g2], fun q hq => ⟨by rw [hm.2.1, q_ud_n _ _ (by omega), (b2 q (by omega)).1, (a2 q hq).1], by rw [hm.2.2.1 q (by omega), (b2 q (by omega)).2, (a2 q hq).2]⟩, by
      show A' 4 (b + (1 + t_nodes u + t_nodes w) - 1) = _
      rw [en]
      exact hm.2.2.2, p, ⟨x, y, x1, y1, q1⟩, p2, by
      show A' 3 (b + (1 + t_nodes u + t_nodes w) - 1) = _
      rw [en, hm.2.1, q_ud_s]⟩
    have h' : q_X G L d mX1_numberOf 0 0 Q 12 [(0, .ref i), (1, .ref j), (2, .int (nI sz)), (3, .int (nI (b + (1 + t_nodes u + t_nodes w))))] [] (q_ca (q_nd M0 (i + 1) 4937 kc lc rc 4937) i A') 0 0 := h'
    rw [show b + (1 + t_nodes u + t_nodes w) = b + t_nodes u + t_nodes w + 1 by omega] at h'
    refine q_X.run sX1_numberOf [12] 20 ?_
    simp (maxSteps := 10000000) (disch := omega) only [↓q_run_s, q_stop_n, q_stop_c, q_lg_c, q_ls_d, q_ld_n, q_ld_c, q_cat_i, q_cat_r, q_cat_n, q_wd_n, q_wd_c, q_bx_1, q_bx_2, q_bx_3, q_bx_4, q_bx_5, q_bx_6, q_bx_7, q_bx_8, q_pop_0, q_pop_s, ↓reduceIte, Nat.reduceEqDiff, reduceCtorEq, eq_self, Bool.false_eq_true, Nat.reduceAdd, Nat.reduceSub, Nat.reduceMul, Nat.reduceLeDiff, Nat.reduceLT, Nat.le_refl, Nat.zero_le, true_and, and_true, false_and, and_false, or_false, false_or, true_or, or_true, not_true_eq_false, not_false_eq_true, if_true, if_false, List.getElem?_cons_zero, List.getElem?_cons_succ, List.set_cons_zero, List.set_cons_succ, List.length_cons, List.length_nil, ↓tX1_numberOf_0, ↓tX1_numberOf_1, ↓tX1_numberOf_4, ↓tX1_numberOf_6, ↓tX1_numberOf_9, ↓tX1_numberOf_10, ↓tX1_numberOf_11, ↓tX1_numberOf_12, ↓tX1_numberOf_13, ↓tX1_numberOf_14, ↓tX1_numberOf_17, ↓tX1_numberOf_18, ↓tX1_numberOf_19, ↓tX1_numberOf_20, ↓tX1_numberOf_23, ↓tX1_numberOf_26, ↓tX1_numberOf_29, ↓tX1_numberOf_30, ↓tX1_numberOf_33, ↓tX1_numberOf_34, ↓tX1_numberOf_37, ↓tX1_numberOf_38, ↓tX1_numberOf_39, ↓tX1_numberOf_40, ↓tX1_numberOf_41, ↓tX1_numberOf_44, ↓tX1_numberOf_45, ↓oAl, ↓oCallV, ↓oGet, ↓oGo, ↓oIald, ↓oIf1le, ↓oIf2ge, ↓oIl, ↓oInc, ↓oIret, ↓oIs, ↓oK, ↓oMin, ↓oSub, q_set_s, q_set_n, ca_0, caO_len, q_up_a, caO_3, ca_a3, z_clamp, z_ltI, z_leI, z_eqI, z_lt0, z_ge0, z_eq0I, z_gt0I, z_le0I, z_m1lt, z_m1ge, z_m1eq, z_m1eq', z_inT, z_add, z_sub, z_mul, z_div, z_rem, n_ltT, n_ltF, n_leT, n_leF, n_eqT, n_eqF, z_11, q_tl_i, q_tl_n, q_ap_n, q_ap_c]
    refine q_X.lv2 _ ?_ h'
    exact ⟨rfl, rfl, rfl, rfl, trivial⟩
  | sub u w ihu ihw =>
    intro b A ht hb hv hw hc hC hQ
    obtain ⟨p, p1, p2, p3⟩ := bd _ hv hw hc
    obtain ⟨⟨h1, h2, h3⟩, hx, hy⟩ := ht
    have hb : b + (1 + t_nodes u + t_nodes w) ≤ sz := hb
    have hc' : 2 + t_cost u + t_cost w ≤ 10 := hc
    have pu := t_nodes_pos u
    have pw := t_nodes_pos w
    have cu := t_cost_2 u
    refine ihu b A hx (by omega) hv.1 hw.1 (by omega) hC fun A1 m1 => ?_
    refine ihw (b + t_nodes u) A1 hy (by omega) hv.2 hw.2 (by omega) (nm_R_Cat m1 hC) fun A2 m2 => ?_
    obtain ⟨a1, a2, a3, pa, a4, a5, a6⟩ := m1
    obtain ⟨b1, b2, b3, pb, b4, b5, b6⟩ := m2
    have C2 : k_Cat A2 kc lc rc := ⟨by rw [b1 2 (by decide) (by decide), a1 2 (by decide) (by decide)]; exact hC.1, fun c' g1 g2 => by rw [b1 1 (by decide) (by decide), a1 1 (by decide) (by decide)]; exact hC.2 c' g1 g2⟩
    obtain ⟨x, y, x1, y1, q1⟩ := p1
    have e1 := k_N_u u x pa x1 a4
    have e2 := k_N_u w y pb y1 b4
    subst e1 e2
    obtain ⟨c1, c2⟩ := b2 (b + t_nodes u - 1) (by omega)
    unfold nm_L at hQ ⊢
    refine q_X.run sX1_numberOf [] 20 ?_
    simp (maxSteps := 10000000) (disch := omega) only [↓q_run_s, q_stop_n, q_stop_c, q_lg_c, q_ls_d, q_ld_n, q_ld_c, q_cat_i, q_cat_r, q_cat_n, q_wd_n, q_wd_c, q_bx_1, q_bx_2, q_bx_3, q_bx_4, q_bx_5, q_bx_6, q_bx_7, q_bx_8, q_pop_0, q_pop_s, ↓reduceIte, Nat.reduceEqDiff, reduceCtorEq, eq_self, Bool.false_eq_true, Nat.reduceAdd, Nat.reduceSub, Nat.reduceMul, Nat.reduceLeDiff, Nat.reduceLT, Nat.le_refl, Nat.zero_le, true_and, and_true, false_and, and_false, or_false, false_or, true_or, or_true, not_true_eq_false, not_false_eq_true, if_true, if_false, List.getElem?_cons_zero, List.getElem?_cons_succ, List.set_cons_zero, List.set_cons_succ, List.length_cons, List.length_nil, ↓tX1_numberOf_0, ↓tX1_numberOf_1, ↓tX1_numberOf_4, ↓tX1_numberOf_6, ↓tX1_numberOf_9, ↓tX1_numberOf_10, ↓tX1_numberOf_11, ↓tX1_numberOf_12, ↓tX1_numberOf_13, ↓tX1_numberOf_14, ↓tX1_numberOf_17, ↓tX1_numberOf_18, ↓tX1_numberOf_19, ↓tX1_numberOf_20, ↓tX1_numberOf_23, ↓tX1_numberOf_26, ↓tX1_numberOf_29, ↓tX1_numberOf_30, ↓tX1_numberOf_33, ↓tX1_numberOf_34, ↓tX1_numberOf_37, ↓tX1_numberOf_38, ↓tX1_numberOf_39, ↓tX1_numberOf_40, ↓tX1_numberOf_41, ↓tX1_numberOf_44, ↓tX1_numberOf_45, ↓oAl, ↓oCallV, ↓oGet, ↓oGo, ↓oIald, ↓oIf1le, ↓oIf2ge, ↓oIl, ↓oInc, ↓oIret, ↓oIs, ↓oK, ↓oMin, ↓oSub, q_set_s, q_set_n, ca_0, caO_len, q_up_a, caO_3, ca_a3, z_clamp, z_ltI, z_leI, z_eqI, z_lt0, z_ge0, z_eq0I, z_gt0I, z_le0I, z_m1lt, z_m1ge, z_m1eq, z_m1eq', z_inT, z_add, z_sub, z_mul, z_div, z_rem, n_ltT, n_ltF, n_leT, n_leF, n_eqT, n_eqF, z_11, q_tl_i, q_tl_n, q_ap_n, q_ap_c]
    refine c1_nn2 (q := b + t_nodes u + t_nodes w) (kd := 3) (own := 2) (p := p) hN hs hn hdj (by omega) C2 (by omega) (by omega) h1 h2 h3 (Or.inr ⟨rfl, rfl⟩) (by omega) (by omega) (c1.trans a6) (c2.trans a3) b6 b3 a5 b5 cu hc' q1 p3 fun A' hm => ?_
    have en : b + (1 + t_nodes u + t_nodes w) - 1 = b + t_nodes u + t_nodes w := by omega
    have h' := hQ A' ⟨fun f g1 g2 => by rw [hm.1 f g1 g2, b1 f g1 g2, a1 f g1 g2], fun q hq => ⟨by rw [hm.2.1, q_ud_n _ _ (by omega), (b2 q (by omega)).1, (a2 q hq).1], by rw [hm.2.2.1 q (by omega), (b2 q (by omega)).2, (a2 q hq).2]⟩, by
      show A' 4 (b + (1 + t_nodes u + t_nodes w) - 1) = _
      rw [en]
      exact hm.2.2.2, p, ⟨x, y, x1, y1, q1⟩, p2, by
      show A' 3 (b + (1 + t_nodes u + t_nodes w) - 1) = _
      rw [en, hm.2.1, q_ud_s]⟩
    have h' : q_X G L d mX1_numberOf 0 0 Q 12 [(0, .ref i), (1, .ref j), (2, .int (nI sz)), (3, .int (nI (b + (1 + t_nodes u + t_nodes w))))] [] (q_ca (q_nd M0 (i + 1) 4937 kc lc rc 4937) i A') 0 0 := h'
    rw [show b + (1 + t_nodes u + t_nodes w) = b + t_nodes u + t_nodes w + 1 by omega] at h'
    refine q_X.run sX1_numberOf [12] 20 ?_
    simp (maxSteps := 10000000) (disch := omega) only [↓q_run_s, q_stop_n, q_stop_c, q_lg_c, q_ls_d, q_ld_n, q_ld_c, q_cat_i, q_cat_r, q_cat_n, q_wd_n, q_wd_c, q_bx_1, q_bx_2, q_bx_3, q_bx_4, q_bx_5, q_bx_6, q_bx_7, q_bx_8, q_pop_0, q_pop_s, ↓reduceIte, Nat.reduceEqDiff, reduceCtorEq, eq_self, Bool.false_eq_true, Nat.reduceAdd, Nat.reduceSub, Nat.reduceMul, Nat.reduceLeDiff, Nat.reduceLT, Nat.le_refl, Nat.zero_le, true_and, and_true, false_and, and_false, or_false, false_or, true_or, or_true, not_true_eq_false, not_false_eq_true, if_true, if_false, List.getElem?_cons_zero, List.getElem?_cons_succ, List.set_cons_zero, List.set_cons_succ, List.length_cons, List.length_nil, ↓tX1_numberOf_0, ↓tX1_numberOf_1, ↓tX1_numberOf_4, ↓tX1_numberOf_6, ↓tX1_numberOf_9, ↓tX1_numberOf_10, ↓tX1_numberOf_11, ↓tX1_numberOf_12, ↓tX1_numberOf_13, ↓tX1_numberOf_14, ↓tX1_numberOf_17, ↓tX1_numberOf_18, ↓tX1_numberOf_19, ↓tX1_numberOf_20, ↓tX1_numberOf_23, ↓tX1_numberOf_26, ↓tX1_numberOf_29, ↓tX1_numberOf_30, ↓tX1_numberOf_33, ↓tX1_numberOf_34, ↓tX1_numberOf_37, ↓tX1_numberOf_38, ↓tX1_numberOf_39, ↓tX1_numberOf_40, ↓tX1_numberOf_41, ↓tX1_numberOf_44, ↓tX1_numberOf_45, ↓oAl, ↓oCallV, ↓oGet, ↓oGo, ↓oIald, ↓oIf1le, ↓oIf2ge, ↓oIl, ↓oInc, ↓oIret, ↓oIs, ↓oK, ↓oMin, ↓oSub, q_set_s, q_set_n, ca_0, caO_len, q_up_a, caO_3, ca_a3, z_clamp, z_ltI, z_leI, z_eqI, z_lt0, z_ge0, z_eq0I, z_gt0I, z_le0I, z_m1lt, z_m1ge, z_m1eq, z_m1eq', z_inT, z_add, z_sub, z_mul, z_div, z_rem, n_ltT, n_ltF, n_leT, n_leF, n_eqT, n_eqF, z_11, q_tl_i, q_tl_n, q_ap_n, q_ap_c]
    refine q_X.lv2 _ ?_ h'
    exact ⟨rfl, rfl, rfl, rfl, trivial⟩
  | neg u ihu =>
    intro b A ht hb hv hw hc hC hQ
    obtain ⟨p, p1, p2, p3⟩ := bd _ hv hw hc
    obtain ⟨⟨h1, h2, h3⟩, hx⟩ := ht
    have hb : b + (1 + t_nodes u) ≤ sz := hb
    have hc' : 2 + t_cost u ≤ 10 := hc
    have pu := t_nodes_pos u
    have cu := t_cost_2 u
    refine ihu b A hx (by omega) hv hw (by omega) hC fun A1 m1 => ?_
    have C2 := nm_R_Cat m1 hC
    obtain ⟨a1, a2, a3, pa, a4, a5, a6⟩ := m1
    obtain ⟨x, x1, q1⟩ := p1
    have e1 := k_N_u u x pa x1 a4
    subst e1
    unfold nm_L at hQ ⊢
    refine q_X.run sX1_numberOf [] 20 ?_
    simp (maxSteps := 10000000) (disch := omega) only [↓q_run_s, q_stop_n, q_stop_c, q_lg_c, q_ls_d, q_ld_n, q_ld_c, q_cat_i, q_cat_r, q_cat_n, q_wd_n, q_wd_c, q_bx_1, q_bx_2, q_bx_3, q_bx_4, q_bx_5, q_bx_6, q_bx_7, q_bx_8, q_pop_0, q_pop_s, ↓reduceIte, Nat.reduceEqDiff, reduceCtorEq, eq_self, Bool.false_eq_true, Nat.reduceAdd, Nat.reduceSub, Nat.reduceMul, Nat.reduceLeDiff, Nat.reduceLT, Nat.le_refl, Nat.zero_le, true_and, and_true, false_and, and_false, or_false, false_or, true_or, or_true, not_true_eq_false, not_false_eq_true, if_true, if_false, List.getElem?_cons_zero, List.getElem?_cons_succ, List.set_cons_zero, List.set_cons_succ, List.length_cons, List.length_nil, ↓tX1_numberOf_0, ↓tX1_numberOf_1, ↓tX1_numberOf_4, ↓tX1_numberOf_6, ↓tX1_numberOf_9, ↓tX1_numberOf_10, ↓tX1_numberOf_11, ↓tX1_numberOf_12, ↓tX1_numberOf_13, ↓tX1_numberOf_14, ↓tX1_numberOf_17, ↓tX1_numberOf_18, ↓tX1_numberOf_19, ↓tX1_numberOf_20, ↓tX1_numberOf_23, ↓tX1_numberOf_26, ↓tX1_numberOf_29, ↓tX1_numberOf_30, ↓tX1_numberOf_33, ↓tX1_numberOf_34, ↓tX1_numberOf_37, ↓tX1_numberOf_38, ↓tX1_numberOf_39, ↓tX1_numberOf_40, ↓tX1_numberOf_41, ↓tX1_numberOf_44, ↓tX1_numberOf_45, ↓oAl, ↓oCallV, ↓oGet, ↓oGo, ↓oIald, ↓oIf1le, ↓oIf2ge, ↓oIl, ↓oInc, ↓oIret, ↓oIs, ↓oK, ↓oMin, ↓oSub, q_set_s, q_set_n, ca_0, caO_len, q_up_a, caO_3, ca_a3, z_clamp, z_ltI, z_leI, z_eqI, z_lt0, z_ge0, z_eq0I, z_gt0I, z_le0I, z_m1lt, z_m1ge, z_m1eq, z_m1eq', z_inT, z_add, z_sub, z_mul, z_div, z_rem, n_ltT, n_ltF, n_leT, n_leF, n_eqT, n_eqF, z_11, q_tl_i, q_tl_n, q_ap_n, q_ap_c]
    refine c1_nn1 (q := b + t_nodes u) (kd := 4) (p := p) hN hs hn hdj (by omega) C2 (by omega) (by omega) h1 h2 h3 (by decide) (by omega) a6 a3 a5 cu hc' q1 p3 fun A' hm => ?_
    have en : b + (1 + t_nodes u) - 1 = b + t_nodes u := by omega
    have h' := hQ A' ⟨fun f g1 g2 => by rw [hm.1 f g1 g2, a1 f g1 g2], fun q hq => ⟨by rw [hm.2.1, q_ud_n _ _ (by omega), (a2 q hq).1], by rw [hm.2.2.1 q (by omega), (a2 q hq).2]⟩, by
      show A' 4 (b + (1 + t_nodes u) - 1) = _
      rw [en]
      exact hm.2.2.2, p, ⟨x, x1, q1⟩, p2, by
      show A' 3 (b + (1 + t_nodes u) - 1) = _
      rw [en, hm.2.1, q_ud_s]⟩
    have h' : q_X G L d mX1_numberOf 0 0 Q 12 [(0, .ref i), (1, .ref j), (2, .int (nI sz)), (3, .int (nI (b + (1 + t_nodes u))))] [] (q_ca (q_nd M0 (i + 1) 4937 kc lc rc 4937) i A') 0 0 := h'
    rw [show b + (1 + t_nodes u) = b + t_nodes u + 1 by omega] at h'
    refine q_X.run sX1_numberOf [12] 20 ?_
    simp (maxSteps := 10000000) (disch := omega) only [↓q_run_s, q_stop_n, q_stop_c, q_lg_c, q_ls_d, q_ld_n, q_ld_c, q_cat_i, q_cat_r, q_cat_n, q_wd_n, q_wd_c, q_bx_1, q_bx_2, q_bx_3, q_bx_4, q_bx_5, q_bx_6, q_bx_7, q_bx_8, q_pop_0, q_pop_s, ↓reduceIte, Nat.reduceEqDiff, reduceCtorEq, eq_self, Bool.false_eq_true, Nat.reduceAdd, Nat.reduceSub, Nat.reduceMul, Nat.reduceLeDiff, Nat.reduceLT, Nat.le_refl, Nat.zero_le, true_and, and_true, false_and, and_false, or_false, false_or, true_or, or_true, not_true_eq_false, not_false_eq_true, if_true, if_false, List.getElem?_cons_zero, List.getElem?_cons_succ, List.set_cons_zero, List.set_cons_succ, List.length_cons, List.length_nil, ↓tX1_numberOf_0, ↓tX1_numberOf_1, ↓tX1_numberOf_4, ↓tX1_numberOf_6, ↓tX1_numberOf_9, ↓tX1_numberOf_10, ↓tX1_numberOf_11, ↓tX1_numberOf_12, ↓tX1_numberOf_13, ↓tX1_numberOf_14, ↓tX1_numberOf_17, ↓tX1_numberOf_18, ↓tX1_numberOf_19, ↓tX1_numberOf_20, ↓tX1_numberOf_23, ↓tX1_numberOf_26, ↓tX1_numberOf_29, ↓tX1_numberOf_30, ↓tX1_numberOf_33, ↓tX1_numberOf_34, ↓tX1_numberOf_37, ↓tX1_numberOf_38, ↓tX1_numberOf_39, ↓tX1_numberOf_40, ↓tX1_numberOf_41, ↓tX1_numberOf_44, ↓tX1_numberOf_45, ↓oAl, ↓oCallV, ↓oGet, ↓oGo, ↓oIald, ↓oIf1le, ↓oIf2ge, ↓oIl, ↓oInc, ↓oIret, ↓oIs, ↓oK, ↓oMin, ↓oSub, q_set_s, q_set_n, ca_0, caO_len, q_up_a, caO_3, ca_a3, z_clamp, z_ltI, z_leI, z_eqI, z_lt0, z_ge0, z_eq0I, z_gt0I, z_le0I, z_m1lt, z_m1ge, z_m1eq, z_m1eq', z_inT, z_add, z_sub, z_mul, z_div, z_rem, n_ltT, n_ltF, n_leT, n_leF, n_eqT, n_eqF, z_11, q_tl_i, q_tl_n, q_ap_n, q_ap_c]
    refine q_X.lv2 _ ?_ h'
    exact ⟨rfl, rfl, rfl, rfl, trivial⟩
  | mulL q0 u ihu =>
    intro b A ht hb hv hw hc hC hQ
    obtain ⟨p, p1, p2, p3⟩ := bd _ hv hw hc
    obtain ⟨⟨h1, h2, h3⟩, -, hx⟩ := ht
    have hb : b + (1 + t_nodes u) ≤ sz := hb
    have hc' : 2 + t_cost u ≤ 10 := hc
    have pu := t_nodes_pos u
    have cu := t_cost_2 u
    refine ihu b A hx (by omega) hv.2 hw (by omega) hC fun A1 m1 => ?_
    have C2 := nm_R_Cat m1 hC
    obtain ⟨a1, a2, a3, pa, a4, a5, a6⟩ := m1
    obtain ⟨x, x1, q1⟩ := p1
    have e1 := k_N_u u x pa x1 a4
    subst e1
    unfold nm_L at hQ ⊢
    refine q_X.run sX1_numberOf [] 20 ?_
    simp (maxSteps := 10000000) (disch := omega) only [↓q_run_s, q_stop_n, q_stop_c, q_lg_c, q_ls_d, q_ld_n, q_ld_c, q_cat_i, q_cat_r, q_cat_n, q_wd_n, q_wd_c, q_bx_1, q_bx_2, q_bx_3, q_bx_4, q_bx_5, q_bx_6, q_bx_7, q_bx_8, q_pop_0, q_pop_s, ↓reduceIte, Nat.reduceEqDiff, reduceCtorEq, eq_self, Bool.false_eq_true, Nat.reduceAdd, Nat.reduceSub, Nat.reduceMul, Nat.reduceLeDiff, Nat.reduceLT, Nat.le_refl, Nat.zero_le, true_and, and_true, false_and, and_false, or_false, false_or, true_or, or_true, not_true_eq_false, not_false_eq_true, if_true, if_false, List.getElem?_cons_zero, List.getElem?_cons_succ, List.set_cons_zero, List.set_cons_succ, List.length_cons, List.length_nil, ↓tX1_numberOf_0, ↓tX1_numberOf_1, ↓tX1_numberOf_4, ↓tX1_numberOf_6, ↓tX1_numberOf_9, ↓tX1_numberOf_10, ↓tX1_numberOf_11, ↓tX1_numberOf_12, ↓tX1_numberOf_13, ↓tX1_numberOf_14, ↓tX1_numberOf_17, ↓tX1_numberOf_18, ↓tX1_numberOf_19, ↓tX1_numberOf_20, ↓tX1_numberOf_23, ↓tX1_numberOf_26, ↓tX1_numberOf_29, ↓tX1_numberOf_30, ↓tX1_numberOf_33, ↓tX1_numberOf_34, ↓tX1_numberOf_37, ↓tX1_numberOf_38, ↓tX1_numberOf_39, ↓tX1_numberOf_40, ↓tX1_numberOf_41, ↓tX1_numberOf_44, ↓tX1_numberOf_45, ↓oAl, ↓oCallV, ↓oGet, ↓oGo, ↓oIald, ↓oIf1le, ↓oIf2ge, ↓oIl, ↓oInc, ↓oIret, ↓oIs, ↓oK, ↓oMin, ↓oSub, q_set_s, q_set_n, ca_0, caO_len, q_up_a, caO_3, ca_a3, z_clamp, z_ltI, z_leI, z_eqI, z_lt0, z_ge0, z_eq0I, z_gt0I, z_le0I, z_m1lt, z_m1ge, z_m1eq, z_m1eq', z_inT, z_add, z_sub, z_mul, z_div, z_rem, n_ltT, n_ltF, n_leT, n_leF, n_eqT, n_eqF, z_11, q_tl_i, q_tl_n, q_ap_n, q_ap_c]
    refine c1_nn1 (q := b + t_nodes u) (kd := 5) (p := p) hN hs hn hdj (by omega) C2 (by omega) (by omega) h1 h2 h3 (by decide) (by omega) a6 a3 a5 cu hc' q1 p3 fun A' hm => ?_
    have en : b + (1 + t_nodes u) - 1 = b + t_nodes u := by omega
    have h' := hQ A' ⟨fun f g1 g2 => by rw [hm.1 f g1 g2, a1 f g1 g2], fun q hq => ⟨by rw [hm.2.1, q_ud_n _ _ (by omega), (a2 q hq).1], by rw [hm.2.2.1 q (by omega), (a2 q hq).2]⟩, by
      show A' 4 (b + (1 + t_nodes u) - 1) = _
      rw [en]
      exact hm.2.2.2, p, ⟨x, x1, q1⟩, p2, by
      show A' 3 (b + (1 + t_nodes u) - 1) = _
      rw [en, hm.2.1, q_ud_s]⟩
    have h' : q_X G L d mX1_numberOf 0 0 Q 12 [(0, .ref i), (1, .ref j), (2, .int (nI sz)), (3, .int (nI (b + (1 + t_nodes u))))] [] (q_ca (q_nd M0 (i + 1) 4937 kc lc rc 4937) i A') 0 0 := h'
    rw [show b + (1 + t_nodes u) = b + t_nodes u + 1 by omega] at h'
    refine q_X.run sX1_numberOf [12] 20 ?_
    simp (maxSteps := 10000000) (disch := omega) only [↓q_run_s, q_stop_n, q_stop_c, q_lg_c, q_ls_d, q_ld_n, q_ld_c, q_cat_i, q_cat_r, q_cat_n, q_wd_n, q_wd_c, q_bx_1, q_bx_2, q_bx_3, q_bx_4, q_bx_5, q_bx_6, q_bx_7, q_bx_8, q_pop_0, q_pop_s, ↓reduceIte, Nat.reduceEqDiff, reduceCtorEq, eq_self, Bool.false_eq_true, Nat.reduceAdd, Nat.reduceSub, Nat.reduceMul, Nat.reduceLeDiff, Nat.reduceLT, Nat.le_refl, Nat.zero_le, true_and, and_true, false_and, and_false, or_false, false_or, true_or, or_true, not_true_eq_false, not_false_eq_true, if_true, if_false, List.getElem?_cons_zero, List.getElem?_cons_succ, List.set_cons_zero, List.set_cons_succ, List.length_cons, List.length_nil, ↓tX1_numberOf_0, ↓tX1_numberOf_1, ↓tX1_numberOf_4, ↓tX1_numberOf_6, ↓tX1_numberOf_9, ↓tX1_numberOf_10, ↓tX1_numberOf_11, ↓tX1_numberOf_12, ↓tX1_numberOf_13, ↓tX1_numberOf_14, ↓tX1_numberOf_17, ↓tX1_numberOf_18, ↓tX1_numberOf_19, ↓tX1_numberOf_20, ↓tX1_numberOf_23, ↓tX1_numberOf_26, ↓tX1_numberOf_29, ↓tX1_numberOf_30, ↓tX1_numberOf_33, ↓tX1_numberOf_34, ↓tX1_numberOf_37, ↓tX1_numberOf_38, ↓tX1_numberOf_39, ↓tX1_numberOf_40, ↓tX1_numberOf_41, ↓tX1_numberOf_44, ↓tX1_numberOf_45, ↓oAl, ↓oCallV, ↓oGet, ↓oGo, ↓oIald, ↓oIf1le, ↓oIf2ge, ↓oIl, ↓oInc, ↓oIret, ↓oIs, ↓oK, ↓oMin, ↓oSub, q_set_s, q_set_n, ca_0, caO_len, q_up_a, caO_3, ca_a3, z_clamp, z_ltI, z_leI, z_eqI, z_lt0, z_ge0, z_eq0I, z_gt0I, z_le0I, z_m1lt, z_m1ge, z_m1eq, z_m1eq', z_inT, z_add, z_sub, z_mul, z_div, z_rem, n_ltT, n_ltF, n_leT, n_leF, n_eqT, n_eqF, z_11, q_tl_i, q_tl_n, q_ap_n, q_ap_c]
    refine q_X.lv2 _ ?_ h'
    exact ⟨rfl, rfl, rfl, rfl, trivial⟩
  | mulR u q0 ihu =>
    intro b A ht
    exact ht.elim
theorem t_no_vd {k l r : Nat → Int32} : ∀ (t : qT) (b : Nat), t_no k l r t b → t_vd t
  | .num _, _, h => h.2
  | .var _, _, h => h.2
  | .add x y, _, ⟨_, h1, h2⟩ => ⟨t_no_vd x _ h1, t_no_vd y _ h2⟩
  | .sub x y, _, ⟨_, h1, h2⟩ => ⟨t_no_vd x _ h1, t_no_vd y _ h2⟩
  | .neg x, _, ⟨_, h1⟩ => t_no_vd x _ h1
  | .mulL _ x, _, ⟨_, h0, h1⟩ => ⟨h0, t_no_vd x _ h1⟩
  | .mulR _ _, _, h => h.elim
set_option maxRecDepth 100000 in
set_option maxHeartbeats 8000000 in
theorem c1_numberOf {t : qT} (hN : q_isN M0 j n k l r (t_nodes t)) (hs : t_nodes t ≤ n) (hn : n < 100000) (h12 : t_nodes t ≤ 12) (hdj : j + 4 ≤ i ∨ i + 9 ≤ j) (hd : 5 ≤ d) (ht : t_no k l r t 0) (hw : t_wf t) (hc : t_cost t ≤ 10) (hC : k_Cat A kc lc rc) (hQ : ∀ A' p, k_N t p → p < 4937 → k_Cat A' kc lc rc → Q (some (.int (nI p))) (q_ca (q_nd M0 (i + 1) 4937 kc lc rc 4937) i A')) : q_Call G L d mX1_numberOf 0 0 [.ref i, .ref j] (q_ca (q_nd M0 (i + 1) 4937 kc lc rc 4937) i A) Q := by
  have hp := t_nodes_pos t
  have hN' := ca_isN (A := A) (kc := kc) (lc := lc) (rc := rc) (z := 4937) hN hdj
  have hj := hN'.1
  have h' := c1_rows (G := G) (L := L) (Q := Q) hN hs hn h12 hdj hd t 0 A ht (by omega) (t_no_vd t 0 ht) hw hc hC (fun A' hm => by
    obtain ⟨p, p1, p2, p3⟩ := hm.2.2.2
    rw [Nat.zero_add] at p3
    have h' := hQ A' p p1 p2 (nm_R_Cat hm hC)
    unfold nm_L
    rw [Nat.zero_add]
    refine q_X.run sX1_numberOf [] 40 ?_
    simp (maxSteps := 10000000) (disch := omega) only [↓q_run_s, q_stop_n, q_stop_c, q_lg_c, q_ls_d, q_ld_n, q_ld_c, q_cat_i, q_cat_r, q_cat_n, q_wd_n, q_wd_c, q_bx_1, q_bx_2, q_bx_3, q_bx_4, q_bx_5, q_bx_6, q_bx_7, q_bx_8, q_pop_0, q_pop_s, ↓reduceIte, Nat.reduceEqDiff, reduceCtorEq, eq_self, Bool.false_eq_true, Nat.reduceAdd, Nat.reduceSub, Nat.reduceMul, Nat.reduceLeDiff, Nat.reduceLT, Nat.le_refl, Nat.zero_le, true_and, and_true, false_and, and_false, or_false, false_or, true_or, or_true, not_true_eq_false, not_false_eq_true, if_true, if_false, List.getElem?_cons_zero, List.getElem?_cons_succ, List.set_cons_zero, List.set_cons_succ, List.length_cons, List.length_nil, ↓tX1_numberOf_0, ↓tX1_numberOf_1, ↓tX1_numberOf_4, ↓tX1_numberOf_6, ↓tX1_numberOf_9, ↓tX1_numberOf_10, ↓tX1_numberOf_11, ↓tX1_numberOf_12, ↓tX1_numberOf_13, ↓tX1_numberOf_14, ↓tX1_numberOf_17, ↓tX1_numberOf_18, ↓tX1_numberOf_19, ↓tX1_numberOf_20, ↓tX1_numberOf_23, ↓tX1_numberOf_26, ↓tX1_numberOf_29, ↓tX1_numberOf_30, ↓tX1_numberOf_33, ↓tX1_numberOf_34, ↓tX1_numberOf_37, ↓tX1_numberOf_38, ↓tX1_numberOf_39, ↓tX1_numberOf_40, ↓tX1_numberOf_41, ↓tX1_numberOf_44, ↓tX1_numberOf_45, ↓oAl, ↓oCallV, ↓oGet, ↓oGo, ↓oIald, ↓oIf1le, ↓oIf2ge, ↓oIl, ↓oInc, ↓oIret, ↓oIs, ↓oK, ↓oMin, ↓oSub, q_set_s, q_set_n, ca_0, caO_len, q_up_a, caO_3, ca_a3, z_clamp, z_ltI, z_leI, z_eqI, z_lt0, z_ge0, z_eq0I, z_gt0I, z_le0I, z_m1lt, z_m1ge, z_m1eq, z_m1eq', z_inT, z_add, z_sub, z_mul, z_div, z_rem, n_ltT, n_ltF, n_leT, n_leF, n_eqT, n_eqF, z_11, q_tl_i, q_tl_n, q_ap_n, q_ap_c, p3]
    exact h')
  unfold nm_L at h'
  refine q_Call.of [(0, .ref i), (1, .ref j)] rfl ?_
  refine q_X.run sX1_numberOf [] 20 ?_
  simp (maxSteps := 10000000) (disch := omega) only [↓q_run_s, q_stop_n, q_stop_c, q_lg_c, q_ls_d, q_ld_n, q_ld_c, q_cat_i, q_cat_r, q_cat_n, q_wd_n, q_wd_c, q_bx_1, q_bx_2, q_bx_3, q_bx_4, q_bx_5, q_bx_6, q_bx_7, q_bx_8, q_pop_0, q_pop_s, ↓reduceIte, Nat.reduceEqDiff, reduceCtorEq, eq_self, Bool.false_eq_true, Nat.reduceAdd, Nat.reduceSub, Nat.reduceMul, Nat.reduceLeDiff, Nat.reduceLT, Nat.le_refl, Nat.zero_le, true_and, and_true, false_and, and_false, or_false, false_or, true_or, or_true, not_true_eq_false, not_false_eq_true, if_true, if_false, List.getElem?_cons_zero, List.getElem?_cons_succ, List.set_cons_zero, List.set_cons_succ, List.length_cons, List.length_nil, ↓tX1_numberOf_0, ↓tX1_numberOf_1, ↓tX1_numberOf_4, ↓tX1_numberOf_6, ↓tX1_numberOf_9, ↓tX1_numberOf_10, ↓tX1_numberOf_11, ↓tX1_numberOf_12, ↓tX1_numberOf_13, ↓tX1_numberOf_14, ↓tX1_numberOf_17, ↓tX1_numberOf_18, ↓tX1_numberOf_19, ↓tX1_numberOf_20, ↓tX1_numberOf_23, ↓tX1_numberOf_26, ↓tX1_numberOf_29, ↓tX1_numberOf_30, ↓tX1_numberOf_33, ↓tX1_numberOf_34, ↓tX1_numberOf_37, ↓tX1_numberOf_38, ↓tX1_numberOf_39, ↓tX1_numberOf_40, ↓tX1_numberOf_41, ↓tX1_numberOf_44, ↓tX1_numberOf_45, ↓oAl, ↓oCallV, ↓oGet, ↓oGo, ↓oIald, ↓oIf1le, ↓oIf2ge, ↓oIl, ↓oInc, ↓oIret, ↓oIs, ↓oK, ↓oMin, ↓oSub, q_set_s, q_set_n, ca_0, caO_len, q_up_a, caO_3, ca_a3, z_clamp, z_ltI, z_leI, z_eqI, z_lt0, z_ge0, z_eq0I, z_gt0I, z_le0I, z_m1lt, z_m1ge, z_m1eq, z_m1eq', z_inT, z_add, z_sub, z_mul, z_div, z_rem, n_ltT, n_ltF, n_leT, n_leF, n_eqT, n_eqF, z_11, q_tl_i, q_tl_n, q_ap_n, q_ap_c, hj]
  refine d4_size hN' ?_
  refine q_X.run sX1_numberOf [12] 20 ?_
  simp (maxSteps := 10000000) (disch := omega) only [↓q_run_s, q_stop_n, q_stop_c, q_lg_c, q_ls_d, q_ld_n, q_ld_c, q_cat_i, q_cat_r, q_cat_n, q_wd_n, q_wd_c, q_bx_1, q_bx_2, q_bx_3, q_bx_4, q_bx_5, q_bx_6, q_bx_7, q_bx_8, q_pop_0, q_pop_s, ↓reduceIte, Nat.reduceEqDiff, reduceCtorEq, eq_self, Bool.false_eq_true, Nat.reduceAdd, Nat.reduceSub, Nat.reduceMul, Nat.reduceLeDiff, Nat.reduceLT, Nat.le_refl, Nat.zero_le, true_and, and_true, false_and, and_false, or_false, false_or, true_or, or_true, not_true_eq_false, not_false_eq_true, if_true, if_false, List.getElem?_cons_zero, List.getElem?_cons_succ, List.set_cons_zero, List.set_cons_succ, List.length_cons, List.length_nil, ↓tX1_numberOf_0, ↓tX1_numberOf_1, ↓tX1_numberOf_4, ↓tX1_numberOf_6, ↓tX1_numberOf_9, ↓tX1_numberOf_10, ↓tX1_numberOf_11, ↓tX1_numberOf_12, ↓tX1_numberOf_13, ↓tX1_numberOf_14, ↓tX1_numberOf_17, ↓tX1_numberOf_18, ↓tX1_numberOf_19, ↓tX1_numberOf_20, ↓tX1_numberOf_23, ↓tX1_numberOf_26, ↓tX1_numberOf_29, ↓tX1_numberOf_30, ↓tX1_numberOf_33, ↓tX1_numberOf_34, ↓tX1_numberOf_37, ↓tX1_numberOf_38, ↓tX1_numberOf_39, ↓tX1_numberOf_40, ↓tX1_numberOf_41, ↓tX1_numberOf_44, ↓tX1_numberOf_45, ↓oAl, ↓oCallV, ↓oGet, ↓oGo, ↓oIald, ↓oIf1le, ↓oIf2ge, ↓oIl, ↓oInc, ↓oIret, ↓oIs, ↓oK, ↓oMin, ↓oSub, q_set_s, q_set_n, ca_0, caO_len, q_up_a, caO_3, ca_a3, z_clamp, z_ltI, z_leI, z_eqI, z_lt0, z_ge0, z_eq0I, z_gt0I, z_le0I, z_m1lt, z_m1ge, z_m1eq, z_m1eq', z_inT, z_add, z_sub, z_mul, z_div, z_rem, n_ltT, n_ltF, n_leT, n_leF, n_eqT, n_eqF, z_11, q_tl_i, q_tl_n, q_ap_n, q_ap_c]
  refine q_X.lv2 _ ?_ h'
  exact ⟨rfl, rfl, rfl, rfl, trivial⟩
set_option maxRecDepth 100000 in
set_option maxHeartbeats 8000000 in
theorem c1_size {M : qM} {c : Nat} (hM : q_ca M i A = M) (hC : ∀ c, 2 ≤ c → c ≤ 11 → A 1 c = nI (k_F c)) (hc2 : 2 ≤ c) (hc : c ≤ 10) (hd : 2 ≤ d) (hQ : Q (some (.int (nI (k_F (c + 1) - k_F c)))) M) : q_Call G L d mX1_size 0 0 [.ref i, .int (nI c)] M Q := by
  have h0 : M.2 i = some (.inr (1, caO i)) := by rw [← hM]; exact ca_0
  have b1 := hC c hc2 (by omega)
  have b2 := hC (c + 1) (by omega) (by omega)
  have hl := k_F_le c
  refine q_Call.of [(0, .ref i), (1, .int (nI c))] rfl ?_
  refine q_X.run sX1_size [] 30 ?_
  simp (maxSteps := 10000000) (disch := omega) only [↓q_run_s, q_stop_n, q_stop_c, q_lg_c, q_ls_d, q_ld_n, q_ld_c, q_cat_i, q_cat_r, q_cat_n, q_wd_n, q_wd_c, q_bx_1, q_bx_2, q_bx_3, q_bx_4, q_bx_5, q_bx_6, q_bx_7, q_bx_8, q_pop_0, q_pop_s, ↓reduceIte, Nat.reduceEqDiff, reduceCtorEq, eq_self, Bool.false_eq_true, Nat.reduceAdd, Nat.reduceSub, Nat.reduceMul, Nat.reduceLeDiff, Nat.reduceLT, Nat.le_refl, Nat.zero_le, true_and, and_true, false_and, and_false, or_false, false_or, true_or, or_true, not_true_eq_false, not_false_eq_true, if_true, if_false, List.getElem?_cons_zero, List.getElem?_cons_succ, List.set_cons_zero, List.set_cons_succ, List.length_cons, List.length_nil, ↓tX1_size_0, ↓tX1_size_1, ↓tX1_size_2, ↓tX1_size_5, ↓tX1_size_6, ↓tX1_size_7, ↓tX1_size_10, ↓tX1_size_11, ↓oAl, ↓oCallV, ↓oIl, ↓oIret, ↓oSub, q_set_s, q_set_n, ca_0, caO_len, q_up_a, z_clamp, z_ltI, z_leI, z_eqI, z_lt0, z_ge0, z_eq0I, z_gt0I, z_le0I, z_m1lt, z_m1ge, z_m1eq, z_m1eq', z_inT, z_add, z_sub, z_mul, z_div, z_rem, n_ltT, n_ltF, n_leT, n_leF, n_eqT, n_eqF, z_11, q_tl_i, q_tl_n, q_ap_n, q_ap_c, h0]
  refine c1_end hM (by omega) (by omega) ?_
  rw [b2]
  refine q_X.run sX1_size [] 30 ?_
  simp (maxSteps := 10000000) (disch := omega) only [↓q_run_s, q_stop_n, q_stop_c, q_lg_c, q_ls_d, q_ld_n, q_ld_c, q_cat_i, q_cat_r, q_cat_n, q_wd_n, q_wd_c, q_bx_1, q_bx_2, q_bx_3, q_bx_4, q_bx_5, q_bx_6, q_bx_7, q_bx_8, q_pop_0, q_pop_s, ↓reduceIte, Nat.reduceEqDiff, reduceCtorEq, eq_self, Bool.false_eq_true, Nat.reduceAdd, Nat.reduceSub, Nat.reduceMul, Nat.reduceLeDiff, Nat.reduceLT, Nat.le_refl, Nat.zero_le, true_and, and_true, false_and, and_false, or_false, false_or, true_or, or_true, not_true_eq_false, not_false_eq_true, if_true, if_false, List.getElem?_cons_zero, List.getElem?_cons_succ, List.set_cons_zero, List.set_cons_succ, List.length_cons, List.length_nil, ↓tX1_size_0, ↓tX1_size_1, ↓tX1_size_2, ↓tX1_size_5, ↓tX1_size_6, ↓tX1_size_7, ↓tX1_size_10, ↓tX1_size_11, ↓oAl, ↓oCallV, ↓oIl, ↓oIret, ↓oSub, q_set_s, q_set_n, ca_0, caO_len, q_up_a, z_clamp, z_ltI, z_leI, z_eqI, z_lt0, z_ge0, z_eq0I, z_gt0I, z_le0I, z_m1lt, z_m1ge, z_m1eq, z_m1eq', z_inT, z_add, z_sub, z_mul, z_div, z_rem, n_ltT, n_ltF, n_leT, n_leF, n_eqT, n_eqF, z_11, q_tl_i, q_tl_n, q_ap_n, q_ap_c, h0]
  refine c1_begin hM (by omega) ?_
  rw [b1]
  refine q_X.run sX1_size [] 30 ?_
  simp (maxSteps := 10000000) (disch := omega) only [↓q_run_s, q_stop_n, q_stop_c, q_lg_c, q_ls_d, q_ld_n, q_ld_c, q_cat_i, q_cat_r, q_cat_n, q_wd_n, q_wd_c, q_bx_1, q_bx_2, q_bx_3, q_bx_4, q_bx_5, q_bx_6, q_bx_7, q_bx_8, q_pop_0, q_pop_s, ↓reduceIte, Nat.reduceEqDiff, reduceCtorEq, eq_self, Bool.false_eq_true, Nat.reduceAdd, Nat.reduceSub, Nat.reduceMul, Nat.reduceLeDiff, Nat.reduceLT, Nat.le_refl, Nat.zero_le, true_and, and_true, false_and, and_false, or_false, false_or, true_or, or_true, not_true_eq_false, not_false_eq_true, if_true, if_false, List.getElem?_cons_zero, List.getElem?_cons_succ, List.set_cons_zero, List.set_cons_succ, List.length_cons, List.length_nil, ↓tX1_size_0, ↓tX1_size_1, ↓tX1_size_2, ↓tX1_size_5, ↓tX1_size_6, ↓tX1_size_7, ↓tX1_size_10, ↓tX1_size_11, ↓oAl, ↓oCallV, ↓oIl, ↓oIret, ↓oSub, q_set_s, q_set_n, ca_0, caO_len, q_up_a, z_clamp, z_ltI, z_leI, z_eqI, z_lt0, z_ge0, z_eq0I, z_gt0I, z_le0I, z_m1lt, z_m1ge, z_m1eq, z_m1eq', z_inT, z_add, z_sub, z_mul, z_div, z_rem, n_ltT, n_ltF, n_leT, n_leF, n_eqT, n_eqF, z_11, q_tl_i, q_tl_n, q_ap_n, q_ap_c]
  exact hQ
set_option maxRecDepth 100000 in
set_option maxHeartbeats 8000000 in
theorem c1_nodes {M : qM} (hM : q_ca M i A = M) (hQ : Q (some (.ref (i + 1))) M) : q_Call G L d mX1_nodes 0 0 [.ref i] M Q := by
  have h0 : M.2 i = some (.inr (1, caO i)) := by rw [← hM]; exact ca_0
  refine q_Call.of [(0, .ref i)] rfl ?_
  refine q_X.run sX1_nodes [] 30 ?_
  simp (maxSteps := 10000000) (disch := omega) only [↓q_run_s, q_stop_n, q_stop_c, q_lg_c, q_ls_d, q_ld_n, q_ld_c, q_cat_i, q_cat_r, q_cat_n, q_wd_n, q_wd_c, q_bx_1, q_bx_2, q_bx_3, q_bx_4, q_bx_5, q_bx_6, q_bx_7, q_bx_8, q_pop_0, q_pop_s, ↓reduceIte, Nat.reduceEqDiff, reduceCtorEq, eq_self, Bool.false_eq_true, Nat.reduceAdd, Nat.reduceSub, Nat.reduceMul, Nat.reduceLeDiff, Nat.reduceLT, Nat.le_refl, Nat.zero_le, true_and, and_true, false_and, and_false, or_false, false_or, true_or, or_true, not_true_eq_false, not_false_eq_true, if_true, if_false, List.getElem?_cons_zero, List.getElem?_cons_succ, List.set_cons_zero, List.set_cons_succ, List.length_cons, List.length_nil, ↓tX1_nodes_0, ↓tX1_nodes_1, ↓tX1_nodes_4, ↓oAl, ↓oAret, ↓oGet, q_set_s, q_set_n, ca_0, caO_len, q_up_a, caO_0, z_clamp, z_ltI, z_leI, z_eqI, z_lt0, z_ge0, z_eq0I, z_gt0I, z_le0I, z_m1lt, z_m1ge, z_m1eq, z_m1eq', z_inT, z_add, z_sub, z_mul, z_div, z_rem, n_ltT, n_ltF, n_leT, n_leF, n_eqT, n_eqF, z_11, q_tl_i, q_tl_n, q_ap_n, q_ap_c, h0]
  exact hQ
end
