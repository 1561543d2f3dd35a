/-! the reference: find0, about, nth -/
theorem q_oi_eq {a b : Option Nat} (ha : ∀ j, a = some j → j < 2147483648) (hb : ∀ j, b = some j → j < 2147483648) : (q_oi a = q_oi b) = (a = b) := by
  cases a with
  | none =>
    cases b with
    | none => exact propext ⟨fun _ => rfl, fun _ => rfl⟩
    | some y => exact propext ⟨fun h => by
        have e := z_m1eq' (hb y rfl)
        have h : (-1 : Int32) = nI y := h
        rw [e] at h
        exact h.elim, fun h => by cases h⟩
  | some x =>
    cases b with
    | none => exact propext ⟨fun h => by
        have e := z_m1eq (ha x rfl)
        have h : nI x = (-1 : Int32) := h
        rw [e] at h
        exact h.elim, fun h => by cases h⟩
    | some y => exact propext ⟨fun h => by
        have e := z_eqI (ha x rfl) (hb y rfl)
        have h : nI x = nI y := h
        rw [e] at h
        rw [h], fun h => by cases h; rfl⟩
/-- the parts' numbers, as a node has them -/
def k_px (kd : Nat) (x : Nat) : Option Nat := if kd < 2 then none else some x
def k_py (kd : Nat) (y : Nat) : Option Nat := if kd = 2 ∨ kd = 3 then some y else none
def k_pv (kd : Nat) (x : Nat) : Nat := if kd < 2 then x else 0
theorem k_match {p kd x y : Nat} {e : kE} (h : (k_T 11)[p]? = some e) (hy : kd ≠ 2 → kd ≠ 3 → y = 0) : k_mt p kd x y ↔ (t_kind e.2.2 = kd ∧ k_val e = k_pv kd x ∧ k_one e = k_px kd x ∧ k_two e = k_py kd y) := by
  obtain ⟨-, hE, -⟩ := k_E_11 h
  constructor
  · rintro ⟨t, h1, h2⟩
    rw [h] at h1
    cases h1
    subst h2
    exact ⟨rfl, rfl, rfl, rfl⟩
  · rintro ⟨h1, h2, h3, h4⟩
    obtain ⟨ex, ey, et⟩ := e
    have h1 : t_kind et = kd := h1
    subst h1
    have e1 : ex = x := by
      unfold k_val k_pv at h2
      unfold k_one k_px at h3
      by_cases c : t_kind et < 2
      · rw [if_pos c, if_pos c] at h2; exact h2
      · rw [if_neg c, if_neg c] at h3; exact Option.some.inj h3
    have e2 : ey = y := by
      unfold k_two k_py at h4
      by_cases c : t_kind et = 2 ∨ t_kind et = 3
      · rw [if_pos c, if_pos c] at h4; exact Option.some.inj h4
      · have hy0 := hy (fun g => c (Or.inl g)) (fun g => c (Or.inr g))
        rw [hy0]
        cases et with
        | num v => exact hE.2.1
        | var v => exact hE.2.1
        | add u w => exact absurd (Or.inl rfl) c
        | sub u w => exact absurd (Or.inr rfl) c
        | neg u => exact hE.2.1
        | mulL q u => exact hE.2.2.1
        | mulR u q => exact hE.elim
    subst e1 e2
    exact ⟨et, h, rfl⟩
section
variable {G : qC} {L : Launch} {d : Nat} {Q : Option Value → qM → Prop} {M0 : qM} {r : Nat} {s : Nat → Int32} {A : Nat → Nat → Int32} {B : Nat → Nat → Int64}
set_option maxRecDepth 100000 in
set_option maxHeartbeats 8000000 in
theorem c12_findL {n c kd x y p : Nat} {nx ny : Int32} (hh : k_hM A (k_T 11)) (hn : n < 6400) (h3 : A 3 n = nI kd) (h4 : A 4 n = nI (k_pv kd x)) (hkd : kd < 6) (hx : x < 100000) (hy : y < 100000) (hy0 : kd ≠ 2 → kd ≠ 3 → y = 0) (hnx : nx = q_oi (k_px kd x)) (hny : ny = q_oi (k_py kd y)) (hp : k_fst c kd x y p) (hQ : Q (some (.int (nI p))) (q_md M0 r s A B)) : ∀ (g q : Nat), g + q = p → k_F c ≤ q → q_X G L d mX12_find0 0 0 Q 61 [(0, .ref r), (1, .int (nI n)), (2, .int nx), (3, .int ny), (4, .int (nI q))] [] (q_md M0 r s A B) 0 0 := by
  subst hnx hny
  obtain ⟨hp1, ⟨tp, hp2, hp3⟩, hp4⟩ := hp
  have hp9 : p < 4937 := (k_E_11 hp2).1
  intro g
  induction g with
  | zero =>
    intro q hq hq2
    have e : q = p := by omega
    subst e
    obtain ⟨g0, g3, g4, g5, g6, -⟩ := hh q _ hp2
    obtain ⟨m1, m2, m3, m4⟩ := (k_match hp2 hy0).mp ⟨tp, hp2, hp3⟩
    rw [m1] at g3
    rw [m2] at g4
    rw [m3] at g5
    rw [m4] at g6
    refine q_X.run sX12_find0 [] 60 ?_
    simp (maxSteps := 10000000) (disch := omega) only [↓q_run_s, q_stop_n, q_stop_c, q_lg_c, q_ls_d, q_ld_n, q_ld_c, q_cat_i, q_cat_r, q_cat_n, q_wd_n, q_wd_c, q_bx_1, q_bx_2, q_bx_3, q_bx_4, q_bx_5, q_bx_6, q_bx_7, q_bx_8, q_pop_0, q_pop_s, ↓reduceIte, Nat.reduceEqDiff, reduceCtorEq, eq_self, Bool.false_eq_true, Nat.reduceAdd, Nat.reduceSub, Nat.reduceMul, Nat.reduceLeDiff, Nat.reduceLT, Nat.le_refl, Nat.zero_le, true_and, and_true, false_and, and_false, or_false, false_or, true_or, or_true, not_true_eq_false, not_false_eq_true, if_true, if_false, List.getElem?_cons_zero, List.getElem?_cons_succ, List.set_cons_zero, List.set_cons_succ, List.length_cons, List.length_nil, ↓tX12_find0_0, ↓tX12_find0_1, ↓tX12_find0_4, ↓tX12_find0_5, ↓tX12_find0_6, ↓tX12_find0_9, ↓tX12_find0_10, ↓tX12_find0_13, ↓tX12_find0_14, ↓tX12_find0_15, ↓tX12_find0_18, ↓tX12_find0_19, ↓tX12_find0_20, ↓tX12_find0_23, ↓tX12_find0_24, ↓tX12_find0_25, ↓tX12_find0_28, ↓tX12_find0_29, ↓tX12_find0_30, ↓tX12_find0_33, ↓tX12_find0_34, ↓tX12_find0_37, ↓tX12_find0_38, ↓tX12_find0_39, ↓tX12_find0_42, ↓tX12_find0_43, ↓tX12_find0_44, ↓tX12_find0_47, ↓tX12_find0_48, ↓tX12_find0_49, ↓tX12_find0_52, ↓tX12_find0_53, ↓tX12_find0_56, ↓tX12_find0_57, ↓tX12_find0_58, ↓tX12_find0_59, ↓tX12_find0_61, ↓tX12_find0_62, ↓tX12_find0_65, ↓tX12_find0_67, ↓tX12_find0_68, ↓tX12_find0_69, ↓tX12_find0_72, ↓tX12_find0_73, ↓tX12_find0_74, ↓tX12_find0_77, ↓tX12_find0_78, ↓tX12_find0_81, ↓tX12_find0_83, ↓tX12_find0_84, ↓tX12_find0_85, ↓tX12_find0_88, ↓tX12_find0_89, ↓tX12_find0_90, ↓tX12_find0_93, ↓tX12_find0_94, ↓tX12_find0_97, ↓tX12_find0_99, ↓tX12_find0_100, ↓tX12_find0_101, ↓tX12_find0_104, ↓tX12_find0_105, ↓tX12_find0_108, ↓tX12_find0_110, ↓tX12_find0_111, ↓tX12_find0_112, ↓tX12_find0_115, ↓tX12_find0_118, ↓tX12_find0_121, ↓tX12_find0_123, ↓oAl, ↓oCallV, ↓oGet, ↓oGo, ↓oIald, ↓oIf1ge, ↓oIf2eq, ↓oIf2ne, ↓oIl, ↓oInc, ↓oIret, ↓oIs, ↓oK, q_set_s, q_set_n, q_md_0, mO_len, q_up_a, mO_5, md_5, mO_6, md_6, mO_12, md_12, mO_7, md_7, mO_3, md_3, mO_4, md_4, z_clamp, z_ltI, z_leI, z_eqI, z_lt0, z_ge0, z_eq0I, z_gt0I, z_le0I, z_m1lt, z_m1ge, z_m1eq, z_m1eq', z_inT, z_add, z_sub, z_mul, z_div, z_rem, n_ltT, n_ltF, n_leT, n_leF, n_eqT, n_eqF, z_11, q_tl_i, q_tl_n, q_ap_n, q_ap_c, g3, g4, g5, g6, h3, h4]
    exact hQ
  | succ g ih =>
    intro q hq hq2
    have hnm := hp4 q hq2 (by omega)
    have hlen : q < (k_T 11).length := by
      have : (k_T 11).length = 4937 := k_4937
      omega
    obtain ⟨e, he⟩ : ∃ e, (k_T 11)[q]? = some e := ⟨_, List.getElem?_eq_getElem hlen⟩
    obtain ⟨g0, g3, g4, g5, g6, -⟩ := hh q e he
    obtain ⟨-, hE, -⟩ := k_E_11 he
    have hk6 := t_kind_lt e.2.2
    rw [k_match he hy0] at hnm
    have h' := ih (q + 1) (by omega) (by omega)
    have hex : ∀ j, k_one e = some j → j < 2147483648 := fun j hj => by
      unfold k_one at hj
      by_cases cc : t_kind e.2.2 < 2
      · rw [if_pos cc] at hj; cases hj
      · rw [if_neg cc] at hj
        cases hj
        obtain ⟨ex, ey, et⟩ := e
        cases et with
        | num v => exact absurd (by decide : (0 : Nat) < 2) cc
        | var v => exact absurd (by decide : (1 : Nat) < 2) cc
        | add u w => have := hE.1; show ex < _; omega
        | sub u w => have := hE.1; show ex < _; omega
        | neg u => have := hE.1; show ex < _; omega
        | mulL k u => have := hE.2.1; show ex < _; omega
        | mulR u k => exact hE.elim
    have hey : ∀ j, k_two e = some j → j < 2147483648 := fun j hj => by
      unfold k_two at hj
      by_cases cc : t_kind e.2.2 = 2 ∨ t_kind e.2.2 = 3
      · rw [if_pos cc] at hj
        cases hj
        obtain ⟨ex, ey, et⟩ := e
        cases et with
        | num v => exact absurd cc (by show ¬ ((0 : Nat) = 2 ∨ (0 : Nat) = 3); decide)
        | var v => exact absurd cc (by show ¬ ((1 : Nat) = 2 ∨ (1 : Nat) = 3); decide)
        | add u w => have h : ey < q := hE.2.1; show ey < _; omega
        | sub u w => have h : ey < q := hE.2.1; show ey < _; omega
        | neg u => exact absurd cc (by show ¬ ((4 : Nat) = 2 ∨ (4 : Nat) = 3); decide)
        | mulL k u => exact absurd cc (by show ¬ ((5 : Nat) = 2 ∨ (5 : Nat) = 3); decide)
        | mulR u k => exact hE.elim
      · rw [if_neg cc] at hj; cases hj
    have hev : k_val e < 2147483648 := by
      unfold k_val
      by_cases cc : t_kind e.2.2 < 2
      · rw [if_pos cc]
        obtain ⟨ex, ey, et⟩ := e
        cases et with
        | num v => have h1 := hE.1; have h2 := hE.2.2.2; show ex < _; have h1 : ex = v.toNat := h1; omega
        | var v => have h1 : ex = v := hE.1; have h2 := hE.2.2.2; show ex < _; omega
        | add u w => exact absurd cc (by show ¬ (2 : Nat) < 2; decide)
        | sub u w => exact absurd cc (by show ¬ (3 : Nat) < 2; decide)
        | neg u => exact absurd cc (by show ¬ (4 : Nat) < 2; decide)
        | mulL k u => exact absurd cc (by show ¬ (5 : Nat) < 2; decide)
        | mulR u k => exact hE.elim
      · rw [if_neg cc]; decide
    have hpv : k_pv kd x < 2147483648 := by unfold k_pv; split <;> omega
    have hpx : ∀ j, k_px kd x = some j → j < 2147483648 := fun j hj => by
      unfold k_px at hj
      by_cases cc : kd < 2
      · rw [if_pos cc] at hj; cases hj
      · rw [if_neg cc] at hj; cases hj; omega
    have hpy : ∀ j, k_py kd y = some j → j < 2147483648 := fun j hj => by
      unfold k_py at hj
      by_cases cc : kd = 2 ∨ kd = 3
      · rw [if_pos cc] at hj; cases hj; omega
      · rw [if_neg cc] at hj; cases hj
    generalize k_val e = ve at *
    generalize k_pv kd x = pv at *
    have q5 := q_oi_eq hex hpx
    have q6 := q_oi_eq hey hpy
    generalize k_one e = oe at *
    generalize k_two e = we at *
    generalize k_px kd x = px at *
    generalize k_py kd y = py at *
    by_cases c1 : t_kind e.2.2 = kd
    · by_cases c2 : ve = pv
      · by_cases c3 : oe = px
        · have c4 : ¬ we = py := fun h => hnm ⟨c1, c2, c3, h⟩
          have q6 := q6.trans (eq_false c4)
          rw [c1] at g3
          rw [c2] at g4
          rw [c3] at g5
          refine q_X.run sX12_find0 [61] 60 ?_
          simp (maxSteps := 10000000) (disch := omega) only [↓q_run_s, q_stop_n, q_stop_c, q_lg_c, q_ls_d, q_ld_n, q_ld_c, q_cat_i, q_cat_r, q_cat_n, q_wd_n, q_wd_c, q_bx_1, q_bx_2, q_bx_3, q_bx_4, q_bx_5, q_bx_6, q_bx_7, q_bx_8, q_pop_0, q_pop_s, ↓reduceIte, Nat.reduceEqDiff, reduceCtorEq, eq_self, Bool.false_eq_true, Nat.reduceAdd, Nat.reduceSub, Nat.reduceMul, Nat.reduceLeDiff, Nat.reduceLT, Nat.le_refl, Nat.zero_le, true_and, and_true, false_and, and_false, or_false, false_or, true_or, or_true, not_true_eq_false, not_false_eq_true, if_true, if_false, List.getElem?_cons_zero, List.getElem?_cons_succ, List.set_cons_zero, List.set_cons_succ, List.length_cons, List.length_nil, ↓tX12_find0_0, ↓tX12_find0_1, ↓tX12_find0_4, ↓tX12_find0_5, ↓tX12_find0_6, ↓tX12_find0_9, ↓tX12_find0_10, ↓tX12_find0_13, ↓tX12_find0_14, ↓tX12_find0_15, ↓tX12_find0_18, ↓tX12_find0_19, ↓tX12_find0_20, ↓tX12_find0_23, ↓tX12_find0_24, ↓tX12_find0_25, ↓tX12_find0_28, ↓tX12_find0_29, ↓tX12_find0_30, ↓tX12_find0_33, ↓tX12_find0_34, ↓tX12_find0_37, ↓tX12_find0_38, ↓tX12_find0_39, ↓tX12_find0_42, ↓tX12_find0_43, ↓tX12_find0_44, ↓tX12_find0_47, ↓tX12_find0_48, ↓tX12_find0_49, ↓tX12_find0_52, ↓tX12_find0_53, ↓tX12_find0_56, ↓tX12_find0_57, ↓tX12_find0_58, ↓tX12_find0_59, ↓tX12_find0_61, ↓tX12_find0_62, ↓tX12_find0_65, ↓tX12_find0_67, ↓tX12_find0_68, ↓tX12_find0_69, ↓tX12_find0_72, ↓tX12_find0_73, ↓tX12_find0_74, ↓tX12_find0_77, ↓tX12_find0_78, ↓tX12_find0_81, ↓tX12_find0_83, ↓tX12_find0_84, ↓tX12_find0_85, ↓tX12_find0_88, ↓tX12_find0_89, ↓tX12_find0_90, ↓tX12_find0_93, ↓tX12_find0_94, ↓tX12_find0_97, ↓tX12_find0_99, ↓tX12_find0_100, ↓tX12_find0_101, ↓tX12_find0_104, ↓tX12_find0_105, ↓tX12_find0_108, ↓tX12_find0_110, ↓tX12_find0_111, ↓tX12_find0_112, ↓tX12_find0_115, ↓tX12_find0_118, ↓tX12_find0_121, ↓tX12_find0_123, ↓oAl, ↓oCallV, ↓oGet, ↓oGo, ↓oIald, ↓oIf1ge, ↓oIf2eq, ↓oIf2ne, ↓oIl, ↓oInc, ↓oIret, ↓oIs, ↓oK, q_set_s, q_set_n, q_md_0, mO_len, q_up_a, mO_5, md_5, mO_6, md_6, mO_12, md_12, mO_7, md_7, mO_3, md_3, mO_4, md_4, z_clamp, z_ltI, z_leI, z_eqI, z_lt0, z_ge0, z_eq0I, z_gt0I, z_le0I, z_m1lt, z_m1ge, z_m1eq, z_m1eq', z_inT, z_add, z_sub, z_mul, z_div, z_rem, n_ltT, n_ltF, n_leT, n_leF, n_eqT, n_eqF, z_11, q_tl_i, q_tl_n, q_ap_n, q_ap_c, g3, g4, g5, g6, h3, h4, q6]
          refine q_X.lv2 _ ?_ h'
          exact ⟨rfl, rfl, rfl, rfl, rfl, trivial⟩
        · have q5 := q5.trans (eq_false c3)
          rw [c1] at g3
          rw [c2] at g4
          refine q_X.run sX12_find0 [61] 60 ?_
          simp (maxSteps := 10000000) (disch := omega) only [↓q_run_s, q_stop_n, q_stop_c, q_lg_c, q_ls_d, q_ld_n, q_ld_c, q_cat_i, q_cat_r, q_cat_n, q_wd_n, q_wd_c, q_bx_1, q_bx_2, q_bx_3, q_bx_4, q_bx_5, q_bx_6, q_bx_7, q_bx_8, q_pop_0, q_pop_s, ↓reduceIte, Nat.reduceEqDiff, reduceCtorEq, eq_self, Bool.false_eq_true, Nat.reduceAdd, Nat.reduceSub, Nat.reduceMul, Nat.reduceLeDiff, Nat.reduceLT, Nat.le_refl, Nat.zero_le, true_and, and_true, false_and, and_false, or_false, false_or, true_or, or_true, not_true_eq_false, not_false_eq_true, if_true, if_false, List.getElem?_cons_zero, List.getElem?_cons_succ, List.set_cons_zero, List.set_cons_succ, List.length_cons, List.length_nil, ↓tX12_find0_0, ↓tX12_find0_1, ↓tX12_find0_4, ↓tX12_find0_5, ↓tX12_find0_6, ↓tX12_find0_9, ↓tX12_find0_10, ↓tX12_find0_13, ↓tX12_find0_14, ↓tX12_find0_15, ↓tX12_find0_18, ↓tX12_find0_19, ↓tX12_find0_20, ↓tX12_find0_23, ↓tX12_find0_24, ↓tX12_find0_25, ↓tX12_find0_28, ↓tX12_find0_29, ↓tX12_find0_30, ↓tX12_find0_33, ↓tX12_find0_34, ↓tX12_find0_37, ↓tX12_find0_38, ↓tX12_find0_39, ↓tX12_find0_42, ↓tX12_find0_43, ↓tX12_find0_44, ↓tX12_find0_47, ↓tX12_find0_48, ↓tX12_find0_49, ↓tX12_find0_52, ↓tX12_find0_53, ↓tX12_find0_56, ↓tX12_find0_57, ↓tX12_find0_58, ↓tX12_find0_59, ↓tX12_find0_61, ↓tX12_find0_62, ↓tX12_find0_65, ↓tX12_find0_67, ↓tX12_find0_68, ↓tX12_find0_69, ↓tX12_find0_72, ↓tX12_find0_73, ↓tX12_find0_74, ↓tX12_find0_77, ↓tX12_find0_78, ↓tX12_find0_81, ↓tX12_find0_83, ↓tX12_find0_84, ↓tX12_find0_85, ↓tX12_find0_88, ↓tX12_find0_89, ↓tX12_find0_90, ↓tX12_find0_93, ↓tX12_find0_94, ↓tX12_find0_97, ↓tX12_find0_99, ↓tX12_find0_100, ↓tX12_find0_101, ↓tX12_find0_104, ↓tX12_find0_105, ↓tX12_find0_108, ↓tX12_find0_110, ↓tX12_find0_111, ↓tX12_find0_112, ↓tX12_find0_115, ↓tX12_find0_118, ↓tX12_find0_121, ↓tX12_find0_123, ↓oAl, ↓oCallV, ↓oGet, ↓oGo, ↓oIald, ↓oIf1ge, ↓oIf2eq, ↓oIf2ne, ↓oIl, ↓oInc, ↓oIret, ↓oIs, ↓oK, q_set_s, q_set_n, q_md_0, mO_len, q_up_a, mO_5, md_5, mO_6, md_6, mO_12, md_12, mO_7, md_7, mO_3, md_3, mO_4, md_4, z_clamp, z_ltI, z_leI, z_eqI, z_lt0, z_ge0, z_eq0I, z_gt0I, z_le0I, z_m1lt, z_m1ge, z_m1eq, z_m1eq', z_inT, z_add, z_sub, z_mul, z_div, z_rem, n_ltT, n_ltF, n_leT, n_leF, n_eqT, n_eqF, z_11, q_tl_i, q_tl_n, q_ap_n, q_ap_c, g3, g4, g5, h3, h4, q5]
          refine q_X.lv2 _ ?_ h'
          exact ⟨rfl, rfl, rfl, rfl, rfl, trivial⟩
      · rw [c1] at g3
        refine q_X.run sX12_find0 [61] 60 ?_
        simp (maxSteps := 10000000) (disch := omega) only [↓q_run_s, q_stop_n, q_stop_c, q_lg_c, q_ls_d, q_ld_n, q_ld_c, q_cat_i, q_cat_r, q_cat_n, q_wd_n, q_wd_c, q_bx_1, q_bx_2, q_bx_3, q_bx_4, q_bx_5, q_bx_6, q_bx_7, q_bx_8, q_pop_0, q_pop_s, ↓reduceIte, Nat.reduceEqDiff, reduceCtorEq, eq_self, Bool.false_eq_true, Nat.reduceAdd, Nat.reduceSub, Nat.reduceMul, Nat.reduceLeDiff, Nat.reduceLT, Nat.le_refl, Nat.zero_le, true_and, and_true, false_and, and_false, or_false, false_or, true_or, or_true, not_true_eq_false, not_false_eq_true, if_true, if_false, List.getElem?_cons_zero, List.getElem?_cons_succ, List.set_cons_zero, List.set_cons_succ, List.length_cons, List.length_nil, ↓tX12_find0_0, ↓tX12_find0_1, ↓tX12_find0_4, ↓tX12_find0_5, ↓tX12_find0_6, ↓tX12_find0_9, ↓tX12_find0_10, ↓tX12_find0_13, ↓tX12_find0_14, ↓tX12_find0_15, ↓tX12_find0_18, ↓tX12_find0_19, ↓tX12_find0_20, ↓tX12_find0_23, ↓tX12_find0_24, ↓tX12_find0_25, ↓tX12_find0_28, ↓tX12_find0_29, ↓tX12_find0_30, ↓tX12_find0_33, ↓tX12_find0_34, ↓tX12_find0_37, ↓tX12_find0_38, ↓tX12_find0_39, ↓tX12_find0_42, ↓tX12_find0_43, ↓tX12_find0_44, ↓tX12_find0_47, ↓tX12_find0_48, ↓tX12_find0_49, ↓tX12_find0_52, ↓tX12_find0_53, ↓tX12_find0_56, ↓tX12_find0_57, ↓tX12_find0_58, ↓tX12_find0_59, ↓tX12_find0_61, ↓tX12_find0_62, ↓tX12_find0_65, ↓tX12_find0_67, ↓tX12_find0_68, ↓tX12_find0_69, ↓tX12_find0_72, ↓tX12_find0_73, ↓tX12_find0_74, ↓tX12_find0_77, ↓tX12_find0_78, ↓tX12_find0_81, ↓tX12_find0_83, ↓tX12_find0_84, ↓tX12_find0_85, ↓tX12_find0_88, ↓tX12_find0_89, ↓tX12_find0_90, ↓tX12_find0_93, ↓tX12_find0_94, ↓tX12_find0_97, ↓tX12_find0_99, ↓tX12_find0_100, ↓tX12_find0_101, ↓tX12_find0_104, ↓tX12_find0_105, ↓tX12_find0_108, ↓tX12_find0_110, ↓tX12_find0_111, ↓tX12_find0_112, ↓tX12_find0_115, ↓tX12_find0_118, ↓tX12_find0_121, ↓tX12_find0_123, ↓oAl, ↓oCallV, ↓oGet, ↓oGo, ↓oIald, ↓oIf1ge, ↓oIf2eq, ↓oIf2ne, ↓oIl, ↓oInc, ↓oIret, ↓oIs, ↓oK, q_set_s, q_set_n, q_md_0, mO_len, q_up_a, mO_5, md_5, mO_6, md_6, mO_12, md_12, mO_7, md_7, mO_3, md_3, mO_4, md_4, z_clamp, z_ltI, z_leI, z_eqI, z_lt0, z_ge0, z_eq0I, z_gt0I, z_le0I, z_m1lt, z_m1ge, z_m1eq, z_m1eq', z_inT, z_add, z_sub, z_mul, z_div, z_rem, n_ltT, n_ltF, n_leT, n_leF, n_eqT, n_eqF, z_11, q_tl_i, q_tl_n, q_ap_n, q_ap_c, g3, g4, h3, h4, c2]
        refine q_X.lv2 _ ?_ h'
        exact ⟨rfl, rfl, rfl, rfl, rfl, trivial⟩
    · refine q_X.run sX12_find0 [61] 60 ?_
      simp (maxSteps := 10000000) (disch := omega) only [↓q_run_s, q_stop_n, q_stop_c, q_lg_c, q_ls_d, q_ld_n, q_ld_c, q_cat_i, q_cat_r, q_cat_n, q_wd_n, q_wd_c, q_bx_1, q_bx_2, q_bx_3, q_bx_4, q_bx_5, q_bx_6, q_bx_7, q_bx_8, q_pop_0, q_pop_s, ↓reduceIte, Nat.reduceEqDiff, reduceCtorEq, eq_self, Bool.false_eq_true, Nat.reduceAdd, Nat.reduceSub, Nat.reduceMul, Nat.reduceLeDiff, Nat.reduceLT, Nat.le_refl, Nat.zero_le, true_and, and_true, false_and, and_false, or_false, false_or, true_or, or_true, not_true_eq_false, not_false_eq_true, if_true, if_false, List.getElem?_cons_zero, List.getElem?_cons_succ, List.set_cons_zero, List.set_cons_succ, List.length_cons, List.length_nil, ↓tX12_find0_0, ↓tX12_find0_1, ↓tX12_find0_4, ↓tX12_find0_5, ↓tX12_find0_6, ↓tX12_find0_9, ↓tX12_find0_10, ↓tX12_find0_13, ↓tX12_find0_14, ↓tX12_find0_15, ↓tX12_find0_18, ↓tX12_find0_19, ↓tX12_find0_20, ↓tX12_find0_23, ↓tX12_find0_24, ↓tX12_find0_25, ↓tX12_find0_28, ↓tX12_find0_29, ↓tX12_find0_30, ↓tX12_find0_33, ↓tX12_find0_34, ↓tX12_find0_37, ↓tX12_find0_38, ↓tX12_find0_39, ↓tX12_find0_42, ↓tX12_find0_43, ↓tX12_find0_44, ↓tX12_find0_47, ↓tX12_find0_48, ↓tX12_find0_49, ↓tX12_find0_52, ↓tX12_find0_53, ↓tX12_find0_56, ↓tX12_find0_57, ↓tX12_find0_58, ↓tX12_find0_59, ↓tX12_find0_61, ↓tX12_find0_62, ↓tX12_find0_65, ↓tX12_find0_67, ↓tX12_find0_68, ↓tX12_find0_69, ↓tX12_find0_72, ↓tX12_find0_73, ↓tX12_find0_74, ↓tX12_find0_77, ↓tX12_find0_78, ↓tX12_find0_81, ↓tX12_find0_83, ↓tX12_find0_84, ↓tX12_find0_85, ↓tX12_find0_88, ↓tX12_find0_89, ↓tX12_find0_90, ↓tX12_find0_93, ↓tX12_find0_94, ↓tX12_find0_97, ↓tX12_find0_99, ↓tX12_find0_100, ↓tX12_find0_101, ↓tX12_find0_104, ↓tX12_find0_105, ↓tX12_find0_108, ↓tX12_find0_110, ↓tX12_find0_111, ↓tX12_find0_112, ↓tX12_find0_115, ↓tX12_find0_118, ↓tX12_find0_121, ↓tX12_find0_123, ↓oAl, ↓oCallV, ↓oGet, ↓oGo, ↓oIald, ↓oIf1ge, ↓oIf2eq, ↓oIf2ne, ↓oIl, ↓oInc, ↓oIret, ↓oIs, ↓oK, q_set_s, q_set_n, q_md_0, mO_len, q_up_a, mO_5, md_5, mO_6, md_6, mO_12, md_12, mO_7, md_7, mO_3, md_3, mO_4, md_4, z_clamp, z_ltI, z_leI, z_eqI, z_lt0, z_ge0, z_eq0I, z_gt0I, z_le0I, z_m1lt, z_m1ge, z_m1eq, z_m1eq', z_inT, z_add, z_sub, z_mul, z_div, z_rem, n_ltT, n_ltF, n_leT, n_leF, n_eqT, n_eqF, z_11, q_tl_i, q_tl_n, q_ap_n, q_ap_c, g3, h3, c1]
      refine q_X.lv2 _ ?_ h'
      exact ⟨rfl, rfl, rfl, rfl, rfl, trivial⟩
end
