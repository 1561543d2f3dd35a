/-! how many rows, and which -/
def u_ways (step : Nat → Nat → Nat) (fin : Nat → Bool) : Nat → Nat → Nat
  | 0, S => if fin S = true then 1 else 0
  | n + 1, S => u_ways step fin n (step S 0) + u_ways step fin n (step S 1) + u_ways step fin n (step S 2)
theorem u_ways_le {step : Nat → Nat → Nat} {fin : Nat → Bool} : ∀ n S, u_ways step fin n S ≤ 3 ^ n
  | 0, S => by
    unfold u_ways
    split <;> decide
  | n + 1, S => by
    unfold u_ways
    have h0 := u_ways_le (step := step) (fin := fin) n (step S 0)
    have h1 := u_ways_le (step := step) (fin := fin) n (step S 1)
    have h2 := u_ways_le (step := step) (fin := fin) n (step S 2)
    rw [Nat.pow_succ]
    omega
/-- the letter taken at a step, and what is left of the number -/
def u_let (w : Nat → Nat) (left : Nat) : Nat × Nat :=
  if left < w 0 then (0, left) else if left - w 0 < w 1 then (1, left - w 0) else (2, left - w 0 - w 1)
/-- the row with number left among those of n letters from S, behind the number N -/
def u_row (step : Nat → Nat → Nat) (fin : Nat → Bool) : Nat → Nat → Nat → Nat → Nat
  | 0, _, _, N => N
  | n + 1, S, left, N =>
    let q := u_let (fun l => u_ways step fin n (step S l)) left
    u_row step fin n (step S q.1) q.2 (3 * N + q.1)
/-- which of the reference's sets ends -/
def u_fin (la : Nat) (b : Bool) (S : Nat) : Bool := decide (S &&& la ≠ 0) || (S.testBit 7 && b)
theorem u_fin_iff {la : Nat} {b : Bool} {S : Nat} : u_fin la b S = true ↔ (S &&& la ≠ 0 ∨ (S.testBit 7 = true ∧ b = true)) := by
  unfold u_fin
  rw [Bool.or_eq_true, decide_eq_true_iff, Bool.and_eq_true]
/-- block wh studied -/
def m_Stu (A : Nat → Nat → Int32) (wh : Nat) (t : qT) (fo ac : Nat → Nat) : Prop := m_blk A wh fo ac ∧ (∀ q, q < g_n t → fo q = g_w t 0 q) ∧ g_ok ac t 0 ∧ A 27 wh = nI (g_f t 0) ∧ A 28 wh = nI (g_l t 0) ∧ A 29 wh = b_I (g_e t)
theorem g_n_le : ∀ t : qT, 2 * g_n t ≤ t_nodes t + 1
  | .num _ => Nat.le_refl _
  | .var _ => Nat.le_refl _
  | .add x y => by
    have := g_n_le x
    have := g_n_le y
    unfold g_n t_nodes
    omega
  | .sub x y => by
    have := g_n_le x
    have := g_n_le y
    unfold g_n t_nodes
    omega
  | .neg x => by
    have := g_n_le x
    unfold g_n t_nodes
    omega
  | .mulL _ x => by
    have := g_n_le x
    unfold g_n t_nodes
    omega
  | .mulR x _ => by
    have := g_n_le x
    unfold g_n t_nodes
    omega
section
variable {G : qC} {L : Launch} {d : Nat} {Q : Option Value → qM → Prop} {M0 : qM} {r : Nat} {s : Nat → Int32} {A : Nat → Nat → Int32} {B : Nat → Nat → Int64}
/-- a place studied into block wh: what stays -/
def m_S0 (s : Nat → Int32) (A : Nat → Nat → Int32) (wh : Nat) (t : qT) (s' : Nat → Int32) (A' : Nat → Nat → Int32) : Prop :=
  (∀ k, k ≠ 10 → k ≠ 16 → k ≠ 30 → k ≠ 31 → k ≠ 32 → s' k = s k) ∧ (∃ n', s' 10 = nI n' ∧ 6000 ≤ n' ∧ n' ≤ 6000 + 12 * (wh + 1)) ∧
  (∀ f, f < 3 ∨ 9 < f → f ≠ 24 → f ≠ 25 → f ≠ 26 → f ≠ 27 → f ≠ 28 → f ≠ 29 → A' f = A f) ∧ m_fr A A' 6000 ∧
  (∃ fo ac, m_Stu A' wh t fo ac) ∧ (∀ fo ac t', wh = 1 → m_Stu A 0 t' fo ac → m_Stu A' 0 t' fo ac) ∧ (∀ fo ac, m_blk A (1 - wh) fo ac → m_blk A' (1 - wh) fo ac)
set_option maxRecDepth 100000 in
set_option maxHeartbeats 8000000 in
theorem c12_study0 {p wh n : Nat} {t : qT} {fo ac : Nat → Nat} (hp : p < 10) (hw : wh < 2) (ht : t_pl (A 14) (A 15) t (12 * p)) (h12 : t_nodes t ≤ 12) (h10 : wh = 1 → s 10 = nI n ∧ 6000 ≤ n ∧ n ≤ 6012) (hb : m_blk A wh fo ac) (hd : t_nodes t + 5 ≤ d) (hQ : ∀ s' A', m_S0 s A wh t s' A' → Q none (q_md M0 r s' A' B)) : q_Call G L d mX12_study0 0 0 [.ref r, .int (nI p), .int (nI wh)] (q_md M0 r s A B) Q := by
  have hgn := g_n_le t
  have core : ∀ m, 6000 ≤ m → m ≤ 6000 + 12 * wh → q_X G L d mX12_study0 0 0 Q 18 [(0, .ref r), (1, .int (nI p)), (2, .int (nI wh))] [] (q_md M0 r (va_up s 10 (nI m)) A B) 0 0 := by
    intro m hm1 hm2
    refine q_X.run sX12_study0 [] 40 ?_
    simp (maxSteps := 10000000) (disch := omega) only [↓q_run_s, q_stop_n, q_stop_c, q_lg_c, q_ls_d, q_ld_n, q_ld_c, q_cat_i, q_cat_r, q_cat_n, q_wd_n, q_wd_c, q_bx_1, q_bx_2, q_bx_3, q_bx_4, q_bx_5, q_bx_6, q_bx_7, q_bx_8, q_pop_0, q_pop_s, ↓reduceIte, Nat.reduceEqDiff, reduceCtorEq, eq_self, Bool.false_eq_true, Nat.reduceAdd, Nat.reduceSub, Nat.reduceMul, Nat.reduceLeDiff, Nat.reduceLT, Nat.le_refl, Nat.zero_le, true_and, and_true, false_and, and_false, or_false, false_or, true_or, or_true, not_true_eq_false, not_false_eq_true, if_true, if_false, List.getElem?_cons_zero, List.getElem?_cons_succ, List.set_cons_zero, List.set_cons_succ, List.length_cons, List.length_nil, ↓tX12_study0_0, ↓tX12_study0_1, ↓tX12_study0_2, ↓tX12_study0_5, ↓tX12_study0_8, ↓tX12_study0_11, ↓tX12_study0_12, ↓tX12_study0_15, ↓tX12_study0_18, ↓tX12_study0_19, ↓tX12_study0_22, ↓tX12_study0_23, ↓tX12_study0_24, ↓tX12_study0_25, ↓tX12_study0_26, ↓tX12_study0_27, ↓tX12_study0_28, ↓tX12_study0_31, ↓tX12_study0_32, ↓tX12_study0_35, ↓tX12_study0_36, ↓tX12_study0_39, ↓tX12_study0_40, ↓tX12_study0_41, ↓tX12_study0_44, ↓tX12_study0_45, ↓tX12_study0_46, ↓tX12_study0_49, ↓tX12_study0_50, ↓tX12_study0_51, ↓tX12_study0_54, ↓tX12_study0_55, ↓tX12_study0_56, ↓tX12_study0_59, ↓tX12_study0_60, ↓tX12_study0_61, ↓tX12_study0_64, ↓tX12_study0_65, ↓oAl, ↓oCallV, ↓oGet, ↓oGo, ↓oIast, ↓oIf1ne, ↓oIl, ↓oK, ↓oPutI, ↓oVret, ↓oZast, q_set_s, q_set_n, q_md_0, mO_len, q_up_a, mO_10, mOs_10, mO_24, md_24, mds_24, mO_27, md_27, mds_27, mO_30, mO_28, md_28, mds_28, mO_31, mO_29, md_29, mds_29, mO_32, z_clamp, z_ltI, z_leI, z_eqI, z_lt0, z_ge0, z_eq0I, z_gt0I, z_le0I, z_m1lt, z_m1ge, z_m1eq, z_m1eq', z_inT, z_add, z_sub, z_mul, z_div, z_rem, n_ltT, n_ltF, n_leT, n_leF, n_eqT, n_eqF, q_tl_i, q_tl_n, q_ap_n, q_ap_c]
    refine c12_treeOf (n := m) hp (va_up_self _ _ _) (by rw [va_up_ne _ _ (by decide), va_up_ne _ _ (by decide)]; exact ht) h12 (by omega) (by omega) fun s1 A1 h1 => ?_
    obtain ⟨h1a, h1b, h1c, h1d, h1e, h1f⟩ := h1
    have e24 : A1 24 = upd (A 24) wh (nI 0) := by rw [h1d 24 (by decide), va_up_self]
    refine q_X.run sX12_study0 [] 40 ?_
    simp (maxSteps := 10000000) (disch := omega) only [↓q_run_s, q_stop_n, q_stop_c, q_lg_c, q_ls_d, q_ld_n, q_ld_c, q_cat_i, q_cat_r, q_cat_n, q_wd_n, q_wd_c, q_bx_1, q_bx_2, q_bx_3, q_bx_4, q_bx_5, q_bx_6, q_bx_7, q_bx_8, q_pop_0, q_pop_s, ↓reduceIte, Nat.reduceEqDiff, reduceCtorEq, eq_self, Bool.false_eq_true, Nat.reduceAdd, Nat.reduceSub, Nat.reduceMul, Nat.reduceLeDiff, Nat.reduceLT, Nat.le_refl, Nat.zero_le, true_and, and_true, false_and, and_false, or_false, false_or, true_or, or_true, not_true_eq_false, not_false_eq_true, if_true, if_false, List.getElem?_cons_zero, List.getElem?_cons_succ, List.set_cons_zero, List.set_cons_succ, List.length_cons, List.length_nil, ↓tX12_study0_0, ↓tX12_study0_1, ↓tX12_study0_2, ↓tX12_study0_5, ↓tX12_study0_8, ↓tX12_study0_11, ↓tX12_study0_12, ↓tX12_study0_15, ↓tX12_study0_18, ↓tX12_study0_19, ↓tX12_study0_22, ↓tX12_study0_23, ↓tX12_study0_24, ↓tX12_study0_25, ↓tX12_study0_26, ↓tX12_study0_27, ↓tX12_study0_28, ↓tX12_study0_31, ↓tX12_study0_32, ↓tX12_study0_35, ↓tX12_study0_36, ↓tX12_study0_39, ↓tX12_study0_40, ↓tX12_study0_41, ↓tX12_study0_44, ↓tX12_study0_45, ↓tX12_study0_46, ↓tX12_study0_49, ↓tX12_study0_50, ↓tX12_study0_51, ↓tX12_study0_54, ↓tX12_study0_55, ↓tX12_study0_56, ↓tX12_study0_59, ↓tX12_study0_60, ↓tX12_study0_61, ↓tX12_study0_64, ↓tX12_study0_65, ↓oAl, ↓oCallV, ↓oGet, ↓oGo, ↓oIast, ↓oIf1ne, ↓oIl, ↓oK, ↓oPutI, ↓oVret, ↓oZast, q_set_s, q_set_n, q_md_0, mO_len, q_up_a, mO_10, mOs_10, mO_24, md_24, mds_24, mO_27, md_27, mds_27, mO_30, mO_28, md_28, mds_28, mO_31, mO_29, md_29, mds_29, mO_32, z_clamp, z_ltI, z_leI, z_eqI, z_lt0, z_ge0, z_eq0I, z_gt0I, z_le0I, z_m1lt, z_m1ge, z_m1eq, z_m1eq', z_inT, z_add, z_sub, z_mul, z_div, z_rem, n_ltT, n_ltF, n_leT, n_leF, n_eqT, n_eqF, q_tl_i, q_tl_n, q_ap_n, q_ap_c]
    refine c12_study hw t (d - 1) _ s1 A1 (m + t_nodes t - 1) 0 fo ac h1f (by rw [e24, q_ud_s]) (by omega) ⟨fun q hq => ?_, fun q hq => ?_⟩ (by omega) fun s2 A2 fo2 ac2 h2 => ?_
    · rw [h1d 26 (by decide), va_up_ne _ _ (by decide)]; exact hb.1 q hq
    · rw [h1d 25 (by decide), va_up_ne _ _ (by decide)]; exact hb.2 q hq
    obtain ⟨h2a, ⟨h2b, h2c, h2d⟩, h2e, ⟨h2f, h2g⟩, h2h, h2j, h2k, h2l, h2m⟩ := h2
    have hz : b_I (g_e t) = 0 ∨ b_I (g_e t) = 1 := by
      cases g_e t
      · exact Or.inl rfl
      · exact Or.inr rfl
    refine q_X.run sX12_study0 [] 40 ?_
    simp (maxSteps := 10000000) (disch := omega) only [↓q_run_s, q_stop_n, q_stop_c, q_lg_c, q_ls_d, q_ld_n, q_ld_c, q_cat_i, q_cat_r, q_cat_n, q_wd_n, q_wd_c, q_bx_1, q_bx_2, q_bx_3, q_bx_4, q_bx_5, q_bx_6, q_bx_7, q_bx_8, q_pop_0, q_pop_s, ↓reduceIte, Nat.reduceEqDiff, reduceCtorEq, eq_self, Bool.false_eq_true, Nat.reduceAdd, Nat.reduceSub, Nat.reduceMul, Nat.reduceLeDiff, Nat.reduceLT, Nat.le_refl, Nat.zero_le, true_and, and_true, false_and, and_false, or_false, false_or, true_or, or_true, not_true_eq_false, not_false_eq_true, if_true, if_false, List.getElem?_cons_zero, List.getElem?_cons_succ, List.set_cons_zero, List.set_cons_succ, List.length_cons, List.length_nil, ↓tX12_study0_0, ↓tX12_study0_1, ↓tX12_study0_2, ↓tX12_study0_5, ↓tX12_study0_8, ↓tX12_study0_11, ↓tX12_study0_12, ↓tX12_study0_15, ↓tX12_study0_18, ↓tX12_study0_19, ↓tX12_study0_22, ↓tX12_study0_23, ↓tX12_study0_24, ↓tX12_study0_25, ↓tX12_study0_26, ↓tX12_study0_27, ↓tX12_study0_28, ↓tX12_study0_31, ↓tX12_study0_32, ↓tX12_study0_35, ↓tX12_study0_36, ↓tX12_study0_39, ↓tX12_study0_40, ↓tX12_study0_41, ↓tX12_study0_44, ↓tX12_study0_45, ↓tX12_study0_46, ↓tX12_study0_49, ↓tX12_study0_50, ↓tX12_study0_51, ↓tX12_study0_54, ↓tX12_study0_55, ↓tX12_study0_56, ↓tX12_study0_59, ↓tX12_study0_60, ↓tX12_study0_61, ↓tX12_study0_64, ↓tX12_study0_65, ↓oAl, ↓oCallV, ↓oGet, ↓oGo, ↓oIast, ↓oIf1ne, ↓oIl, ↓oK, ↓oPutI, ↓oVret, ↓oZast, q_set_s, q_set_n, q_md_0, mO_len, q_up_a, mO_10, mOs_10, mO_24, md_24, mds_24, mO_27, md_27, mds_27, mO_30, mO_28, md_28, mds_28, mO_31, mO_29, md_29, mds_29, mO_32, z_clamp, z_ltI, z_leI, z_eqI, z_lt0, z_ge0, z_eq0I, z_gt0I, z_le0I, z_m1lt, z_m1ge, z_m1eq, z_m1eq', z_inT, z_add, z_sub, z_mul, z_div, z_rem, n_ltT, n_ltF, n_leT, n_leF, n_eqT, n_eqF, q_tl_i, q_tl_n, q_ap_n, q_ap_c, h2b, h2c, h2d, hz]
    refine hQ _ _ ⟨fun k g1 g2 g3 g4 g5 => ?_, ⟨m + t_nodes t, ?_, by omega, by omega⟩, fun f hf g1 g2 g3 g4 g5 g6 => ?_, ?_, ⟨fo2, ac2, ?_⟩, ?_, fun fo' ac' hbb => ⟨fun q hq => ?_, fun q hq => ?_⟩⟩
    · rw [h2a k g3 g4 g5, h1a k g1 g2, va_up_ne _ _ g1]
    · rw [h2a 10 (by decide) (by decide) (by decide)]; exact h1b
    · rw [va_up_ne _ _ g6, va_up_ne _ _ g5, va_up_ne _ _ g4, h2e f g1 g2 g3, h1d f hf, va_up_ne _ _ g1]
    · intro f g1 g2 j hj
      rw [va_up_ne _ _ (by omega), va_up_ne _ _ (by omega), va_up_ne _ _ (by omega), h2e f (by omega) (by omega) (by omega), h1e f g1 g2 j (by omega), va_up_ne _ _ (by omega)]
    · refine ⟨⟨fun q hq => ?_, fun q hq => ?_⟩, fun q hq => ?_, h2l, ?_, ?_, ?_⟩
      · rw [va_up_ne _ _ (by decide), va_up_ne _ _ (by decide), va_up_ne _ _ (by decide)]; exact h2h.1 q hq
      · rw [va_up_ne _ _ (by decide), va_up_ne _ _ (by decide), va_up_ne _ _ (by decide)]; exact h2h.2 q hq
      · rw [h2k q (by omega), if_pos (by omega)]
      · rw [va_up_ne _ _ (by decide), va_up_ne _ _ (by decide), va_up_self, q_ud_s]
      · rw [va_up_ne _ _ (by decide), va_up_self, q_ud_s]
      · rw [va_up_self, q_ud_s]
    · intro fo' ac' t' hw1 hst
      obtain ⟨⟨k1, k2⟩, k3, k4, k5, k6, k7⟩ := hst
      have f26 : ∀ q, q < 8 → A2 26 (8 * 0 + q) = A 26 (8 * 0 + q) := fun q hq => by rw [h2j 26 _ (Or.inr rfl) (by omega), h1d 26 (by decide), va_up_ne _ _ (by decide)]
      have f25 : ∀ q, q < 8 → A2 25 (8 * 0 + q) = A 25 (8 * 0 + q) := fun q hq => by rw [h2j 25 _ (Or.inl rfl) (by omega), h1d 25 (by decide), va_up_ne _ _ (by decide)]
      have f27 : A2 27 0 = A 27 0 := by rw [h2e 27 (by decide) (by decide) (by decide), h1d 27 (by decide), va_up_ne _ _ (by decide)]
      have f28 : A2 28 0 = A 28 0 := by rw [h2e 28 (by decide) (by decide) (by decide), h1d 28 (by decide), va_up_ne _ _ (by decide)]
      have f29 : A2 29 0 = A 29 0 := by rw [h2e 29 (by decide) (by decide) (by decide), h1d 29 (by decide), va_up_ne _ _ (by decide)]
      refine ⟨⟨fun q hq => ?_, fun q hq => ?_⟩, k3, k4, ?_, ?_, ?_⟩
      · rw [va_up_ne _ _ (by decide), va_up_ne _ _ (by decide), va_up_ne _ _ (by decide), f26 q hq]; exact k1 q hq
      · rw [va_up_ne _ _ (by decide), va_up_ne _ _ (by decide), va_up_ne _ _ (by decide), f25 q hq]; exact k2 q hq
      · rw [va_up_ne _ _ (by decide), va_up_ne _ _ (by decide), va_up_self, q_ud_n _ _ (by omega), f27]; exact k5
      · rw [va_up_ne _ _ (by decide), va_up_self, q_ud_n _ _ (by omega), f28]; exact k6
      · rw [va_up_self, q_ud_n _ _ (by omega), f29]; exact k7
    · rw [va_up_ne _ _ (by decide), va_up_ne _ _ (by decide), va_up_ne _ _ (by decide), h2j 26 _ (Or.inr rfl) (by omega), h1d 26 (by decide), va_up_ne _ _ (by decide)]; exact hbb.1 q hq
    · rw [va_up_ne _ _ (by decide), va_up_ne _ _ (by decide), va_up_ne _ _ (by decide), h2j 25 _ (Or.inl rfl) (by omega), h1d 25 (by decide), va_up_ne _ _ (by decide)]; exact hbb.2 q hq
  refine q_Call.of [(0, .ref r), (1, .int (nI p)), (2, .int (nI wh))] rfl ?_
  have hw' : wh = 0 ∨ wh = 1 := by omega
  rcases hw' with rfl | rfl
  · have h := core 6000 (by omega) (by omega)
    refine q_X.run sX12_study0 [18] 20 ?_
    simp (maxSteps := 10000000) (disch := omega) only [↓q_run_s, q_stop_n, q_stop_c, q_lg_c, q_ls_d, q_ld_n, q_ld_c, q_cat_i, q_cat_r, q_cat_n, q_wd_n, q_wd_c, q_bx_1, q_bx_2, q_bx_3, q_bx_4, q_bx_5, q_bx_6, q_bx_7, q_bx_8, q_pop_0, q_pop_s, ↓reduceIte, Nat.reduceEqDiff, reduceCtorEq, eq_self, Bool.false_eq_true, Nat.reduceAdd, Nat.reduceSub, Nat.reduceMul, Nat.reduceLeDiff, Nat.reduceLT, Nat.le_refl, Nat.zero_le, true_and, and_true, false_and, and_false, or_false, false_or, true_or, or_true, not_true_eq_false, not_false_eq_true, if_true, if_false, List.getElem?_cons_zero, List.getElem?_cons_succ, List.set_cons_zero, List.set_cons_succ, List.length_cons, List.length_nil, ↓tX12_study0_0, ↓tX12_study0_1, ↓tX12_study0_2, ↓tX12_study0_5, ↓tX12_study0_8, ↓tX12_study0_11, ↓tX12_study0_12, ↓tX12_study0_15, ↓tX12_study0_18, ↓tX12_study0_19, ↓tX12_study0_22, ↓tX12_study0_23, ↓tX12_study0_24, ↓tX12_study0_25, ↓tX12_study0_26, ↓tX12_study0_27, ↓tX12_study0_28, ↓tX12_study0_31, ↓tX12_study0_32, ↓tX12_study0_35, ↓tX12_study0_36, ↓tX12_study0_39, ↓tX12_study0_40, ↓tX12_study0_41, ↓tX12_study0_44, ↓tX12_study0_45, ↓tX12_study0_46, ↓tX12_study0_49, ↓tX12_study0_50, ↓tX12_study0_51, ↓tX12_study0_54, ↓tX12_study0_55, ↓tX12_study0_56, ↓tX12_study0_59, ↓tX12_study0_60, ↓tX12_study0_61, ↓tX12_study0_64, ↓tX12_study0_65, ↓oAl, ↓oCallV, ↓oGet, ↓oGo, ↓oIast, ↓oIf1ne, ↓oIl, ↓oK, ↓oPutI, ↓oVret, ↓oZast, q_set_s, q_set_n, q_md_0, mO_len, q_up_a, mO_10, mOs_10, mO_24, md_24, mds_24, mO_27, md_27, mds_27, mO_30, mO_28, md_28, mds_28, mO_31, mO_29, md_29, mds_29, mO_32, z_clamp, z_ltI, z_leI, z_eqI, z_lt0, z_ge0, z_eq0I, z_gt0I, z_le0I, z_m1lt, z_m1ge, z_m1eq, z_m1eq', z_inT, z_add, z_sub, z_mul, z_div, z_rem, n_ltT, n_ltF, n_leT, n_leF, n_eqT, n_eqF, q_tl_i, q_tl_n, q_ap_n, q_ap_c]
    exact h
  · obtain ⟨g1, g2, g3⟩ := h10 rfl
    have h := core n g2 (by omega)
    refine q_X.run sX12_study0 [18] 20 ?_
    simp (maxSteps := 10000000) (disch := omega) only [↓q_run_s, q_stop_n, q_stop_c, q_lg_c, q_ls_d, q_ld_n, q_ld_c, q_cat_i, q_cat_r, q_cat_n, q_wd_n, q_wd_c, q_bx_1, q_bx_2, q_bx_3, q_bx_4, q_bx_5, q_bx_6, q_bx_7, q_bx_8, q_pop_0, q_pop_s, ↓reduceIte, Nat.reduceEqDiff, reduceCtorEq, eq_self, Bool.false_eq_true, Nat.reduceAdd, Nat.reduceSub, Nat.reduceMul, Nat.reduceLeDiff, Nat.reduceLT, Nat.le_refl, Nat.zero_le, true_and, and_true, false_and, and_false, or_false, false_or, true_or, or_true, not_true_eq_false, not_false_eq_true, if_true, if_false, List.getElem?_cons_zero, List.getElem?_cons_succ, List.set_cons_zero, List.set_cons_succ, List.length_cons, List.length_nil, ↓tX12_study0_0, ↓tX12_study0_1, ↓tX12_study0_2, ↓tX12_study0_5, ↓tX12_study0_8, ↓tX12_study0_11, ↓tX12_study0_12, ↓tX12_study0_15, ↓tX12_study0_18, ↓tX12_study0_19, ↓tX12_study0_22, ↓tX12_study0_23, ↓tX12_study0_24, ↓tX12_study0_25, ↓tX12_study0_26, ↓tX12_study0_27, ↓tX12_study0_28, ↓tX12_study0_31, ↓tX12_study0_32, ↓tX12_study0_35, ↓tX12_study0_36, ↓tX12_study0_39, ↓tX12_study0_40, ↓tX12_study0_41, ↓tX12_study0_44, ↓tX12_study0_45, ↓tX12_study0_46, ↓tX12_study0_49, ↓tX12_study0_50, ↓tX12_study0_51, ↓tX12_study0_54, ↓tX12_study0_55, ↓tX12_study0_56, ↓tX12_study0_59, ↓tX12_study0_60, ↓tX12_study0_61, ↓tX12_study0_64, ↓tX12_study0_65, ↓oAl, ↓oCallV, ↓oGet, ↓oGo, ↓oIast, ↓oIf1ne, ↓oIl, ↓oK, ↓oPutI, ↓oVret, ↓oZast, q_set_s, q_set_n, q_md_0, mO_len, q_up_a, mO_10, mOs_10, mO_24, md_24, mds_24, mO_27, md_27, mds_27, mO_30, mO_28, md_28, mds_28, mO_31, mO_29, md_29, mds_29, mO_32, z_clamp, z_ltI, z_leI, z_eqI, z_lt0, z_ge0, z_eq0I, z_gt0I, z_le0I, z_m1lt, z_m1ge, z_m1eq, z_m1eq', z_inT, z_add, z_sub, z_mul, z_div, z_rem, n_ltT, n_ltF, n_leT, n_leF, n_eqT, n_eqF, q_tl_i, q_tl_n, q_ap_n, q_ap_c, g1]
    exact h
end
