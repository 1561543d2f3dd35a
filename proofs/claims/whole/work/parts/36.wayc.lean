/-! the class: rows counted and told -/
theorem q_og_keep {M : qM} {i j : Nat} {E F : Nat → Option qE} (h : q_og M j F = M) (hd : ∀ x, i ≤ x → j ≤ x → E (x - i) = none ∨ F (x - j) = none) : q_og (q_og M i E) j F = q_og M i E := by
  rw [q_og_comm hd, h]
theorem waE_none {i : Nat} {A : Nat → Nat → Int32} {q : Nat} (h : 2 ≤ q) : waE i A q = none := by
  obtain ⟨c, rfl⟩ : ∃ c, q = c + 2 := ⟨q - 2, by omega⟩
  rfl
theorem wa_au {M : qM} {i a : Nat} {s : Nat → Int32} {A W : Nat → Nat → Int32} (h : q_au M a s A = M) (hd : a + 7 ≤ i ∨ i + 2 ≤ a) : q_au (q_wa M i W) a s A = q_wa M i W := q_og_keep h fun x h1 h2 => by
  by_cases c : a + 7 ≤ i
  · exact Or.inr (auE_none (by omega))
  · exact Or.inl (waE_none (by omega))
section
variable {G : qC} {L : Launch} {d : Nat} {M : qM} {Q : Option Value → qM → Prop} {i : Nat} {s : Nat → Int32} {A : Nat → Nat → Int32}
theorem d0_after (hM : q_au M i s A = M) {S c : Nat} (hS : S < 65) (hc : c < 3) (hQ : Q (some (.int (A 5 (S * 3 + c)))) M) : q_Call G L d mX0_after 0 0 [.ref i, .int (nI S), .int (nI c)] M Q := by
  have h := c0_after (G := G) (L := L) (d := d) (Q := Q) (M0 := M) (i := i) (s := s) (A := A) hS hc
  rw [hM] at h
  exact h hQ
theorem d0_endsAt (hM : q_au M i s A = M) {S E : Nat} {b : Bool} (hS : S < 65) (h7 : s 7 = nI E) (hE : E < 64) (h8 : s 8 = if b = true then nI 1 else nI 0) (hT : (if S = 64 then b = true else S &&& E ≠ 0) → Q (some (.int (nI 1))) M) (hF : ¬ (if S = 64 then b = true else S &&& E ≠ 0) → Q (some (.int (nI 0))) M) : q_Call G L d mX0_endsAt 0 0 [.ref i, .int (nI S)] M Q := by
  have h := c0_endsAt (G := G) (L := L) (d := d) (Q := Q) (M0 := M) (i := i) (s := s) (A := A) (S := S) (E := E) (b := b) hS h7 hE h8
  rw [hM] at h
  exact h hT hF
end
/-- a state of the class as a set of the reference -/
def u_mp (S : Nat) : Nat := if S = 64 then 128 else S
def u_ok (t : qT) (S : Nat) : Prop := S = 64 ∨ S < 2 ^ g_n t
theorem u_fin_mp {t : qT} {S : Nat} (h12 : t_nodes t ≤ 12) (hS : u_ok t S) : u_fin (g_l t 0) (g_e t) (u_mp S) = true ↔ (if S = 64 then g_e t = true else S &&& g_l t 0 ≠ 0) := by
  have hgn := g_n_le t
  have hpn : 2 ^ g_n t ≤ 64 := Nat.pow_le_pow_right (n := 2) (j := 6) (by decide) (by omega)
  rw [u_fin_iff]
  rcases hS with rfl | h
  · rw [if_pos rfl]
    show ((128 : Nat) &&& g_l t 0 ≠ 0 ∨ (128 : Nat).testBit 7 = true ∧ g_e t = true) ↔ _
    constructor
    · rintro (h | ⟨-, h⟩)
      · obtain ⟨j, hj⟩ := Nat.exists_testBit_of_ne_zero h
        rw [Nat.testBit_and, Bool.and_eq_true] at hj
        have h1 := g_l_rng t 0 j hj.2
        have h2 : ∀ q', q' < 7 → (128 : Nat).testBit q' = false := by decide
        rw [h2 j (by omega)] at hj
        exact absurd hj.1 (by decide)
      · exact h
    · exact fun h => Or.inr ⟨by decide, h⟩
  · have hne : S ≠ 64 := by omega
    unfold u_mp
    rw [if_neg hne, if_neg hne]
    constructor
    · rintro (h1 | ⟨h1, -⟩)
      · exact h1
      · have := g_S_lt h h1
        omega
    · exact Or.inl
section
variable {G : qC} {L : Launch} {d : Nat} {Q : Option Value → qM → Prop} {M0 : qM} {i a : Nat} {s : Nat → Int32} {A W : Nat → Nat → Int32}
set_option maxRecDepth 100000 in
set_option maxHeartbeats 4000000 in
theorem c9_from {x : Int32} {m : Nat} (hm : m ≤ 12) (hQ : ∀ v, (∀ S, x = nI S → S < 65 → v = W 0 (m * 65 + S)) → Q (some (.int v)) (q_wa M0 i W)) : q_Call G L d mX9_from 0 0 [.ref i, .int x, .int (nI m)] (q_wa M0 i W) Q := by
  refine q_Call.of [(0, .ref i), (1, .int x), (2, .int (nI m))] rfl ?_
  obtain ⟨y, hy⟩ : ∃ y, y = nI (m * 65) + x := ⟨_, rfl⟩
  by_cases c1 : y < 0
  · refine q_X.run sX9_from [] 30 ?_
    simp (maxSteps := 10000000) (disch := omega) only [↓q_run_s, q_stop_n, q_stop_c, q_lg_c, q_ls_d, q_ld_n, q_ld_c, q_cat_i, q_cat_r, q_cat_n, q_wd_n, q_wd_c, q_bx_1, q_bx_2, q_bx_3, q_bx_4, q_bx_5, q_bx_6, q_bx_7, q_bx_8, q_pop_0, q_pop_s, ↓reduceIte, Nat.reduceEqDiff, reduceCtorEq, eq_self, Bool.false_eq_true, Nat.reduceAdd, Nat.reduceSub, Nat.reduceMul, Nat.reduceLeDiff, Nat.reduceLT, Nat.le_refl, Nat.zero_le, true_and, and_true, false_and, and_false, or_false, false_or, true_or, or_true, not_true_eq_false, not_false_eq_true, if_true, if_false, List.getElem?_cons_zero, List.getElem?_cons_succ, List.set_cons_zero, List.set_cons_succ, List.length_cons, List.length_nil, ↓tX9_from_0, ↓tX9_from_1, ↓tX9_from_3, ↓tX9_from_4, ↓tX9_from_5, ↓tX9_from_6, ↓tX9_from_7, ↓tX9_from_8, ↓tX9_from_11, ↓tX9_from_12, ↓tX9_from_13, ↓tX9_from_16, ↓tX9_from_17, ↓tX9_from_20, ↓tX9_from_21, ↓tX9_from_24, ↓tX9_from_25, ↓tX9_from_26, ↓tX9_from_29, ↓tX9_from_30, ↓oAdd, ↓oAl, ↓oAlen, ↓oGet, ↓oGo, ↓oIald, ↓oIf1lt, ↓oIf2ge, ↓oIl, ↓oIret, ↓oIs, ↓oK, ↓oMul, q_set_s, q_set_n, wa_0, waO_len, q_up_a, waO_0, wa_a0, z_clamp, z_ltI, z_leI, z_eqI, z_lt0, z_ge0, z_eq0I, z_gt0I, z_le0I, z_m1lt, z_m1ge, z_m1eq, z_m1eq', z_inT, z_add, z_sub, z_mul, z_div, z_rem, n_ltT, n_ltF, n_leT, n_leF, n_eqT, n_eqF, q_tl_i, q_tl_n, q_ap_n, q_ap_c, ← hy, c1]
    refine hQ _ fun S h1 h2 => ?_
    rw [h1, z_add] at hy
    rw [hy] at c1
    exact absurd c1 (nI_pos (by omega))
  · obtain ⟨k, hk, hk2⟩ := q_nn (Int32.not_lt.mp c1)
    by_cases c2 : k < 845
    · refine q_X.run sX9_from [] 30 ?_
      simp (maxSteps := 10000000) (disch := omega) only [↓q_run_s, q_stop_n, q_stop_c, q_lg_c, q_ls_d, q_ld_n, q_ld_c, q_cat_i, q_cat_r, q_cat_n, q_wd_n, q_wd_c, q_bx_1, q_bx_2, q_bx_3, q_bx_4, q_bx_5, q_bx_6, q_bx_7, q_bx_8, q_pop_0, q_pop_s, ↓reduceIte, Nat.reduceEqDiff, reduceCtorEq, eq_self, Bool.false_eq_true, Nat.reduceAdd, Nat.reduceSub, Nat.reduceMul, Nat.reduceLeDiff, Nat.reduceLT, Nat.le_refl, Nat.zero_le, true_and, and_true, false_and, and_false, or_false, false_or, true_or, or_true, not_true_eq_false, not_false_eq_true, if_true, if_false, List.getElem?_cons_zero, List.getElem?_cons_succ, List.set_cons_zero, List.set_cons_succ, List.length_cons, List.length_nil, ↓tX9_from_0, ↓tX9_from_1, ↓tX9_from_3, ↓tX9_from_4, ↓tX9_from_5, ↓tX9_from_6, ↓tX9_from_7, ↓tX9_from_8, ↓tX9_from_11, ↓tX9_from_12, ↓tX9_from_13, ↓tX9_from_16, ↓tX9_from_17, ↓tX9_from_20, ↓tX9_from_21, ↓tX9_from_24, ↓tX9_from_25, ↓tX9_from_26, ↓tX9_from_29, ↓tX9_from_30, ↓oAdd, ↓oAl, ↓oAlen, ↓oGet, ↓oGo, ↓oIald, ↓oIf1lt, ↓oIf2ge, ↓oIl, ↓oIret, ↓oIs, ↓oK, ↓oMul, q_set_s, q_set_n, wa_0, waO_len, q_up_a, waO_0, wa_a0, z_clamp, z_ltI, z_leI, z_eqI, z_lt0, z_ge0, z_eq0I, z_gt0I, z_le0I, z_m1lt, z_m1ge, z_m1eq, z_m1eq', z_inT, z_add, z_sub, z_mul, z_div, z_rem, n_ltT, n_ltF, n_leT, n_leF, n_eqT, n_eqF, q_tl_i, q_tl_n, q_ap_n, q_ap_c, ← hy, hk2]
      refine hQ _ fun S h1 h2 => ?_
      rw [h1, z_add, hk2] at hy
      have := (nI_eq (by omega) (by omega)).mp hy
      rw [this]
    · refine q_X.run sX9_from [] 30 ?_
      simp (maxSteps := 10000000) (disch := omega) only [↓q_run_s, q_stop_n, q_stop_c, q_lg_c, q_ls_d, q_ld_n, q_ld_c, q_cat_i, q_cat_r, q_cat_n, q_wd_n, q_wd_c, q_bx_1, q_bx_2, q_bx_3, q_bx_4, q_bx_5, q_bx_6, q_bx_7, q_bx_8, q_pop_0, q_pop_s, ↓reduceIte, Nat.reduceEqDiff, reduceCtorEq, eq_self, Bool.false_eq_true, Nat.reduceAdd, Nat.reduceSub, Nat.reduceMul, Nat.reduceLeDiff, Nat.reduceLT, Nat.le_refl, Nat.zero_le, true_and, and_true, false_and, and_false, or_false, false_or, true_or, or_true, not_true_eq_false, not_false_eq_true, if_true, if_false, List.getElem?_cons_zero, List.getElem?_cons_succ, List.set_cons_zero, List.set_cons_succ, List.length_cons, List.length_nil, ↓tX9_from_0, ↓tX9_from_1, ↓tX9_from_3, ↓tX9_from_4, ↓tX9_from_5, ↓tX9_from_6, ↓tX9_from_7, ↓tX9_from_8, ↓tX9_from_11, ↓tX9_from_12, ↓tX9_from_13, ↓tX9_from_16, ↓tX9_from_17, ↓tX9_from_20, ↓tX9_from_21, ↓tX9_from_24, ↓tX9_from_25, ↓tX9_from_26, ↓tX9_from_29, ↓tX9_from_30, ↓oAdd, ↓oAl, ↓oAlen, ↓oGet, ↓oGo, ↓oIald, ↓oIf1lt, ↓oIf2ge, ↓oIl, ↓oIret, ↓oIs, ↓oK, ↓oMul, q_set_s, q_set_n, wa_0, waO_len, q_up_a, waO_0, wa_a0, z_clamp, z_ltI, z_leI, z_eqI, z_lt0, z_ge0, z_eq0I, z_gt0I, z_le0I, z_m1lt, z_m1ge, z_m1eq, z_m1eq', z_inT, z_add, z_sub, z_mul, z_div, z_rem, n_ltT, n_ltF, n_leT, n_leF, n_eqT, n_eqF, q_tl_i, q_tl_n, q_ap_n, q_ap_c, ← hy, hk2]
      refine hQ _ fun S h1 h2 => ?_
      rw [h1, z_add, hk2] at hy
      have := (nI_eq (by omega) (by omega)).mp hy
      omega
set_option maxRecDepth 100000 in
set_option maxHeartbeats 8000000 in
theorem c9_fill {t : qT} {len : Nat} {acc : Nat → Nat} (hau : q_au M0 a s A = M0) (hdj : a + 7 ≤ i ∨ i + 2 ≤ a) (hR : au_R s A t) (hacc : g_ok acc t 0) (h12 : t_nodes t ≤ 12) (hlen : len ≤ 12) (hd : 1 ≤ d) (hQ : ∀ f, (∀ m S, m ≤ len → u_ok t S → f (m * 65 + S) = nI (u_ways (u_step (g_f t 0) (g_w t 0) acc) (u_fin (g_l t 0) (g_e t)) m (u_mp S))) → Q none (q_wa M0 i (va_up W 0 f))) : q_Call G L d mX9_fill 0 0 [.ref i, .ref a, .int (nI len)] (q_wa M0 i W) Q := by
  obtain ⟨h7, h8, hst⟩ := hR
  have hst := hst acc hacc
  have hgn := g_n_le t
  have hpn : 2 ^ g_n t ≤ 64 := Nat.pow_le_pow_right (n := 2) (j := 6) (by decide) (by omega)
  have hgl := g_l64 (t := t) (a := 0) (by omega)
  obtain ⟨st, hste⟩ : ∃ st, st = u_step (g_f t 0) (g_w t 0) acc := ⟨_, rfl⟩
  obtain ⟨fin, hfin⟩ : ∃ fin, fin = u_fin (g_l t 0) (g_e t) := ⟨_, rfl⟩
  rw [← hste, ← hfin] at hQ
  have hst2 : ∀ S c, c < 3 → u_ok t S → A 5 (S * 3 + c) = nI (st (u_mp S) c) ∧ st (u_mp S) c < 2 ^ g_n t := by
    intro S c hc hS
    refine ⟨?_, by rw [hste]; exact u_step_in⟩
    rw [hste]
    rcases hS with rfl | h
    · exact (hst c hc).1
    · unfold u_mp
      rw [if_neg (by omega)]
      exact (hst c hc).2 S h
  have hmp : ∀ S, S < 2 ^ g_n t → u_mp S = S := fun S h => if_neg (by omega)
  have hao : ∀ W', (q_wa M0 i W').2 a = some (.inr (0, auO a s)) := by
    intro W'
    rw [← wa_au (i := i) (W := W') hau hdj]
    exact au_0
  have l3 : ∀ n, 1 ≤ n → n ≤ len → ∀ (g S : Nat) (f : Nat → Int32), g + S = 65 → (∀ m T, m < n → u_ok t T → f (m * 65 + T) = nI (u_ways st fin m (u_mp T))) → (∀ T, T < S → u_ok t T → f (n * 65 + T) = nI (u_ways st fin n (u_mp T))) → (∀ f : Nat → Int32, (∀ m T, m < n + 1 → u_ok t T → f (m * 65 + T) = nI (u_ways st fin m (u_mp T))) → q_X G L d mX9_fill 0 0 Q 47 [(0, .ref i), (1, .ref a), (3, .int (nI len)), (4, .int (nI (n + 1)))] [] (q_wa M0 i (va_up W 0 f)) 0 0) → q_X G L d mX9_fill 0 0 Q 56 [(0, .ref i), (1, .ref a), (3, .int (nI len)), (4, .int (nI n)), (5, .int (nI S))] [] (q_wa M0 i (va_up W 0 f)) 0 0 := by
    intro n hn1 hn2 g
    induction g with
    | zero =>
      intro S f hS hf1 hf2 hk
      have e : S = 65 := by omega
      refine q_X.run sX9_fill [47] 20 ?_
      simp (maxSteps := 10000000) (disch := omega) only [↓q_run_s, q_stop_n, q_stop_c, q_lg_c, q_ls_d, q_ld_n, q_ld_c, q_cat_i, q_cat_r, q_cat_n, q_wd_n, q_wd_c, q_bx_1, q_bx_2, q_bx_3, q_bx_4, q_bx_5, q_bx_6, q_bx_7, q_bx_8, q_pop_0, q_pop_s, ↓reduceIte, Nat.reduceEqDiff, reduceCtorEq, eq_self, Bool.false_eq_true, Nat.reduceAdd, Nat.reduceSub, Nat.reduceMul, Nat.reduceLeDiff, Nat.reduceLT, Nat.le_refl, Nat.zero_le, true_and, and_true, false_and, and_false, or_false, false_or, true_or, or_true, not_true_eq_false, not_false_eq_true, if_true, if_false, List.getElem?_cons_zero, List.getElem?_cons_succ, List.set_cons_zero, List.set_cons_succ, List.length_cons, List.length_nil, ↓tX9_fill_0, ↓tX9_fill_1, ↓tX9_fill_3, ↓tX9_fill_6, ↓tX9_fill_7, ↓tX9_fill_8, ↓tX9_fill_10, ↓tX9_fill_12, ↓tX9_fill_14, ↓tX9_fill_17, ↓tX9_fill_18, ↓tX9_fill_21, ↓tX9_fill_23, ↓tX9_fill_24, ↓tX9_fill_26, ↓tX9_fill_29, ↓tX9_fill_32, ↓tX9_fill_33, ↓tX9_fill_36, ↓tX9_fill_37, ↓tX9_fill_38, ↓tX9_fill_41, ↓tX9_fill_44, ↓tX9_fill_45, ↓tX9_fill_47, ↓tX9_fill_49, ↓tX9_fill_50, ↓tX9_fill_53, ↓tX9_fill_54, ↓tX9_fill_56, ↓tX9_fill_58, ↓tX9_fill_60, ↓tX9_fill_63, ↓tX9_fill_64, ↓tX9_fill_66, ↓tX9_fill_67, ↓tX9_fill_69, ↓tX9_fill_71, ↓tX9_fill_72, ↓tX9_fill_75, ↓tX9_fill_77, ↓tX9_fill_78, ↓tX9_fill_79, ↓tX9_fill_81, ↓tX9_fill_83, ↓tX9_fill_86, ↓tX9_fill_88, ↓tX9_fill_89, ↓tX9_fill_90, ↓tX9_fill_93, ↓tX9_fill_94, ↓tX9_fill_96, ↓tX9_fill_99, ↓tX9_fill_102, ↓tX9_fill_103, ↓tX9_fill_106, ↓tX9_fill_108, ↓tX9_fill_110, ↓tX9_fill_111, ↓tX9_fill_113, ↓tX9_fill_114, ↓tX9_fill_116, ↓tX9_fill_117, ↓tX9_fill_120, ↓tX9_fill_123, ↓tX9_fill_126, ↓tX9_fill_129, ↓oAdd, ↓oAl, ↓oCallV, ↓oGet, ↓oGo, ↓oIast, ↓oIf1eq, ↓oIf2ge, ↓oIf2gt, ↓oIl, ↓oInc, ↓oIs, ↓oK, ↓oMin, ↓oMul, ↓oSub, ↓oVret, q_set_s, q_set_n, wa_0, waO_len, q_up_a, au_0, auO_len, waO_0, wa_a0, was_a0, z_clamp, z_ltI, z_leI, z_eqI, z_lt0, z_ge0, z_eq0I, z_gt0I, z_le0I, z_m1lt, z_m1ge, z_m1eq, z_m1eq', z_inT, z_add, z_sub, z_mul, z_div, z_rem, n_ltT, n_ltF, n_leT, n_leF, n_eqT, n_eqF, q_tl_i, q_tl_n, q_ap_n, q_ap_c]
      refine q_X.lv2 _ ?_ (hk f fun m T hm hT => ?_)
      · exact ⟨rfl, rfl, rfl, rfl, trivial⟩
      · rcases Nat.lt_or_eq_of_le (Nat.le_of_lt_succ hm) with g' | g'
        · exact hf1 m T g' hT
        · rw [g']
          refine hf2 T ?_ hT
          rcases hT with rfl | h
          · omega
          · omega
    | succ g ih =>
      intro S f hS hf1 hf2 hk
      have hM := wa_au (i := i) (W := va_up W 0 f) hau hdj
      refine q_X.run sX9_fill [] 20 ?_
      simp (maxSteps := 10000000) (disch := omega) only [↓q_run_s, q_stop_n, q_stop_c, q_lg_c, q_ls_d, q_ld_n, q_ld_c, q_cat_i, q_cat_r, q_cat_n, q_wd_n, q_wd_c, q_bx_1, q_bx_2, q_bx_3, q_bx_4, q_bx_5, q_bx_6, q_bx_7, q_bx_8, q_pop_0, q_pop_s, ↓reduceIte, Nat.reduceEqDiff, reduceCtorEq, eq_self, Bool.false_eq_true, Nat.reduceAdd, Nat.reduceSub, Nat.reduceMul, Nat.reduceLeDiff, Nat.reduceLT, Nat.le_refl, Nat.zero_le, true_and, and_true, false_and, and_false, or_false, false_or, true_or, or_true, not_true_eq_false, not_false_eq_true, if_true, if_false, List.getElem?_cons_zero, List.getElem?_cons_succ, List.set_cons_zero, List.set_cons_succ, List.length_cons, List.length_nil, ↓tX9_fill_0, ↓tX9_fill_1, ↓tX9_fill_3, ↓tX9_fill_6, ↓tX9_fill_7, ↓tX9_fill_8, ↓tX9_fill_10, ↓tX9_fill_12, ↓tX9_fill_14, ↓tX9_fill_17, ↓tX9_fill_18, ↓tX9_fill_21, ↓tX9_fill_23, ↓tX9_fill_24, ↓tX9_fill_26, ↓tX9_fill_29, ↓tX9_fill_32, ↓tX9_fill_33, ↓tX9_fill_36, ↓tX9_fill_37, ↓tX9_fill_38, ↓tX9_fill_41, ↓tX9_fill_44, ↓tX9_fill_45, ↓tX9_fill_47, ↓tX9_fill_49, ↓tX9_fill_50, ↓tX9_fill_53, ↓tX9_fill_54, ↓tX9_fill_56, ↓tX9_fill_58, ↓tX9_fill_60, ↓tX9_fill_63, ↓tX9_fill_64, ↓tX9_fill_66, ↓tX9_fill_67, ↓tX9_fill_69, ↓tX9_fill_71, ↓tX9_fill_72, ↓tX9_fill_75, ↓tX9_fill_77, ↓tX9_fill_78, ↓tX9_fill_79, ↓tX9_fill_81, ↓tX9_fill_83, ↓tX9_fill_86, ↓tX9_fill_88, ↓tX9_fill_89, ↓tX9_fill_90, ↓tX9_fill_93, ↓tX9_fill_94, ↓tX9_fill_96, ↓tX9_fill_99, ↓tX9_fill_102, ↓tX9_fill_103, ↓tX9_fill_106, ↓tX9_fill_108, ↓tX9_fill_110, ↓tX9_fill_111, ↓tX9_fill_113, ↓tX9_fill_114, ↓tX9_fill_116, ↓tX9_fill_117, ↓tX9_fill_120, ↓tX9_fill_123, ↓tX9_fill_126, ↓tX9_fill_129, ↓oAdd, ↓oAl, ↓oCallV, ↓oGet, ↓oGo, ↓oIast, ↓oIf1eq, ↓oIf2ge, ↓oIf2gt, ↓oIl, ↓oInc, ↓oIs, ↓oK, ↓oMin, ↓oMul, ↓oSub, ↓oVret, q_set_s, q_set_n, wa_0, waO_len, q_up_a, au_0, auO_len, waO_0, wa_a0, was_a0, z_clamp, z_ltI, z_leI, z_eqI, z_lt0, z_ge0, z_eq0I, z_gt0I, z_le0I, z_m1lt, z_m1ge, z_m1eq, z_m1eq', z_inT, z_add, z_sub, z_mul, z_div, z_rem, n_ltT, n_ltF, n_leT, n_leF, n_eqT, n_eqF, q_tl_i, q_tl_n, q_ap_n, q_ap_c, hao]
      refine d0_after hM (by omega) (by decide) ?_
      refine q_X.run sX9_fill [] 20 ?_
      simp (maxSteps := 10000000) (disch := omega) only [↓q_run_s, q_stop_n, q_stop_c, q_lg_c, q_ls_d, q_ld_n, q_ld_c, q_cat_i, q_cat_r, q_cat_n, q_wd_n, q_wd_c, q_bx_1, q_bx_2, q_bx_3, q_bx_4, q_bx_5, q_bx_6, q_bx_7, q_bx_8, q_pop_0, q_pop_s, ↓reduceIte, Nat.reduceEqDiff, reduceCtorEq, eq_self, Bool.false_eq_true, Nat.reduceAdd, Nat.reduceSub, Nat.reduceMul, Nat.reduceLeDiff, Nat.reduceLT, Nat.le_refl, Nat.zero_le, true_and, and_true, false_and, and_false, or_false, false_or, true_or, or_true, not_true_eq_false, not_false_eq_true, if_true, if_false, List.getElem?_cons_zero, List.getElem?_cons_succ, List.set_cons_zero, List.set_cons_succ, List.length_cons, List.length_nil, ↓tX9_fill_0, ↓tX9_fill_1, ↓tX9_fill_3, ↓tX9_fill_6, ↓tX9_fill_7, ↓tX9_fill_8, ↓tX9_fill_10, ↓tX9_fill_12, ↓tX9_fill_14, ↓tX9_fill_17, ↓tX9_fill_18, ↓tX9_fill_21, ↓tX9_fill_23, ↓tX9_fill_24, ↓tX9_fill_26, ↓tX9_fill_29, ↓tX9_fill_32, ↓tX9_fill_33, ↓tX9_fill_36, ↓tX9_fill_37, ↓tX9_fill_38, ↓tX9_fill_41, ↓tX9_fill_44, ↓tX9_fill_45, ↓tX9_fill_47, ↓tX9_fill_49, ↓tX9_fill_50, ↓tX9_fill_53, ↓tX9_fill_54, ↓tX9_fill_56, ↓tX9_fill_58, ↓tX9_fill_60, ↓tX9_fill_63, ↓tX9_fill_64, ↓tX9_fill_66, ↓tX9_fill_67, ↓tX9_fill_69, ↓tX9_fill_71, ↓tX9_fill_72, ↓tX9_fill_75, ↓tX9_fill_77, ↓tX9_fill_78, ↓tX9_fill_79, ↓tX9_fill_81, ↓tX9_fill_83, ↓tX9_fill_86, ↓tX9_fill_88, ↓tX9_fill_89, ↓tX9_fill_90, ↓tX9_fill_93, ↓tX9_fill_94, ↓tX9_fill_96, ↓tX9_fill_99, ↓tX9_fill_102, ↓tX9_fill_103, ↓tX9_fill_106, ↓tX9_fill_108, ↓tX9_fill_110, ↓tX9_fill_111, ↓tX9_fill_113, ↓tX9_fill_114, ↓tX9_fill_116, ↓tX9_fill_117, ↓tX9_fill_120, ↓tX9_fill_123, ↓tX9_fill_126, ↓tX9_fill_129, ↓oAdd, ↓oAl, ↓oCallV, ↓oGet, ↓oGo, ↓oIast, ↓oIf1eq, ↓oIf2ge, ↓oIf2gt, ↓oIl, ↓oInc, ↓oIs, ↓oK, ↓oMin, ↓oMul, ↓oSub, ↓oVret, q_set_s, q_set_n, wa_0, waO_len, q_up_a, au_0, auO_len, waO_0, wa_a0, was_a0, z_clamp, z_ltI, z_leI, z_eqI, z_lt0, z_ge0, z_eq0I, z_gt0I, z_le0I, z_m1lt, z_m1ge, z_m1eq, z_m1eq', z_inT, z_add, z_sub, z_mul, z_div, z_rem, n_ltT, n_ltF, n_leT, n_leF, n_eqT, n_eqF, q_tl_i, q_tl_n, q_ap_n, q_ap_c]
      refine c9_from (by omega) fun v0 hv0 => ?_
      refine q_X.run sX9_fill [] 20 ?_
      simp (maxSteps := 10000000) (disch := omega) only [↓q_run_s, q_stop_n, q_stop_c, q_lg_c, q_ls_d, q_ld_n, q_ld_c, q_cat_i, q_cat_r, q_cat_n, q_wd_n, q_wd_c, q_bx_1, q_bx_2, q_bx_3, q_bx_4, q_bx_5, q_bx_6, q_bx_7, q_bx_8, q_pop_0, q_pop_s, ↓reduceIte, Nat.reduceEqDiff, reduceCtorEq, eq_self, Bool.false_eq_true, Nat.reduceAdd, Nat.reduceSub, Nat.reduceMul, Nat.reduceLeDiff, Nat.reduceLT, Nat.le_refl, Nat.zero_le, true_and, and_true, false_and, and_false, or_false, false_or, true_or, or_true, not_true_eq_false, not_false_eq_true, if_true, if_false, List.getElem?_cons_zero, List.getElem?_cons_succ, List.set_cons_zero, List.set_cons_succ, List.length_cons, List.length_nil, ↓tX9_fill_0, ↓tX9_fill_1, ↓tX9_fill_3, ↓tX9_fill_6, ↓tX9_fill_7, ↓tX9_fill_8, ↓tX9_fill_10, ↓tX9_fill_12, ↓tX9_fill_14, ↓tX9_fill_17, ↓tX9_fill_18, ↓tX9_fill_21, ↓tX9_fill_23, ↓tX9_fill_24, ↓tX9_fill_26, ↓tX9_fill_29, ↓tX9_fill_32, ↓tX9_fill_33, ↓tX9_fill_36, ↓tX9_fill_37, ↓tX9_fill_38, ↓tX9_fill_41, ↓tX9_fill_44, ↓tX9_fill_45, ↓tX9_fill_47, ↓tX9_fill_49, ↓tX9_fill_50, ↓tX9_fill_53, ↓tX9_fill_54, ↓tX9_fill_56, ↓tX9_fill_58, ↓tX9_fill_60, ↓tX9_fill_63, ↓tX9_fill_64, ↓tX9_fill_66, ↓tX9_fill_67, ↓tX9_fill_69, ↓tX9_fill_71, ↓tX9_fill_72, ↓tX9_fill_75, ↓tX9_fill_77, ↓tX9_fill_78, ↓tX9_fill_79, ↓tX9_fill_81, ↓tX9_fill_83, ↓tX9_fill_86, ↓tX9_fill_88, ↓tX9_fill_89, ↓tX9_fill_90, ↓tX9_fill_93, ↓tX9_fill_94, ↓tX9_fill_96, ↓tX9_fill_99, ↓tX9_fill_102, ↓tX9_fill_103, ↓tX9_fill_106, ↓tX9_fill_108, ↓tX9_fill_110, ↓tX9_fill_111, ↓tX9_fill_113, ↓tX9_fill_114, ↓tX9_fill_116, ↓tX9_fill_117, ↓tX9_fill_120, ↓tX9_fill_123, ↓tX9_fill_126, ↓tX9_fill_129, ↓oAdd, ↓oAl, ↓oCallV, ↓oGet, ↓oGo, ↓oIast, ↓oIf1eq, ↓oIf2ge, ↓oIf2gt, ↓oIl, ↓oInc, ↓oIs, ↓oK, ↓oMin, ↓oMul, ↓oSub, ↓oVret, q_set_s, q_set_n, wa_0, waO_len, q_up_a, au_0, auO_len, waO_0, wa_a0, was_a0, z_clamp, z_ltI, z_leI, z_eqI, z_lt0, z_ge0, z_eq0I, z_gt0I, z_le0I, z_m1lt, z_m1ge, z_m1eq, z_m1eq', z_inT, z_add, z_sub, z_mul, z_div, z_rem, n_ltT, n_ltF, n_leT, n_leF, n_eqT, n_eqF, q_tl_i, q_tl_n, q_ap_n, q_ap_c, hao]
      refine d0_after hM (by omega) (by decide) ?_
      refine q_X.run sX9_fill [] 20 ?_
      simp (maxSteps := 10000000) (disch := omega) only [↓q_run_s, q_stop_n, q_stop_c, q_lg_c, q_ls_d, q_ld_n, q_ld_c, q_cat_i, q_cat_r, q_cat_n, q_wd_n, q_wd_c, q_bx_1, q_bx_2, q_bx_3, q_bx_4, q_bx_5, q_bx_6, q_bx_7, q_bx_8, q_pop_0, q_pop_s, ↓reduceIte, Nat.reduceEqDiff, reduceCtorEq, eq_self, Bool.false_eq_true, Nat.reduceAdd, Nat.reduceSub, Nat.reduceMul, Nat.reduceLeDiff, Nat.reduceLT, Nat.le_refl, Nat.zero_le, true_and, and_true, false_and, and_false, or_false, false_or, true_or, or_true, not_true_eq_false, not_false_eq_true, if_true, if_false, List.getElem?_cons_zero, List.getElem?_cons_succ, List.set_cons_zero, List.set_cons_succ, List.length_cons, List.length_nil, ↓tX9_fill_0, ↓tX9_fill_1, ↓tX9_fill_3, ↓tX9_fill_6, ↓tX9_fill_7, ↓tX9_fill_8, ↓tX9_fill_10, ↓tX9_fill_12, ↓tX9_fill_14, ↓tX9_fill_17, ↓tX9_fill_18, ↓tX9_fill_21, ↓tX9_fill_23, ↓tX9_fill_24, ↓tX9_fill_26, ↓tX9_fill_29, ↓tX9_fill_32, ↓tX9_fill_33, ↓tX9_fill_36, ↓tX9_fill_37, ↓tX9_fill_38, ↓tX9_fill_41, ↓tX9_fill_44, ↓tX9_fill_45, ↓tX9_fill_47, ↓tX9_fill_49, ↓tX9_fill_50, ↓tX9_fill_53, ↓tX9_fill_54, ↓tX9_fill_56, ↓tX9_fill_58, ↓tX9_fill_60, ↓tX9_fill_63, ↓tX9_fill_64, ↓tX9_fill_66, ↓tX9_fill_67, ↓tX9_fill_69, ↓tX9_fill_71, ↓tX9_fill_72, ↓tX9_fill_75, ↓tX9_fill_77, ↓tX9_fill_78, ↓tX9_fill_79, ↓tX9_fill_81, ↓tX9_fill_83, ↓tX9_fill_86, ↓tX9_fill_88, ↓tX9_fill_89, ↓tX9_fill_90, ↓tX9_fill_93, ↓tX9_fill_94, ↓tX9_fill_96, ↓tX9_fill_99, ↓tX9_fill_102, ↓tX9_fill_103, ↓tX9_fill_106, ↓tX9_fill_108, ↓tX9_fill_110, ↓tX9_fill_111, ↓tX9_fill_113, ↓tX9_fill_114, ↓tX9_fill_116, ↓tX9_fill_117, ↓tX9_fill_120, ↓tX9_fill_123, ↓tX9_fill_126, ↓tX9_fill_129, ↓oAdd, ↓oAl, ↓oCallV, ↓oGet, ↓oGo, ↓oIast, ↓oIf1eq, ↓oIf2ge, ↓oIf2gt, ↓oIl, ↓oInc, ↓oIs, ↓oK, ↓oMin, ↓oMul, ↓oSub, ↓oVret, q_set_s, q_set_n, wa_0, waO_len, q_up_a, au_0, auO_len, waO_0, wa_a0, was_a0, z_clamp, z_ltI, z_leI, z_eqI, z_lt0, z_ge0, z_eq0I, z_gt0I, z_le0I, z_m1lt, z_m1ge, z_m1eq, z_m1eq', z_inT, z_add, z_sub, z_mul, z_div, z_rem, n_ltT, n_ltF, n_leT, n_leF, n_eqT, n_eqF, q_tl_i, q_tl_n, q_ap_n, q_ap_c]
      refine c9_from (by omega) fun v1 hv1 => ?_
      refine q_X.run sX9_fill [] 20 ?_
      simp (maxSteps := 10000000) (disch := omega) only [↓q_run_s, q_stop_n, q_stop_c, q_lg_c, q_ls_d, q_ld_n, q_ld_c, q_cat_i, q_cat_r, q_cat_n, q_wd_n, q_wd_c, q_bx_1, q_bx_2, q_bx_3, q_bx_4, q_bx_5, q_bx_6, q_bx_7, q_bx_8, q_pop_0, q_pop_s, ↓reduceIte, Nat.reduceEqDiff, reduceCtorEq, eq_self, Bool.false_eq_true, Nat.reduceAdd, Nat.reduceSub, Nat.reduceMul, Nat.reduceLeDiff, Nat.reduceLT, Nat.le_refl, Nat.zero_le, true_and, and_true, false_and, and_false, or_false, false_or, true_or, or_true, not_true_eq_false, not_false_eq_true, if_true, if_false, List.getElem?_cons_zero, List.getElem?_cons_succ, List.set_cons_zero, List.set_cons_succ, List.length_cons, List.length_nil, ↓tX9_fill_0, ↓tX9_fill_1, ↓tX9_fill_3, ↓tX9_fill_6, ↓tX9_fill_7, ↓tX9_fill_8, ↓tX9_fill_10, ↓tX9_fill_12, ↓tX9_fill_14, ↓tX9_fill_17, ↓tX9_fill_18, ↓tX9_fill_21, ↓tX9_fill_23, ↓tX9_fill_24, ↓tX9_fill_26, ↓tX9_fill_29, ↓tX9_fill_32, ↓tX9_fill_33, ↓tX9_fill_36, ↓tX9_fill_37, ↓tX9_fill_38, ↓tX9_fill_41, ↓tX9_fill_44, ↓tX9_fill_45, ↓tX9_fill_47, ↓tX9_fill_49, ↓tX9_fill_50, ↓tX9_fill_53, ↓tX9_fill_54, ↓tX9_fill_56, ↓tX9_fill_58, ↓tX9_fill_60, ↓tX9_fill_63, ↓tX9_fill_64, ↓tX9_fill_66, ↓tX9_fill_67, ↓tX9_fill_69, ↓tX9_fill_71, ↓tX9_fill_72, ↓tX9_fill_75, ↓tX9_fill_77, ↓tX9_fill_78, ↓tX9_fill_79, ↓tX9_fill_81, ↓tX9_fill_83, ↓tX9_fill_86, ↓tX9_fill_88, ↓tX9_fill_89, ↓tX9_fill_90, ↓tX9_fill_93, ↓tX9_fill_94, ↓tX9_fill_96, ↓tX9_fill_99, ↓tX9_fill_102, ↓tX9_fill_103, ↓tX9_fill_106, ↓tX9_fill_108, ↓tX9_fill_110, ↓tX9_fill_111, ↓tX9_fill_113, ↓tX9_fill_114, ↓tX9_fill_116, ↓tX9_fill_117, ↓tX9_fill_120, ↓tX9_fill_123, ↓tX9_fill_126, ↓tX9_fill_129, ↓oAdd, ↓oAl, ↓oCallV, ↓oGet, ↓oGo, ↓oIast, ↓oIf1eq, ↓oIf2ge, ↓oIf2gt, ↓oIl, ↓oInc, ↓oIs, ↓oK, ↓oMin, ↓oMul, ↓oSub, ↓oVret, q_set_s, q_set_n, wa_0, waO_len, q_up_a, au_0, auO_len, waO_0, wa_a0, was_a0, z_clamp, z_ltI, z_leI, z_eqI, z_lt0, z_ge0, z_eq0I, z_gt0I, z_le0I, z_m1lt, z_m1ge, z_m1eq, z_m1eq', z_inT, z_add, z_sub, z_mul, z_div, z_rem, n_ltT, n_ltF, n_leT, n_leF, n_eqT, n_eqF, q_tl_i, q_tl_n, q_ap_n, q_ap_c, hao]
      refine d0_after hM (by omega) (by decide) ?_
      refine q_X.run sX9_fill [] 20 ?_
      simp (maxSteps := 10000000) (disch := omega) only [↓q_run_s, q_stop_n, q_stop_c, q_lg_c, q_ls_d, q_ld_n, q_ld_c, q_cat_i, q_cat_r, q_cat_n, q_wd_n, q_wd_c, q_bx_1, q_bx_2, q_bx_3, q_bx_4, q_bx_5, q_bx_6, q_bx_7, q_bx_8, q_pop_0, q_pop_s, ↓reduceIte, Nat.reduceEqDiff, reduceCtorEq, eq_self, Bool.false_eq_true, Nat.reduceAdd, Nat.reduceSub, Nat.reduceMul, Nat.reduceLeDiff, Nat.reduceLT, Nat.le_refl, Nat.zero_le, true_and, and_true, false_and, and_false, or_false, false_or, true_or, or_true, not_true_eq_false, not_false_eq_true, if_true, if_false, List.getElem?_cons_zero, List.getElem?_cons_succ, List.set_cons_zero, List.set_cons_succ, List.length_cons, List.length_nil, ↓tX9_fill_0, ↓tX9_fill_1, ↓tX9_fill_3, ↓tX9_fill_6, ↓tX9_fill_7, ↓tX9_fill_8, ↓tX9_fill_10, ↓tX9_fill_12, ↓tX9_fill_14, ↓tX9_fill_17, ↓tX9_fill_18, ↓tX9_fill_21, ↓tX9_fill_23, ↓tX9_fill_24, ↓tX9_fill_26, ↓tX9_fill_29, ↓tX9_fill_32, ↓tX9_fill_33, ↓tX9_fill_36, ↓tX9_fill_37, ↓tX9_fill_38, ↓tX9_fill_41, ↓tX9_fill_44, ↓tX9_fill_45, ↓tX9_fill_47, ↓tX9_fill_49, ↓tX9_fill_50, ↓tX9_fill_53, ↓tX9_fill_54, ↓tX9_fill_56, ↓tX9_fill_58, ↓tX9_fill_60, ↓tX9_fill_63, ↓tX9_fill_64, ↓tX9_fill_66, ↓tX9_fill_67, ↓tX9_fill_69, ↓tX9_fill_71, ↓tX9_fill_72, ↓tX9_fill_75, ↓tX9_fill_77, ↓tX9_fill_78, ↓tX9_fill_79, ↓tX9_fill_81, ↓tX9_fill_83, ↓tX9_fill_86, ↓tX9_fill_88, ↓tX9_fill_89, ↓tX9_fill_90, ↓tX9_fill_93, ↓tX9_fill_94, ↓tX9_fill_96, ↓tX9_fill_99, ↓tX9_fill_102, ↓tX9_fill_103, ↓tX9_fill_106, ↓tX9_fill_108, ↓tX9_fill_110, ↓tX9_fill_111, ↓tX9_fill_113, ↓tX9_fill_114, ↓tX9_fill_116, ↓tX9_fill_117, ↓tX9_fill_120, ↓tX9_fill_123, ↓tX9_fill_126, ↓tX9_fill_129, ↓oAdd, ↓oAl, ↓oCallV, ↓oGet, ↓oGo, ↓oIast, ↓oIf1eq, ↓oIf2ge, ↓oIf2gt, ↓oIl, ↓oInc, ↓oIs, ↓oK, ↓oMin, ↓oMul, ↓oSub, ↓oVret, q_set_s, q_set_n, wa_0, waO_len, q_up_a, au_0, auO_len, waO_0, wa_a0, was_a0, z_clamp, z_ltI, z_leI, z_eqI, z_lt0, z_ge0, z_eq0I, z_gt0I, z_le0I, z_m1lt, z_m1ge, z_m1eq, z_m1eq', z_inT, z_add, z_sub, z_mul, z_div, z_rem, n_ltT, n_ltF, n_leT, n_leF, n_eqT, n_eqF, q_tl_i, q_tl_n, q_ap_n, q_ap_c]
      refine c9_from (by omega) fun v2 hv2 => ?_
      refine q_X.run sX9_fill [56] 30 ?_
      simp (maxSteps := 10000000) (disch := omega) only [↓q_run_s, q_stop_n, q_stop_c, q_lg_c, q_ls_d, q_ld_n, q_ld_c, q_cat_i, q_cat_r, q_cat_n, q_wd_n, q_wd_c, q_bx_1, q_bx_2, q_bx_3, q_bx_4, q_bx_5, q_bx_6, q_bx_7, q_bx_8, q_pop_0, q_pop_s, ↓reduceIte, Nat.reduceEqDiff, reduceCtorEq, eq_self, Bool.false_eq_true, Nat.reduceAdd, Nat.reduceSub, Nat.reduceMul, Nat.reduceLeDiff, Nat.reduceLT, Nat.le_refl, Nat.zero_le, true_and, and_true, false_and, and_false, or_false, false_or, true_or, or_true, not_true_eq_false, not_false_eq_true, if_true, if_false, List.getElem?_cons_zero, List.getElem?_cons_succ, List.set_cons_zero, List.set_cons_succ, List.length_cons, List.length_nil, ↓tX9_fill_0, ↓tX9_fill_1, ↓tX9_fill_3, ↓tX9_fill_6, ↓tX9_fill_7, ↓tX9_fill_8, ↓tX9_fill_10, ↓tX9_fill_12, ↓tX9_fill_14, ↓tX9_fill_17, ↓tX9_fill_18, ↓tX9_fill_21, ↓tX9_fill_23, ↓tX9_fill_24, ↓tX9_fill_26, ↓tX9_fill_29, ↓tX9_fill_32, ↓tX9_fill_33, ↓tX9_fill_36, ↓tX9_fill_37, ↓tX9_fill_38, ↓tX9_fill_41, ↓tX9_fill_44, ↓tX9_fill_45, ↓tX9_fill_47, ↓tX9_fill_49, ↓tX9_fill_50, ↓tX9_fill_53, ↓tX9_fill_54, ↓tX9_fill_56, ↓tX9_fill_58, ↓tX9_fill_60, ↓tX9_fill_63, ↓tX9_fill_64, ↓tX9_fill_66, ↓tX9_fill_67, ↓tX9_fill_69, ↓tX9_fill_71, ↓tX9_fill_72, ↓tX9_fill_75, ↓tX9_fill_77, ↓tX9_fill_78, ↓tX9_fill_79, ↓tX9_fill_81, ↓tX9_fill_83, ↓tX9_fill_86, ↓tX9_fill_88, ↓tX9_fill_89, ↓tX9_fill_90, ↓tX9_fill_93, ↓tX9_fill_94, ↓tX9_fill_96, ↓tX9_fill_99, ↓tX9_fill_102, ↓tX9_fill_103, ↓tX9_fill_106, ↓tX9_fill_108, ↓tX9_fill_110, ↓tX9_fill_111, ↓tX9_fill_113, ↓tX9_fill_114, ↓tX9_fill_116, ↓tX9_fill_117, ↓tX9_fill_120, ↓tX9_fill_123, ↓tX9_fill_126, ↓tX9_fill_129, ↓oAdd, ↓oAl, ↓oCallV, ↓oGet, ↓oGo, ↓oIast, ↓oIf1eq, ↓oIf2ge, ↓oIf2gt, ↓oIl, ↓oInc, ↓oIs, ↓oK, ↓oMin, ↓oMul, ↓oSub, ↓oVret, q_set_s, q_set_n, wa_0, waO_len, q_up_a, au_0, auO_len, waO_0, wa_a0, was_a0, z_clamp, z_ltI, z_leI, z_eqI, z_lt0, z_ge0, z_eq0I, z_gt0I, z_le0I, z_m1lt, z_m1ge, z_m1eq, z_m1eq', z_inT, z_add, z_sub, z_mul, z_div, z_rem, n_ltT, n_ltF, n_leT, n_leF, n_eqT, n_eqF, q_tl_i, q_tl_n, q_ap_n, q_ap_c, q_upup]
      refine q_X.lv2 _ ?_ (ih (S + 1) (upd f (n * 65 + S) (nI 0 + v0 + v1 + v2)) (by omega) ?_ ?_ hk)
      · exact ⟨rfl, rfl, rfl, rfl, rfl, trivial⟩
      · intro m T hm hT
        rw [q_ud_n _ _ (by
          rcases hT with rfl | h
          · omega
          · omega)]
        exact hf1 m T hm hT
      · intro T hT hT2
        rw [q_ud_a]
        by_cases c : T = S
        · subst c
          rw [if_pos rfl]
          obtain ⟨a0, b0⟩ := hst2 T 0 (by decide) hT2
          obtain ⟨a1, b1⟩ := hst2 T 1 (by decide) hT2
          obtain ⟨a2, b2⟩ := hst2 T 2 (by decide) hT2
          have e0 : v0 = f ((n - 1) * 65 + st (u_mp T) 0) := hv0 _ a0 (by omega)
          have e1 : v1 = f ((n - 1) * 65 + st (u_mp T) 1) := hv1 _ a1 (by omega)
          have e2 : v2 = f ((n - 1) * 65 + st (u_mp T) 2) := hv2 _ a2 (by omega)
          rw [e0, e1, e2, hf1 (n - 1) _ (by omega) (Or.inr b0), hf1 (n - 1) _ (by omega) (Or.inr b1), hf1 (n - 1) _ (by omega) (Or.inr b2), hmp _ b0, hmp _ b1, hmp _ b2, z_add, z_add, z_add, Nat.zero_add]
          obtain ⟨n', rfl⟩ : ∃ n', n = n' + 1 := ⟨n - 1, by omega⟩
          rfl
        · rw [if_neg (by omega)]
          exact hf2 T (by omega) hT2
  have l2 : ∀ (g n : Nat) (f : Nat → Int32), g + n = len + 1 → 1 ≤ n → (∀ m T, m < n → u_ok t T → f (m * 65 + T) = nI (u_ways st fin m (u_mp T))) → q_X G L d mX9_fill 0 0 Q 47 [(0, .ref i), (1, .ref a), (3, .int (nI len)), (4, .int (nI n))] [] (q_wa M0 i (va_up W 0 f)) 0 0 := by
    intro g
    induction g with
    | zero =>
      intro n f hn hn1 hf
      refine q_X.run sX9_fill [] 20 ?_
      simp (maxSteps := 10000000) (disch := omega) only [↓q_run_s, q_stop_n, q_stop_c, q_lg_c, q_ls_d, q_ld_n, q_ld_c, q_cat_i, q_cat_r, q_cat_n, q_wd_n, q_wd_c, q_bx_1, q_bx_2, q_bx_3, q_bx_4, q_bx_5, q_bx_6, q_bx_7, q_bx_8, q_pop_0, q_pop_s, ↓reduceIte, Nat.reduceEqDiff, reduceCtorEq, eq_self, Bool.false_eq_true, Nat.reduceAdd, Nat.reduceSub, Nat.reduceMul, Nat.reduceLeDiff, Nat.reduceLT, Nat.le_refl, Nat.zero_le, true_and, and_true, false_and, and_false, or_false, false_or, true_or, or_true, not_true_eq_false, not_false_eq_true, if_true, if_false, List.getElem?_cons_zero, List.getElem?_cons_succ, List.set_cons_zero, List.set_cons_succ, List.length_cons, List.length_nil, ↓tX9_fill_0, ↓tX9_fill_1, ↓tX9_fill_3, ↓tX9_fill_6, ↓tX9_fill_7, ↓tX9_fill_8, ↓tX9_fill_10, ↓tX9_fill_12, ↓tX9_fill_14, ↓tX9_fill_17, ↓tX9_fill_18, ↓tX9_fill_21, ↓tX9_fill_23, ↓tX9_fill_24, ↓tX9_fill_26, ↓tX9_fill_29, ↓tX9_fill_32, ↓tX9_fill_33, ↓tX9_fill_36, ↓tX9_fill_37, ↓tX9_fill_38, ↓tX9_fill_41, ↓tX9_fill_44, ↓tX9_fill_45, ↓tX9_fill_47, ↓tX9_fill_49, ↓tX9_fill_50, ↓tX9_fill_53, ↓tX9_fill_54, ↓tX9_fill_56, ↓tX9_fill_58, ↓tX9_fill_60, ↓tX9_fill_63, ↓tX9_fill_64, ↓tX9_fill_66, ↓tX9_fill_67, ↓tX9_fill_69, ↓tX9_fill_71, ↓tX9_fill_72, ↓tX9_fill_75, ↓tX9_fill_77, ↓tX9_fill_78, ↓tX9_fill_79, ↓tX9_fill_81, ↓tX9_fill_83, ↓tX9_fill_86, ↓tX9_fill_88, ↓tX9_fill_89, ↓tX9_fill_90, ↓tX9_fill_93, ↓tX9_fill_94, ↓tX9_fill_96, ↓tX9_fill_99, ↓tX9_fill_102, ↓tX9_fill_103, ↓tX9_fill_106, ↓tX9_fill_108, ↓tX9_fill_110, ↓tX9_fill_111, ↓tX9_fill_113, ↓tX9_fill_114, ↓tX9_fill_116, ↓tX9_fill_117, ↓tX9_fill_120, ↓tX9_fill_123, ↓tX9_fill_126, ↓tX9_fill_129, ↓oAdd, ↓oAl, ↓oCallV, ↓oGet, ↓oGo, ↓oIast, ↓oIf1eq, ↓oIf2ge, ↓oIf2gt, ↓oIl, ↓oInc, ↓oIs, ↓oK, ↓oMin, ↓oMul, ↓oSub, ↓oVret, q_set_s, q_set_n, wa_0, waO_len, q_up_a, au_0, auO_len, waO_0, wa_a0, was_a0, z_clamp, z_ltI, z_leI, z_eqI, z_lt0, z_ge0, z_eq0I, z_gt0I, z_le0I, z_m1lt, z_m1ge, z_m1eq, z_m1eq', z_inT, z_add, z_sub, z_mul, z_div, z_rem, n_ltT, n_ltF, n_leT, n_leF, n_eqT, n_eqF, q_tl_i, q_tl_n, q_ap_n, q_ap_c]
      exact hQ f fun m S hm hS => hf m S (by omega) hS
    | succ g ih =>
      intro n f hn hn1 hf
      refine q_X.run sX9_fill [56] 20 ?_
      simp (maxSteps := 10000000) (disch := omega) only [↓q_run_s, q_stop_n, q_stop_c, q_lg_c, q_ls_d, q_ld_n, q_ld_c, q_cat_i, q_cat_r, q_cat_n, q_wd_n, q_wd_c, q_bx_1, q_bx_2, q_bx_3, q_bx_4, q_bx_5, q_bx_6, q_bx_7, q_bx_8, q_pop_0, q_pop_s, ↓reduceIte, Nat.reduceEqDiff, reduceCtorEq, eq_self, Bool.false_eq_true, Nat.reduceAdd, Nat.reduceSub, Nat.reduceMul, Nat.reduceLeDiff, Nat.reduceLT, Nat.le_refl, Nat.zero_le, true_and, and_true, false_and, and_false, or_false, false_or, true_or, or_true, not_true_eq_false, not_false_eq_true, if_true, if_false, List.getElem?_cons_zero, List.getElem?_cons_succ, List.set_cons_zero, List.set_cons_succ, List.length_cons, List.length_nil, ↓tX9_fill_0, ↓tX9_fill_1, ↓tX9_fill_3, ↓tX9_fill_6, ↓tX9_fill_7, ↓tX9_fill_8, ↓tX9_fill_10, ↓tX9_fill_12, ↓tX9_fill_14, ↓tX9_fill_17, ↓tX9_fill_18, ↓tX9_fill_21, ↓tX9_fill_23, ↓tX9_fill_24, ↓tX9_fill_26, ↓tX9_fill_29, ↓tX9_fill_32, ↓tX9_fill_33, ↓tX9_fill_36, ↓tX9_fill_37, ↓tX9_fill_38, ↓tX9_fill_41, ↓tX9_fill_44, ↓tX9_fill_45, ↓tX9_fill_47, ↓tX9_fill_49, ↓tX9_fill_50, ↓tX9_fill_53, ↓tX9_fill_54, ↓tX9_fill_56, ↓tX9_fill_58, ↓tX9_fill_60, ↓tX9_fill_63, ↓tX9_fill_64, ↓tX9_fill_66, ↓tX9_fill_67, ↓tX9_fill_69, ↓tX9_fill_71, ↓tX9_fill_72, ↓tX9_fill_75, ↓tX9_fill_77, ↓tX9_fill_78, ↓tX9_fill_79, ↓tX9_fill_81, ↓tX9_fill_83, ↓tX9_fill_86, ↓tX9_fill_88, ↓tX9_fill_89, ↓tX9_fill_90, ↓tX9_fill_93, ↓tX9_fill_94, ↓tX9_fill_96, ↓tX9_fill_99, ↓tX9_fill_102, ↓tX9_fill_103, ↓tX9_fill_106, ↓tX9_fill_108, ↓tX9_fill_110, ↓tX9_fill_111, ↓tX9_fill_113, ↓tX9_fill_114, ↓tX9_fill_116, ↓tX9_fill_117, ↓tX9_fill_120, ↓tX9_fill_123, ↓tX9_fill_126, ↓tX9_fill_129, ↓oAdd, ↓oAl, ↓oCallV, ↓oGet, ↓oGo, ↓oIast, ↓oIf1eq, ↓oIf2ge, ↓oIf2gt, ↓oIl, ↓oInc, ↓oIs, ↓oK, ↓oMin, ↓oMul, ↓oSub, ↓oVret, q_set_s, q_set_n, wa_0, waO_len, q_up_a, au_0, auO_len, waO_0, wa_a0, was_a0, z_clamp, z_ltI, z_leI, z_eqI, z_lt0, z_ge0, z_eq0I, z_gt0I, z_le0I, z_m1lt, z_m1ge, z_m1eq, z_m1eq', z_inT, z_add, z_sub, z_mul, z_div, z_rem, n_ltT, n_ltF, n_leT, n_leF, n_eqT, n_eqF, q_tl_i, q_tl_n, q_ap_n, q_ap_c]
      refine q_X.lv2 _ ?_ (l3 n hn1 (by omega) 65 0 f rfl hf (fun T hT => absurd hT (by omega)) (fun f' hf' => ih (n + 1) f' (by omega) (by omega) hf'))
      exact ⟨rfl, rfl, rfl, rfl, rfl, trivial⟩
  have l1 : ∀ (g j : Nat) (f : Nat → Int32), g + j = 65 → (∀ T, T < j → u_ok t T → f T = nI (u_ways st fin 0 (u_mp T))) → q_X G L d mX9_fill 0 0 Q 10 [(0, .ref i), (1, .ref a), (3, .int (nI len)), (4, .int (nI j))] [] (q_wa M0 i (va_up W 0 f)) 0 0 := by
    intro g
    induction g with
    | zero =>
      intro j f hj hf
      refine q_X.run sX9_fill [47] 20 ?_
      simp (maxSteps := 10000000) (disch := omega) only [↓q_run_s, q_stop_n, q_stop_c, q_lg_c, q_ls_d, q_ld_n, q_ld_c, q_cat_i, q_cat_r, q_cat_n, q_wd_n, q_wd_c, q_bx_1, q_bx_2, q_bx_3, q_bx_4, q_bx_5, q_bx_6, q_bx_7, q_bx_8, q_pop_0, q_pop_s, ↓reduceIte, Nat.reduceEqDiff, reduceCtorEq, eq_self, Bool.false_eq_true, Nat.reduceAdd, Nat.reduceSub, Nat.reduceMul, Nat.reduceLeDiff, Nat.reduceLT, Nat.le_refl, Nat.zero_le, true_and, and_true, false_and, and_false, or_false, false_or, true_or, or_true, not_true_eq_false, not_false_eq_true, if_true, if_false, List.getElem?_cons_zero, List.getElem?_cons_succ, List.set_cons_zero, List.set_cons_succ, List.length_cons, List.length_nil, ↓tX9_fill_0, ↓tX9_fill_1, ↓tX9_fill_3, ↓tX9_fill_6, ↓tX9_fill_7, ↓tX9_fill_8, ↓tX9_fill_10, ↓tX9_fill_12, ↓tX9_fill_14, ↓tX9_fill_17, ↓tX9_fill_18, ↓tX9_fill_21, ↓tX9_fill_23, ↓tX9_fill_24, ↓tX9_fill_26, ↓tX9_fill_29, ↓tX9_fill_32, ↓tX9_fill_33, ↓tX9_fill_36, ↓tX9_fill_37, ↓tX9_fill_38, ↓tX9_fill_41, ↓tX9_fill_44, ↓tX9_fill_45, ↓tX9_fill_47, ↓tX9_fill_49, ↓tX9_fill_50, ↓tX9_fill_53, ↓tX9_fill_54, ↓tX9_fill_56, ↓tX9_fill_58, ↓tX9_fill_60, ↓tX9_fill_63, ↓tX9_fill_64, ↓tX9_fill_66, ↓tX9_fill_67, ↓tX9_fill_69, ↓tX9_fill_71, ↓tX9_fill_72, ↓tX9_fill_75, ↓tX9_fill_77, ↓tX9_fill_78, ↓tX9_fill_79, ↓tX9_fill_81, ↓tX9_fill_83, ↓tX9_fill_86, ↓tX9_fill_88, ↓tX9_fill_89, ↓tX9_fill_90, ↓tX9_fill_93, ↓tX9_fill_94, ↓tX9_fill_96, ↓tX9_fill_99, ↓tX9_fill_102, ↓tX9_fill_103, ↓tX9_fill_106, ↓tX9_fill_108, ↓tX9_fill_110, ↓tX9_fill_111, ↓tX9_fill_113, ↓tX9_fill_114, ↓tX9_fill_116, ↓tX9_fill_117, ↓tX9_fill_120, ↓tX9_fill_123, ↓tX9_fill_126, ↓tX9_fill_129, ↓oAdd, ↓oAl, ↓oCallV, ↓oGet, ↓oGo, ↓oIast, ↓oIf1eq, ↓oIf2ge, ↓oIf2gt, ↓oIl, ↓oInc, ↓oIs, ↓oK, ↓oMin, ↓oMul, ↓oSub, ↓oVret, q_set_s, q_set_n, wa_0, waO_len, q_up_a, au_0, auO_len, waO_0, wa_a0, was_a0, z_clamp, z_ltI, z_leI, z_eqI, z_lt0, z_ge0, z_eq0I, z_gt0I, z_le0I, z_m1lt, z_m1ge, z_m1eq, z_m1eq', z_inT, z_add, z_sub, z_mul, z_div, z_rem, n_ltT, n_ltF, n_leT, n_leF, n_eqT, n_eqF, q_tl_i, q_tl_n, q_ap_n, q_ap_c]
      refine q_X.lv2 _ ?_ (l2 len 1 f rfl (by decide) (fun m T hm hT => ?_))
      · exact ⟨rfl, rfl, rfl, rfl, trivial⟩
      · have e : m = 0 := by omega
        subst e
        rw [Nat.zero_mul, Nat.zero_add]
        refine hf T ?_ hT
        rcases hT with rfl | h
        · omega
        · omega
    | succ g ih =>
      intro j f hj hf
      have hM := wa_au (i := i) (W := va_up W 0 f) hau hdj
      have next : ∀ v, (u_ok t j → v = u_ways st fin 0 (u_mp j)) → q_X G L d mX9_fill 0 0 Q 10 [(4, .int (nI (j + 1))), (0, .ref i), (1, .ref a), (3, .int (nI len))] [] (q_wa M0 i (va_up W 0 (upd f j (nI v)))) 0 0 := by
        intro v hv
        refine q_X.lv2 _ ?_ (ih (j + 1) (upd f j (nI v)) (by omega) ?_)
        · exact ⟨rfl, rfl, rfl, rfl, trivial⟩
        · intro T hT hT2
          rw [q_ud_a]
          by_cases c : T = j
          · subst c
            rw [if_pos rfl, hv hT2]
          · rw [if_neg c]; exact hf T (by omega) hT2
      refine q_X.run sX9_fill [] 20 ?_
      simp (maxSteps := 10000000) (disch := omega) only [↓q_run_s, q_stop_n, q_stop_c, q_lg_c, q_ls_d, q_ld_n, q_ld_c, q_cat_i, q_cat_r, q_cat_n, q_wd_n, q_wd_c, q_bx_1, q_bx_2, q_bx_3, q_bx_4, q_bx_5, q_bx_6, q_bx_7, q_bx_8, q_pop_0, q_pop_s, ↓reduceIte, Nat.reduceEqDiff, reduceCtorEq, eq_self, Bool.false_eq_true, Nat.reduceAdd, Nat.reduceSub, Nat.reduceMul, Nat.reduceLeDiff, Nat.reduceLT, Nat.le_refl, Nat.zero_le, true_and, and_true, false_and, and_false, or_false, false_or, true_or, or_true, not_true_eq_false, not_false_eq_true, if_true, if_false, List.getElem?_cons_zero, List.getElem?_cons_succ, List.set_cons_zero, List.set_cons_succ, List.length_cons, List.length_nil, ↓tX9_fill_0, ↓tX9_fill_1, ↓tX9_fill_3, ↓tX9_fill_6, ↓tX9_fill_7, ↓tX9_fill_8, ↓tX9_fill_10, ↓tX9_fill_12, ↓tX9_fill_14, ↓tX9_fill_17, ↓tX9_fill_18, ↓tX9_fill_21, ↓tX9_fill_23, ↓tX9_fill_24, ↓tX9_fill_26, ↓tX9_fill_29, ↓tX9_fill_32, ↓tX9_fill_33, ↓tX9_fill_36, ↓tX9_fill_37, ↓tX9_fill_38, ↓tX9_fill_41, ↓tX9_fill_44, ↓tX9_fill_45, ↓tX9_fill_47, ↓tX9_fill_49, ↓tX9_fill_50, ↓tX9_fill_53, ↓tX9_fill_54, ↓tX9_fill_56, ↓tX9_fill_58, ↓tX9_fill_60, ↓tX9_fill_63, ↓tX9_fill_64, ↓tX9_fill_66, ↓tX9_fill_67, ↓tX9_fill_69, ↓tX9_fill_71, ↓tX9_fill_72, ↓tX9_fill_75, ↓tX9_fill_77, ↓tX9_fill_78, ↓tX9_fill_79, ↓tX9_fill_81, ↓tX9_fill_83, ↓tX9_fill_86, ↓tX9_fill_88, ↓tX9_fill_89, ↓tX9_fill_90, ↓tX9_fill_93, ↓tX9_fill_94, ↓tX9_fill_96, ↓tX9_fill_99, ↓tX9_fill_102, ↓tX9_fill_103, ↓tX9_fill_106, ↓tX9_fill_108, ↓tX9_fill_110, ↓tX9_fill_111, ↓tX9_fill_113, ↓tX9_fill_114, ↓tX9_fill_116, ↓tX9_fill_117, ↓tX9_fill_120, ↓tX9_fill_123, ↓tX9_fill_126, ↓tX9_fill_129, ↓oAdd, ↓oAl, ↓oCallV, ↓oGet, ↓oGo, ↓oIast, ↓oIf1eq, ↓oIf2ge, ↓oIf2gt, ↓oIl, ↓oInc, ↓oIs, ↓oK, ↓oMin, ↓oMul, ↓oSub, ↓oVret, q_set_s, q_set_n, wa_0, waO_len, q_up_a, au_0, auO_len, waO_0, wa_a0, was_a0, z_clamp, z_ltI, z_leI, z_eqI, z_lt0, z_ge0, z_eq0I, z_gt0I, z_le0I, z_m1lt, z_m1ge, z_m1eq, z_m1eq', z_inT, z_add, z_sub, z_mul, z_div, z_rem, n_ltT, n_ltF, n_leT, n_leF, n_eqT, n_eqF, q_tl_i, q_tl_n, q_ap_n, q_ap_c, hao]
      refine d0_endsAt (S := j) (E := g_l t 0) (b := g_e t) hM (by omega) h7 hgl h8 (fun h => ?_) (fun h => ?_)
      · refine q_X.run sX9_fill [10] 20 ?_
        simp (maxSteps := 10000000) (disch := omega) only [↓q_run_s, q_stop_n, q_stop_c, q_lg_c, q_ls_d, q_ld_n, q_ld_c, q_cat_i, q_cat_r, q_cat_n, q_wd_n, q_wd_c, q_bx_1, q_bx_2, q_bx_3, q_bx_4, q_bx_5, q_bx_6, q_bx_7, q_bx_8, q_pop_0, q_pop_s, ↓reduceIte, Nat.reduceEqDiff, reduceCtorEq, eq_self, Bool.false_eq_true, Nat.reduceAdd, Nat.reduceSub, Nat.reduceMul, Nat.reduceLeDiff, Nat.reduceLT, Nat.le_refl, Nat.zero_le, true_and, and_true, false_and, and_false, or_false, false_or, true_or, or_true, not_true_eq_false, not_false_eq_true, if_true, if_false, List.getElem?_cons_zero, List.getElem?_cons_succ, List.set_cons_zero, List.set_cons_succ, List.length_cons, List.length_nil, ↓tX9_fill_0, ↓tX9_fill_1, ↓tX9_fill_3, ↓tX9_fill_6, ↓tX9_fill_7, ↓tX9_fill_8, ↓tX9_fill_10, ↓tX9_fill_12, ↓tX9_fill_14, ↓tX9_fill_17, ↓tX9_fill_18, ↓tX9_fill_21, ↓tX9_fill_23, ↓tX9_fill_24, ↓tX9_fill_26, ↓tX9_fill_29, ↓tX9_fill_32, ↓tX9_fill_33, ↓tX9_fill_36, ↓tX9_fill_37, ↓tX9_fill_38, ↓tX9_fill_41, ↓tX9_fill_44, ↓tX9_fill_45, ↓tX9_fill_47, ↓tX9_fill_49, ↓tX9_fill_50, ↓tX9_fill_53, ↓tX9_fill_54, ↓tX9_fill_56, ↓tX9_fill_58, ↓tX9_fill_60, ↓tX9_fill_63, ↓tX9_fill_64, ↓tX9_fill_66, ↓tX9_fill_67, ↓tX9_fill_69, ↓tX9_fill_71, ↓tX9_fill_72, ↓tX9_fill_75, ↓tX9_fill_77, ↓tX9_fill_78, ↓tX9_fill_79, ↓tX9_fill_81, ↓tX9_fill_83, ↓tX9_fill_86, ↓tX9_fill_88, ↓tX9_fill_89, ↓tX9_fill_90, ↓tX9_fill_93, ↓tX9_fill_94, ↓tX9_fill_96, ↓tX9_fill_99, ↓tX9_fill_102, ↓tX9_fill_103, ↓tX9_fill_106, ↓tX9_fill_108, ↓tX9_fill_110, ↓tX9_fill_111, ↓tX9_fill_113, ↓tX9_fill_114, ↓tX9_fill_116, ↓tX9_fill_117, ↓tX9_fill_120, ↓tX9_fill_123, ↓tX9_fill_126, ↓tX9_fill_129, ↓oAdd, ↓oAl, ↓oCallV, ↓oGet, ↓oGo, ↓oIast, ↓oIf1eq, ↓oIf2ge, ↓oIf2gt, ↓oIl, ↓oInc, ↓oIs, ↓oK, ↓oMin, ↓oMul, ↓oSub, ↓oVret, q_set_s, q_set_n, wa_0, waO_len, q_up_a, au_0, auO_len, waO_0, wa_a0, was_a0, z_clamp, z_ltI, z_leI, z_eqI, z_lt0, z_ge0, z_eq0I, z_gt0I, z_le0I, z_m1lt, z_m1ge, z_m1eq, z_m1eq', z_inT, z_add, z_sub, z_mul, z_div, z_rem, n_ltT, n_ltF, n_leT, n_leF, n_eqT, n_eqF, q_tl_i, q_tl_n, q_ap_n, q_ap_c, q_upup]
        refine next 1 fun hok => ?_
        show 1 = if fin (u_mp j) = true then 1 else 0
        rw [if_pos (by rw [hfin]; exact (u_fin_mp h12 hok).mpr h)]
      · refine q_X.run sX9_fill [10] 20 ?_
        simp (maxSteps := 10000000) (disch := omega) only [↓q_run_s, q_stop_n, q_stop_c, q_lg_c, q_ls_d, q_ld_n, q_ld_c, q_cat_i, q_cat_r, q_cat_n, q_wd_n, q_wd_c, q_bx_1, q_bx_2, q_bx_3, q_bx_4, q_bx_5, q_bx_6, q_bx_7, q_bx_8, q_pop_0, q_pop_s, ↓reduceIte, Nat.reduceEqDiff, reduceCtorEq, eq_self, Bool.false_eq_true, Nat.reduceAdd, Nat.reduceSub, Nat.reduceMul, Nat.reduceLeDiff, Nat.reduceLT, Nat.le_refl, Nat.zero_le, true_and, and_true, false_and, and_false, or_false, false_or, true_or, or_true, not_true_eq_false, not_false_eq_true, if_true, if_false, List.getElem?_cons_zero, List.getElem?_cons_succ, List.set_cons_zero, List.set_cons_succ, List.length_cons, List.length_nil, ↓tX9_fill_0, ↓tX9_fill_1, ↓tX9_fill_3, ↓tX9_fill_6, ↓tX9_fill_7, ↓tX9_fill_8, ↓tX9_fill_10, ↓tX9_fill_12, ↓tX9_fill_14, ↓tX9_fill_17, ↓tX9_fill_18, ↓tX9_fill_21, ↓tX9_fill_23, ↓tX9_fill_24, ↓tX9_fill_26, ↓tX9_fill_29, ↓tX9_fill_32, ↓tX9_fill_33, ↓tX9_fill_36, ↓tX9_fill_37, ↓tX9_fill_38, ↓tX9_fill_41, ↓tX9_fill_44, ↓tX9_fill_45, ↓tX9_fill_47, ↓tX9_fill_49, ↓tX9_fill_50, ↓tX9_fill_53, ↓tX9_fill_54, ↓tX9_fill_56, ↓tX9_fill_58, ↓tX9_fill_60, ↓tX9_fill_63, ↓tX9_fill_64, ↓tX9_fill_66, ↓tX9_fill_67, ↓tX9_fill_69, ↓tX9_fill_71, ↓tX9_fill_72, ↓tX9_fill_75, ↓tX9_fill_77, ↓tX9_fill_78, ↓tX9_fill_79, ↓tX9_fill_81, ↓tX9_fill_83, ↓tX9_fill_86, ↓tX9_fill_88, ↓tX9_fill_89, ↓tX9_fill_90, ↓tX9_fill_93, ↓tX9_fill_94, ↓tX9_fill_96, ↓tX9_fill_99, ↓tX9_fill_102, ↓tX9_fill_103, ↓tX9_fill_106, ↓tX9_fill_108, ↓tX9_fill_110, ↓tX9_fill_111, ↓tX9_fill_113, ↓tX9_fill_114, ↓tX9_fill_116, ↓tX9_fill_117, ↓tX9_fill_120, ↓tX9_fill_123, ↓tX9_fill_126, ↓tX9_fill_129, ↓oAdd, ↓oAl, ↓oCallV, ↓oGet, ↓oGo, ↓oIast, ↓oIf1eq, ↓oIf2ge, ↓oIf2gt, ↓oIl, ↓oInc, ↓oIs, ↓oK, ↓oMin, ↓oMul, ↓oSub, ↓oVret, q_set_s, q_set_n, wa_0, waO_len, q_up_a, au_0, auO_len, waO_0, wa_a0, was_a0, z_clamp, z_ltI, z_leI, z_eqI, z_lt0, z_ge0, z_eq0I, z_gt0I, z_le0I, z_m1lt, z_m1ge, z_m1eq, z_m1eq', z_inT, z_add, z_sub, z_mul, z_div, z_rem, n_ltT, n_ltF, n_leT, n_leF, n_eqT, n_eqF, q_tl_i, q_tl_n, q_ap_n, q_ap_c, q_upup]
        refine next 0 fun hok => ?_
        show 0 = if fin (u_mp j) = true then 1 else 0
        rw [if_neg (by rw [hfin]; exact fun g' => h ((u_fin_mp h12 hok).mp g'))]
  refine q_Call.of [(0, .ref i), (1, .ref a), (2, .int (nI len))] rfl ?_
  have hmin : (if len ≤ 12 then len else 12) = len := if_pos hlen
  refine q_X.run sX9_fill [10] 20 ?_
  simp (maxSteps := 10000000) (disch := omega) only [↓q_run_s, q_stop_n, q_stop_c, q_lg_c, q_ls_d, q_ld_n, q_ld_c, q_cat_i, q_cat_r, q_cat_n, q_wd_n, q_wd_c, q_bx_1, q_bx_2, q_bx_3, q_bx_4, q_bx_5, q_bx_6, q_bx_7, q_bx_8, q_pop_0, q_pop_s, ↓reduceIte, Nat.reduceEqDiff, reduceCtorEq, eq_self, Bool.false_eq_true, Nat.reduceAdd, Nat.reduceSub, Nat.reduceMul, Nat.reduceLeDiff, Nat.reduceLT, Nat.le_refl, Nat.zero_le, true_and, and_true, false_and, and_false, or_false, false_or, true_or, or_true, not_true_eq_false, not_false_eq_true, if_true, if_false, List.getElem?_cons_zero, List.getElem?_cons_succ, List.set_cons_zero, List.set_cons_succ, List.length_cons, List.length_nil, ↓tX9_fill_0, ↓tX9_fill_1, ↓tX9_fill_3, ↓tX9_fill_6, ↓tX9_fill_7, ↓tX9_fill_8, ↓tX9_fill_10, ↓tX9_fill_12, ↓tX9_fill_14, ↓tX9_fill_17, ↓tX9_fill_18, ↓tX9_fill_21, ↓tX9_fill_23, ↓tX9_fill_24, ↓tX9_fill_26, ↓tX9_fill_29, ↓tX9_fill_32, ↓tX9_fill_33, ↓tX9_fill_36, ↓tX9_fill_37, ↓tX9_fill_38, ↓tX9_fill_41, ↓tX9_fill_44, ↓tX9_fill_45, ↓tX9_fill_47, ↓tX9_fill_49, ↓tX9_fill_50, ↓tX9_fill_53, ↓tX9_fill_54, ↓tX9_fill_56, ↓tX9_fill_58, ↓tX9_fill_60, ↓tX9_fill_63, ↓tX9_fill_64, ↓tX9_fill_66, ↓tX9_fill_67, ↓tX9_fill_69, ↓tX9_fill_71, ↓tX9_fill_72, ↓tX9_fill_75, ↓tX9_fill_77, ↓tX9_fill_78, ↓tX9_fill_79, ↓tX9_fill_81, ↓tX9_fill_83, ↓tX9_fill_86, ↓tX9_fill_88, ↓tX9_fill_89, ↓tX9_fill_90, ↓tX9_fill_93, ↓tX9_fill_94, ↓tX9_fill_96, ↓tX9_fill_99, ↓tX9_fill_102, ↓tX9_fill_103, ↓tX9_fill_106, ↓tX9_fill_108, ↓tX9_fill_110, ↓tX9_fill_111, ↓tX9_fill_113, ↓tX9_fill_114, ↓tX9_fill_116, ↓tX9_fill_117, ↓tX9_fill_120, ↓tX9_fill_123, ↓tX9_fill_126, ↓tX9_fill_129, ↓oAdd, ↓oAl, ↓oCallV, ↓oGet, ↓oGo, ↓oIast, ↓oIf1eq, ↓oIf2ge, ↓oIf2gt, ↓oIl, ↓oInc, ↓oIs, ↓oK, ↓oMin, ↓oMul, ↓oSub, ↓oVret, q_set_s, q_set_n, wa_0, waO_len, q_up_a, au_0, auO_len, waO_0, wa_a0, was_a0, z_clamp, z_ltI, z_leI, z_eqI, z_lt0, z_ge0, z_eq0I, z_gt0I, z_le0I, z_m1lt, z_m1ge, z_m1eq, z_m1eq', z_inT, z_add, z_sub, z_mul, z_div, z_rem, n_ltT, n_ltF, n_leT, n_leF, n_eqT, n_eqF, q_tl_i, q_tl_n, q_ap_n, q_ap_c, hmin]
  have h := l1 65 0 (W 0) rfl (fun T hT => absurd hT (by omega))
  rw [q_upid] at h
  refine q_X.lv2 _ ?_ h
  exact ⟨rfl, rfl, rfl, rfl, trivial⟩
end
