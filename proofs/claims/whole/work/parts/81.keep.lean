/-! the class's Meanings: the table of slots -/
/-- how a made meaning is hashed -/
def z_h (f : Nat → Int32) : Nat → Int32
  | 0 => nI 0
  | k + 1 => (z_h f k * nI 625341585 + f k) ^^^ ((z_h f k * nI 625341585 + f k).toUInt32 >>> ((nI 15).toUInt32 &&& Int32.toUInt32 31)).toInt32
theorem z_h_eq {f g : Nat → Int32} : ∀ k, (∀ j, j < k → f j = g j) → z_h f k = z_h g k
  | 0, _ => rfl
  | k + 1, h => by
    show (z_h f k * nI 625341585 + f k) ^^^ ((z_h f k * nI 625341585 + f k).toUInt32 >>> ((nI 15).toUInt32 &&& Int32.toUInt32 31)).toInt32 = (z_h g k * nI 625341585 + g k) ^^^ ((z_h g k * nI 625341585 + g k).toUInt32 >>> ((nI 15).toUInt32 &&& Int32.toUInt32 31)).toInt32
    rw [z_h_eq k fun j hj => h j (by omega), h k (by omega)]
def z_pos (h : Int32) (i : Nat) : Nat := (h.toBitVec.toNat + i) % 4096
theorem z_pos_lt (h : Int32) (i : Nat) : z_pos h i < 4096 := Nat.mod_lt _ (by decide)
theorem z_slot {h : Int32} {i : Nat} : (h + nI i) &&& nI 4095 = nI (z_pos h i) := by
  have e : h = nI h.toBitVec.toNat := by
    apply Int32.toBitVec_inj.mp
    simp [nI]
  unfold z_pos
  generalize h.toBitVec.toNat = H at e ⊢
  rw [e, z_add, z_and, show (4095 : Nat) = 2 ^ 12 - 1 from rfl, Nat.and_two_pow_sub_one_eq_mod]
/-- words of a kept meaning -/
def z_kw (K : Nat → Int32) (m : Nat) : Nat → Int32 := fun j => K (m * 5 + j)
def z_same (f g : Nat → Int32) : Prop := ∀ j, j < 5 → f j = g j
/-- the table: n meanings, each once, each found from its hash on -/
def z_HT (K SL : Nat → Int32) (n : Nat) : Prop := n ≤ 1284 ∧ (∀ a, a < 4096 → SL a = nI 0 ∨ ∃ m, m < n ∧ SL a = nI (m + 1)) ∧ (∀ a b m, a < 4096 → b < 4096 → m < n → SL a = nI (m + 1) → SL b = nI (m + 1) → a = b) ∧ (∀ m, m < n → ∃ i, i < 4096 ∧ SL (z_pos (z_h (z_kw K m) 5) i) = nI (m + 1) ∧ ∀ i', i' < i → SL (z_pos (z_h (z_kw K m) 5) i') ≠ nI 0) ∧ ∀ m m', m < n → m' < n → z_same (z_kw K m) (z_kw K m') → m = m'
theorem z_pos_inj {h : Int32} {a b : Nat} (ha : a < 4096) (hb : b < 4096) (e : z_pos h a = z_pos h b) : a = b := by
  unfold z_pos at e
  omega
/-- a free slot is met -/
theorem z_free {K SL : Nat → Int32} {n : Nat} (h : z_HT K SL n) (hn : n < 1284 ∨ n = 1284) (hs : Int32) : ∃ i, i < 4096 ∧ SL (z_pos hs i) = nI 0 ∧ ∀ i', i' < i → SL (z_pos hs i') ≠ nI 0 := by
  have ex : ∃ i, i < 4096 ∧ SL (z_pos hs i) = nI 0 := by
    apply Classical.byContradiction
    intro hno
    have all : ∀ i, i < 4096 → ∃ m, m < n ∧ SL (z_pos hs i) = nI (m + 1) := fun i hi => (h.2.1 _ (z_pos_lt hs i)).elim (fun g => absurd ⟨i, hi, g⟩ hno) id
    have hf : ∃ f : Nat → Nat, ∀ i, i < 4096 → f i < n ∧ SL (z_pos hs i) = nI (f i + 1) := by
      refine ⟨fun i => if hi : i < 4096 then (all i hi).choose else 0, fun i hi => ?_⟩
      show (if hi : i < 4096 then (all i hi).choose else 0) < n ∧ SL (z_pos hs i) = nI ((if hi : i < 4096 then (all i hi).choose else 0) + 1)
      rw [dif_pos hi]
      exact (all i hi).choose_spec
    obtain ⟨f, hf⟩ := hf
    have := b_pig n 4096 f (fun j hj => (hf j hj).1) (fun j j' hj hj' e => by
      have e1 := (hf j hj).2
      have e2 := (hf j' hj').2
      rw [← e] at e2
      exact z_pos_inj hj hj' (h.2.2.1 _ _ (f j) (z_pos_lt hs j) (z_pos_lt hs j') (hf j hj).1 e1 e2))
    have := h.1
    omega
  obtain ⟨i0, h1, h2⟩ := ex
  induction i0 using Nat.strongRecOn with
  | _ i0 ih =>
    by_cases g : ∃ i', i' < i0 ∧ SL (z_pos hs i') = nI 0
    · obtain ⟨i', g1, g2⟩ := g
      exact ih i' g1 (by omega) g2
    · exact ⟨i0, h1, h2, fun i' hi' e => g ⟨i', hi', e⟩⟩
section
variable {G : qC} {L : Launch} {d : Nat} {Q : Option Value → qM → Prop} {M0 : qM} {i : Nat} {s : Nat → Int32} {A : Nat → Nat → Int32}
/-- it is kept: what stays, what is new -/
def z_Kp (s : Nat → Int32) (A : Nat → Nat → Int32) (n p : Nat) (s' : Nat → Int32) (A' : Nat → Nat → Int32) (n' : Nat) : Prop := s' 5 = nI n' ∧ n ≤ n' ∧ p < n' ∧ z_HT (A' 0) (A' 1) n' ∧ (∀ m, m < n → z_same (z_kw (A' 0) m) (z_kw (A 0) m)) ∧ z_same (z_kw (A' 0) p) (A 2)
set_option maxRecDepth 100000 in
set_option maxHeartbeats 8000000 in
theorem c3_keep {n : Nat} (h5 : s 5 = nI n) (hn : (∀ m, m < n → ¬ z_same (z_kw (A 0) m) (A 2)) → n < 1284) (hH : z_HT (A 0) (A 1) n) (hd : 2 ≤ d) (hQ : ∀ s' A' n' p, z_Kp s A n p s' A' n' → (n' = n ∨ n' = n + 1 ∧ p = n) → Q (some (.int (nI p))) (q_me M0 i s' A')) : q_Call G L d mX3_keep 0 0 [.ref i] (q_me M0 i s A) Q := by
  obtain ⟨hs, hhs⟩ : ∃ hs, hs = z_h (A 2) 5 := ⟨_, rfl⟩
  have hn1 := hH.1
  have walk : ∀ (i0 : Nat), i0 < 4096 → (∀ i', i' < i0 → ∃ m, m < n ∧ A 1 (z_pos hs i') = nI (m + 1) ∧ ¬ z_same (z_kw (A 0) m) (A 2)) → q_X G L d mX3_keep 0 0 Q 36 [(0, .ref i), (1, .int hs), (2, .int (nI i0))] [] (q_me M0 i s A) 0 0 → ∀ (g k : Nat), g + k = i0 → q_X G L d mX3_keep 0 0 Q 36 [(0, .ref i), (1, .int hs), (2, .int (nI k))] [] (q_me M0 i s A) 0 0 := by
    intro i0 hi0 hw hend g
    induction g with
    | zero =>
      intro k hk
      have e : k = i0 := by omega
      subst e
      exact hend
    | succ g ih =>
      intro k hk
      obtain ⟨m, m1, m2, m3⟩ := hw k (by omega)
      have h' := ih (k + 1) (by omega)
      have hp := z_pos_lt hs k
      have ez := z_slot (h := hs) (i := k)
      generalize z_pos hs k = P at *
      refine q_X.run sX3_keep [] 40 ?_
      simp (maxSteps := 10000000) (disch := omega) only [↓q_run_s, q_stop_n, q_stop_c, q_lg_c, q_ls_d, q_ld_n, q_ld_c, q_cat_i, q_cat_r, q_cat_n, q_wd_n, q_wd_c, q_bx_1, q_bx_2, q_bx_3, q_bx_4, q_bx_5, q_bx_6, q_bx_7, q_bx_8, q_pop_0, q_pop_s, ↓reduceIte, Nat.reduceEqDiff, reduceCtorEq, eq_self, Bool.false_eq_true, Nat.reduceAdd, Nat.reduceSub, Nat.reduceMul, Nat.reduceLeDiff, Nat.reduceLT, Nat.le_refl, Nat.zero_le, true_and, and_true, false_and, and_false, or_false, false_or, true_or, or_true, not_true_eq_false, not_false_eq_true, if_true, if_false, List.getElem?_cons_zero, List.getElem?_cons_succ, List.set_cons_zero, List.set_cons_succ, List.length_cons, List.length_nil, ↓tX3_keep_0, ↓tX3_keep_1, ↓tX3_keep_2, ↓tX3_keep_3, ↓tX3_keep_4, ↓tX3_keep_5, ↓tX3_keep_6, ↓tX3_keep_9, ↓tX3_keep_10, ↓tX3_keep_12, ↓tX3_keep_13, ↓tX3_keep_14, ↓tX3_keep_17, ↓tX3_keep_18, ↓tX3_keep_19, ↓tX3_keep_20, ↓tX3_keep_21, ↓tX3_keep_22, ↓tX3_keep_23, ↓tX3_keep_25, ↓tX3_keep_26, ↓tX3_keep_27, ↓tX3_keep_28, ↓tX3_keep_31, ↓tX3_keep_34, ↓tX3_keep_35, ↓tX3_keep_36, ↓tX3_keep_37, ↓tX3_keep_40, ↓tX3_keep_43, ↓tX3_keep_44, ↓tX3_keep_45, ↓tX3_keep_46, ↓tX3_keep_49, ↓tX3_keep_50, ↓tX3_keep_51, ↓tX3_keep_52, ↓tX3_keep_55, ↓tX3_keep_56, ↓tX3_keep_57, ↓tX3_keep_60, ↓tX3_keep_61, ↓tX3_keep_64, ↓tX3_keep_65, ↓tX3_keep_66, ↓tX3_keep_69, ↓tX3_keep_70, ↓tX3_keep_71, ↓tX3_keep_72, ↓tX3_keep_73, ↓tX3_keep_76, ↓tX3_keep_77, ↓tX3_keep_78, ↓tX3_keep_79, ↓tX3_keep_82, ↓tX3_keep_83, ↓tX3_keep_84, ↓tX3_keep_85, ↓tX3_keep_86, ↓tX3_keep_89, ↓tX3_keep_92, ↓tX3_keep_93, ↓tX3_keep_96, ↓tX3_keep_97, ↓tX3_keep_98, ↓tX3_keep_99, ↓tX3_keep_100, ↓tX3_keep_101, ↓tX3_keep_104, ↓tX3_keep_107, ↓tX3_keep_108, ↓oAdd, ↓oAl, ↓oAnd, ↓oCallV, ↓oGet, ↓oGo, ↓oIald, ↓oIast, ↓oIf1eq, ↓oIf1ne, ↓oIf2ge, ↓oIl, ↓oInc, ↓oIret, ↓oIs, ↓oK, ↓oMul, ↓oSub, ↓oUshr, ↓oXor, q_set_s, q_set_n, me_0, meO_len, q_up_a, meO_2, me_a2, mes_a2, meO_1, me_a1, mes_a1, meO_5, z_clamp, z_ltI, z_leI, z_eqI, z_lt0, z_ge0, z_eq0I, z_gt0I, z_le0I, z_m1lt, z_m1ge, z_m1eq, z_m1eq', z_inT, z_add, z_sub, z_mul, z_div, z_rem, n_ltT, n_ltF, n_leT, n_leF, n_eqT, n_eqF, z_11, q_tl_i, q_tl_n, q_ap_n, q_ap_c, ez, m2, Nat.add_sub_cancel]
      refine c3_isMade (by omega) (by omega) (fun c => absurd c m3) (fun c => ?_)
      refine q_X.run sX3_keep [36] 40 ?_
      simp (maxSteps := 10000000) (disch := omega) only [↓q_run_s, q_stop_n, q_stop_c, q_lg_c, q_ls_d, q_ld_n, q_ld_c, q_cat_i, q_cat_r, q_cat_n, q_wd_n, q_wd_c, q_bx_1, q_bx_2, q_bx_3, q_bx_4, q_bx_5, q_bx_6, q_bx_7, q_bx_8, q_pop_0, q_pop_s, ↓reduceIte, Nat.reduceEqDiff, reduceCtorEq, eq_self, Bool.false_eq_true, Nat.reduceAdd, Nat.reduceSub, Nat.reduceMul, Nat.reduceLeDiff, Nat.reduceLT, Nat.le_refl, Nat.zero_le, true_and, and_true, false_and, and_false, or_false, false_or, true_or, or_true, not_true_eq_false, not_false_eq_true, if_true, if_false, List.getElem?_cons_zero, List.getElem?_cons_succ, List.set_cons_zero, List.set_cons_succ, List.length_cons, List.length_nil, ↓tX3_keep_0, ↓tX3_keep_1, ↓tX3_keep_2, ↓tX3_keep_3, ↓tX3_keep_4, ↓tX3_keep_5, ↓tX3_keep_6, ↓tX3_keep_9, ↓tX3_keep_10, ↓tX3_keep_12, ↓tX3_keep_13, ↓tX3_keep_14, ↓tX3_keep_17, ↓tX3_keep_18, ↓tX3_keep_19, ↓tX3_keep_20, ↓tX3_keep_21, ↓tX3_keep_22, ↓tX3_keep_23, ↓tX3_keep_25, ↓tX3_keep_26, ↓tX3_keep_27, ↓tX3_keep_28, ↓tX3_keep_31, ↓tX3_keep_34, ↓tX3_keep_35, ↓tX3_keep_36, ↓tX3_keep_37, ↓tX3_keep_40, ↓tX3_keep_43, ↓tX3_keep_44, ↓tX3_keep_45, ↓tX3_keep_46, ↓tX3_keep_49, ↓tX3_keep_50, ↓tX3_keep_51, ↓tX3_keep_52, ↓tX3_keep_55, ↓tX3_keep_56, ↓tX3_keep_57, ↓tX3_keep_60, ↓tX3_keep_61, ↓tX3_keep_64, ↓tX3_keep_65, ↓tX3_keep_66, ↓tX3_keep_69, ↓tX3_keep_70, ↓tX3_keep_71, ↓tX3_keep_72, ↓tX3_keep_73, ↓tX3_keep_76, ↓tX3_keep_77, ↓tX3_keep_78, ↓tX3_keep_79, ↓tX3_keep_82, ↓tX3_keep_83, ↓tX3_keep_84, ↓tX3_keep_85, ↓tX3_keep_86, ↓tX3_keep_89, ↓tX3_keep_92, ↓tX3_keep_93, ↓tX3_keep_96, ↓tX3_keep_97, ↓tX3_keep_98, ↓tX3_keep_99, ↓tX3_keep_100, ↓tX3_keep_101, ↓tX3_keep_104, ↓tX3_keep_107, ↓tX3_keep_108, ↓oAdd, ↓oAl, ↓oAnd, ↓oCallV, ↓oGet, ↓oGo, ↓oIald, ↓oIast, ↓oIf1eq, ↓oIf1ne, ↓oIf2ge, ↓oIl, ↓oInc, ↓oIret, ↓oIs, ↓oK, ↓oMul, ↓oSub, ↓oUshr, ↓oXor, q_set_s, q_set_n, me_0, meO_len, q_up_a, meO_2, me_a2, mes_a2, meO_1, me_a1, mes_a1, meO_5, z_clamp, z_ltI, z_leI, z_eqI, z_lt0, z_ge0, z_eq0I, z_gt0I, z_le0I, z_m1lt, z_m1ge, z_m1eq, z_m1eq', z_inT, z_add, z_sub, z_mul, z_div, z_rem, n_ltT, n_ltF, n_leT, n_leF, n_eqT, n_eqF, z_11, q_tl_i, q_tl_n, q_ap_n, q_ap_c]
      refine q_X.lv2 _ ?_ h'
      exact ⟨rfl, rfl, rfl, trivial⟩
  have search : q_X G L d mX3_keep 0 0 Q 36 [(0, .ref i), (1, .int hs), (2, .int (nI 0))] [] (q_me M0 i s A) 0 0 := by
    by_cases ex : ∃ m, m < n ∧ z_same (z_kw (A 0) m) (A 2)
    · obtain ⟨m, m1, m2⟩ := ex
      obtain ⟨i0, i1, i2, i3⟩ := hH.2.2.2.1 m m1
      rw [z_h_eq 5 m2, ← hhs] at i2 i3
      refine walk i0 i1 (fun i' hi' => ?_) ?_ i0 0 (by omega)
      · rcases hH.2.1 _ (z_pos_lt hs i') with g | ⟨m', g1, g2⟩
        · exact absurd g (i3 i' hi')
        · refine ⟨m', g1, g2, fun hsame => ?_⟩
          have em : m' = m := hH.2.2.2.2 m' m g1 m1 (fun j hj => (hsame j hj).trans (m2 j hj).symm)
          subst em
          have := z_pos_inj (by omega) i1 (hH.2.2.1 _ _ m' (z_pos_lt hs i') (z_pos_lt hs i0) g1 g2 i2)
          omega
      · have h' := hQ s A n m ⟨h5, Nat.le_refl _, m1, hH, (fun m' _ j _ => rfl), m2⟩ (Or.inl rfl)
        have hp := z_pos_lt hs i0
        have ez := z_slot (h := hs) (i := i0)
        generalize z_pos hs i0 = P at *
        refine q_X.run sX3_keep [] 40 ?_
        simp (maxSteps := 10000000) (disch := omega) only [↓q_run_s, q_stop_n, q_stop_c, q_lg_c, q_ls_d, q_ld_n, q_ld_c, q_cat_i, q_cat_r, q_cat_n, q_wd_n, q_wd_c, q_bx_1, q_bx_2, q_bx_3, q_bx_4, q_bx_5, q_bx_6, q_bx_7, q_bx_8, q_pop_0, q_pop_s, ↓reduceIte, Nat.reduceEqDiff, reduceCtorEq, eq_self, Bool.false_eq_true, Nat.reduceAdd, Nat.reduceSub, Nat.reduceMul, Nat.reduceLeDiff, Nat.reduceLT, Nat.le_refl, Nat.zero_le, true_and, and_true, false_and, and_false, or_false, false_or, true_or, or_true, not_true_eq_false, not_false_eq_true, if_true, if_false, List.getElem?_cons_zero, List.getElem?_cons_succ, List.set_cons_zero, List.set_cons_succ, List.length_cons, List.length_nil, ↓tX3_keep_0, ↓tX3_keep_1, ↓tX3_keep_2, ↓tX3_keep_3, ↓tX3_keep_4, ↓tX3_keep_5, ↓tX3_keep_6, ↓tX3_keep_9, ↓tX3_keep_10, ↓tX3_keep_12, ↓tX3_keep_13, ↓tX3_keep_14, ↓tX3_keep_17, ↓tX3_keep_18, ↓tX3_keep_19, ↓tX3_keep_20, ↓tX3_keep_21, ↓tX3_keep_22, ↓tX3_keep_23, ↓tX3_keep_25, ↓tX3_keep_26, ↓tX3_keep_27, ↓tX3_keep_28, ↓tX3_keep_31, ↓tX3_keep_34, ↓tX3_keep_35, ↓tX3_keep_36, ↓tX3_keep_37, ↓tX3_keep_40, ↓tX3_keep_43, ↓tX3_keep_44, ↓tX3_keep_45, ↓tX3_keep_46, ↓tX3_keep_49, ↓tX3_keep_50, ↓tX3_keep_51, ↓tX3_keep_52, ↓tX3_keep_55, ↓tX3_keep_56, ↓tX3_keep_57, ↓tX3_keep_60, ↓tX3_keep_61, ↓tX3_keep_64, ↓tX3_keep_65, ↓tX3_keep_66, ↓tX3_keep_69, ↓tX3_keep_70, ↓tX3_keep_71, ↓tX3_keep_72, ↓tX3_keep_73, ↓tX3_keep_76, ↓tX3_keep_77, ↓tX3_keep_78, ↓tX3_keep_79, ↓tX3_keep_82, ↓tX3_keep_83, ↓tX3_keep_84, ↓tX3_keep_85, ↓tX3_keep_86, ↓tX3_keep_89, ↓tX3_keep_92, ↓tX3_keep_93, ↓tX3_keep_96, ↓tX3_keep_97, ↓tX3_keep_98, ↓tX3_keep_99, ↓tX3_keep_100, ↓tX3_keep_101, ↓tX3_keep_104, ↓tX3_keep_107, ↓tX3_keep_108, ↓oAdd, ↓oAl, ↓oAnd, ↓oCallV, ↓oGet, ↓oGo, ↓oIald, ↓oIast, ↓oIf1eq, ↓oIf1ne, ↓oIf2ge, ↓oIl, ↓oInc, ↓oIret, ↓oIs, ↓oK, ↓oMul, ↓oSub, ↓oUshr, ↓oXor, q_set_s, q_set_n, me_0, meO_len, q_up_a, meO_2, me_a2, mes_a2, meO_1, me_a1, mes_a1, meO_5, z_clamp, z_ltI, z_leI, z_eqI, z_lt0, z_ge0, z_eq0I, z_gt0I, z_le0I, z_m1lt, z_m1ge, z_m1eq, z_m1eq', z_inT, z_add, z_sub, z_mul, z_div, z_rem, n_ltT, n_ltF, n_leT, n_leF, n_eqT, n_eqF, z_11, q_tl_i, q_tl_n, q_ap_n, q_ap_c, ez, i2, Nat.add_sub_cancel]
        refine c3_isMade (by omega) (by omega) (fun c => ?_) (fun c => absurd m2 c)
        refine q_X.run sX3_keep [] 40 ?_
        simp (maxSteps := 10000000) (disch := omega) only [↓q_run_s, q_stop_n, q_stop_c, q_lg_c, q_ls_d, q_ld_n, q_ld_c, q_cat_i, q_cat_r, q_cat_n, q_wd_n, q_wd_c, q_bx_1, q_bx_2, q_bx_3, q_bx_4, q_bx_5, q_bx_6, q_bx_7, q_bx_8, q_pop_0, q_pop_s, ↓reduceIte, Nat.reduceEqDiff, reduceCtorEq, eq_self, Bool.false_eq_true, Nat.reduceAdd, Nat.reduceSub, Nat.reduceMul, Nat.reduceLeDiff, Nat.reduceLT, Nat.le_refl, Nat.zero_le, true_and, and_true, false_and, and_false, or_false, false_or, true_or, or_true, not_true_eq_false, not_false_eq_true, if_true, if_false, List.getElem?_cons_zero, List.getElem?_cons_succ, List.set_cons_zero, List.set_cons_succ, List.length_cons, List.length_nil, ↓tX3_keep_0, ↓tX3_keep_1, ↓tX3_keep_2, ↓tX3_keep_3, ↓tX3_keep_4, ↓tX3_keep_5, ↓tX3_keep_6, ↓tX3_keep_9, ↓tX3_keep_10, ↓tX3_keep_12, ↓tX3_keep_13, ↓tX3_keep_14, ↓tX3_keep_17, ↓tX3_keep_18, ↓tX3_keep_19, ↓tX3_keep_20, ↓tX3_keep_21, ↓tX3_keep_22, ↓tX3_keep_23, ↓tX3_keep_25, ↓tX3_keep_26, ↓tX3_keep_27, ↓tX3_keep_28, ↓tX3_keep_31, ↓tX3_keep_34, ↓tX3_keep_35, ↓tX3_keep_36, ↓tX3_keep_37, ↓tX3_keep_40, ↓tX3_keep_43, ↓tX3_keep_44, ↓tX3_keep_45, ↓tX3_keep_46, ↓tX3_keep_49, ↓tX3_keep_50, ↓tX3_keep_51, ↓tX3_keep_52, ↓tX3_keep_55, ↓tX3_keep_56, ↓tX3_keep_57, ↓tX3_keep_60, ↓tX3_keep_61, ↓tX3_keep_64, ↓tX3_keep_65, ↓tX3_keep_66, ↓tX3_keep_69, ↓tX3_keep_70, ↓tX3_keep_71, ↓tX3_keep_72, ↓tX3_keep_73, ↓tX3_keep_76, ↓tX3_keep_77, ↓tX3_keep_78, ↓tX3_keep_79, ↓tX3_keep_82, ↓tX3_keep_83, ↓tX3_keep_84, ↓tX3_keep_85, ↓tX3_keep_86, ↓tX3_keep_89, ↓tX3_keep_92, ↓tX3_keep_93, ↓tX3_keep_96, ↓tX3_keep_97, ↓tX3_keep_98, ↓tX3_keep_99, ↓tX3_keep_100, ↓tX3_keep_101, ↓tX3_keep_104, ↓tX3_keep_107, ↓tX3_keep_108, ↓oAdd, ↓oAl, ↓oAnd, ↓oCallV, ↓oGet, ↓oGo, ↓oIald, ↓oIast, ↓oIf1eq, ↓oIf1ne, ↓oIf2ge, ↓oIl, ↓oInc, ↓oIret, ↓oIs, ↓oK, ↓oMul, ↓oSub, ↓oUshr, ↓oXor, q_set_s, q_set_n, me_0, meO_len, q_up_a, meO_2, me_a2, mes_a2, meO_1, me_a1, mes_a1, meO_5, z_clamp, z_ltI, z_leI, z_eqI, z_lt0, z_ge0, z_eq0I, z_gt0I, z_le0I, z_m1lt, z_m1ge, z_m1eq, z_m1eq', z_inT, z_add, z_sub, z_mul, z_div, z_rem, n_ltT, n_ltF, n_leT, n_leF, n_eqT, n_eqF, z_11, q_tl_i, q_tl_n, q_ap_n, q_ap_c, i2, Nat.add_sub_cancel]
        exact h'
    · have hn := hn fun m h1 h2 => ex ⟨m, h1, h2⟩
      obtain ⟨i0, i1, i2, i3⟩ := z_free hH (Or.inl hn) hs
      refine walk i0 i1 (fun i' hi' => ?_) ?_ i0 0 (by omega)
      · rcases hH.2.1 _ (z_pos_lt hs i') with g | ⟨m', g1, g2⟩
        · exact absurd g (i3 i' hi')
        · exact ⟨m', g1, g2, fun hsame => ex ⟨m', g1, hsame⟩⟩
      · have hp := z_pos_lt hs i0
        have ez := z_slot (h := hs) (i := i0)
        have hKeep : ∀ g : Nat → Int32, (∀ j, j < n * 5 → g j = A 0 j) → (∀ j, j < 5 → g (n * 5 + j) = A 2 j) → z_HT g (upd (A 1) (z_pos hs i0) (nI (n + 1))) (n + 1) := by
          intro g g1 g2
          have hk1 : ∀ m, m < n → z_same (z_kw g m) (z_kw (A 0) m) := fun m hm j hj => g1 _ (by omega)
          have hk2 : z_same (z_kw g n) (A 2) := fun j hj => g2 j hj
          refine ⟨by omega, fun a ha => ?_, fun a b m ha hb hm e1 e2 => ?_, fun m hm => ?_, fun m m' hm hm' hsame => ?_⟩
          · by_cases c : a = z_pos hs i0
            · rw [c, q_ud_s]; exact Or.inr ⟨n, by omega, rfl⟩
            · rw [q_ud_n _ _ c]
              rcases hH.2.1 a ha with h | ⟨m, h1, h2⟩
              · exact Or.inl h
              · exact Or.inr ⟨m, by omega, h2⟩
          · have key : ∀ a, a < 4096 → upd (A 1) (z_pos hs i0) (nI (n + 1)) a = nI (m + 1) → (a = z_pos hs i0 ∧ m = n) ∨ (a ≠ z_pos hs i0 ∧ m < n ∧ A 1 a = nI (m + 1)) := fun a ha e => by
              by_cases c : a = z_pos hs i0
              · rw [c, q_ud_s] at e
                have := (nI_eq (by omega) (by omega)).mp e
                exact Or.inl ⟨c, by omega⟩
              · rw [q_ud_n _ _ c] at e
                rcases hH.2.1 a ha with h | ⟨m', h1, h2⟩
                · rw [h] at e
                  have := (nI_eq (by omega) (by omega)).mp e
                  omega
                · rw [h2] at e
                  have := (nI_eq (by omega) (by omega)).mp e
                  exact Or.inr ⟨c, by omega, by rw [h2]; exact e⟩
            rcases key a ha e1 with ⟨k1, k2⟩ | ⟨k1, k2, k3⟩
            · rcases key b hb e2 with ⟨l1, l2⟩ | ⟨l1, l2, l3⟩
              · rw [k1, l1]
              · omega
            · rcases key b hb e2 with ⟨l1, l2⟩ | ⟨l1, l2, l3⟩
              · omega
              · exact hH.2.2.1 a b m ha hb k2 k3 l3
          · by_cases c : m = n
            · subst c
              rw [z_h_eq 5 hk2, ← hhs]
              refine ⟨i0, i1, q_ud_s _ _ _, fun i' hi' => ?_⟩
              rw [q_ud_n _ _ (fun e => by have := z_pos_inj (by omega) i1 e; omega)]
              exact i3 i' hi'
            · obtain ⟨q, q1, q2, q3⟩ := hH.2.2.2.1 m (by omega)
              rw [z_h_eq 5 (hk1 m (by omega))]
              have nz : ∀ x, A 1 x ≠ nI 0 → upd (A 1) (z_pos hs i0) (nI (n + 1)) x = A 1 x := fun x hx => q_ud_n _ _ (fun e => hx (by rw [e]; exact i2))
              refine ⟨q, q1, ?_, fun i' hi' => ?_⟩
              · rw [nz _ (by rw [q2]; intro e; have := (nI_eq (by omega) (by omega)).mp e; omega)]
                exact q2
              · rw [nz _ (q3 i' hi')]
                exact q3 i' hi'
          · by_cases c : m = n
            · by_cases c' : m' = n
              · omega
              · subst c
                exact absurd ⟨m', by omega, fun j hj => ((hk1 m' (by omega) j hj).symm.trans (hsame j hj).symm).trans (hk2 j hj)⟩ ex
            · by_cases c' : m' = n
              · subst c'
                exact absurd ⟨m, by omega, fun j hj => ((hk1 m (by omega) j hj).symm.trans (hsame j hj)).trans (hk2 j hj)⟩ ex
              · exact hH.2.2.2.2 m m' (by omega) (by omega) (fun j hj => ((hk1 m (by omega) j hj).symm.trans (hsame j hj)).trans (hk1 m' (by omega) j hj))
        generalize hP : z_pos hs i0 = P at *
        refine q_X.run sX3_keep [] 40 ?_
        simp (maxSteps := 10000000) (disch := omega) only [↓q_run_s, q_stop_n, q_stop_c, q_lg_c, q_ls_d, q_ld_n, q_ld_c, q_cat_i, q_cat_r, q_cat_n, q_wd_n, q_wd_c, q_bx_1, q_bx_2, q_bx_3, q_bx_4, q_bx_5, q_bx_6, q_bx_7, q_bx_8, q_pop_0, q_pop_s, ↓reduceIte, Nat.reduceEqDiff, reduceCtorEq, eq_self, Bool.false_eq_true, Nat.reduceAdd, Nat.reduceSub, Nat.reduceMul, Nat.reduceLeDiff, Nat.reduceLT, Nat.le_refl, Nat.zero_le, true_and, and_true, false_and, and_false, or_false, false_or, true_or, or_true, not_true_eq_false, not_false_eq_true, if_true, if_false, List.getElem?_cons_zero, List.getElem?_cons_succ, List.set_cons_zero, List.set_cons_succ, List.length_cons, List.length_nil, ↓tX3_keep_0, ↓tX3_keep_1, ↓tX3_keep_2, ↓tX3_keep_3, ↓tX3_keep_4, ↓tX3_keep_5, ↓tX3_keep_6, ↓tX3_keep_9, ↓tX3_keep_10, ↓tX3_keep_12, ↓tX3_keep_13, ↓tX3_keep_14, ↓tX3_keep_17, ↓tX3_keep_18, ↓tX3_keep_19, ↓tX3_keep_20, ↓tX3_keep_21, ↓tX3_keep_22, ↓tX3_keep_23, ↓tX3_keep_25, ↓tX3_keep_26, ↓tX3_keep_27, ↓tX3_keep_28, ↓tX3_keep_31, ↓tX3_keep_34, ↓tX3_keep_35, ↓tX3_keep_36, ↓tX3_keep_37, ↓tX3_keep_40, ↓tX3_keep_43, ↓tX3_keep_44, ↓tX3_keep_45, ↓tX3_keep_46, ↓tX3_keep_49, ↓tX3_keep_50, ↓tX3_keep_51, ↓tX3_keep_52, ↓tX3_keep_55, ↓tX3_keep_56, ↓tX3_keep_57, ↓tX3_keep_60, ↓tX3_keep_61, ↓tX3_keep_64, ↓tX3_keep_65, ↓tX3_keep_66, ↓tX3_keep_69, ↓tX3_keep_70, ↓tX3_keep_71, ↓tX3_keep_72, ↓tX3_keep_73, ↓tX3_keep_76, ↓tX3_keep_77, ↓tX3_keep_78, ↓tX3_keep_79, ↓tX3_keep_82, ↓tX3_keep_83, ↓tX3_keep_84, ↓tX3_keep_85, ↓tX3_keep_86, ↓tX3_keep_89, ↓tX3_keep_92, ↓tX3_keep_93, ↓tX3_keep_96, ↓tX3_keep_97, ↓tX3_keep_98, ↓tX3_keep_99, ↓tX3_keep_100, ↓tX3_keep_101, ↓tX3_keep_104, ↓tX3_keep_107, ↓tX3_keep_108, ↓oAdd, ↓oAl, ↓oAnd, ↓oCallV, ↓oGet, ↓oGo, ↓oIald, ↓oIast, ↓oIf1eq, ↓oIf1ne, ↓oIf2ge, ↓oIl, ↓oInc, ↓oIret, ↓oIs, ↓oK, ↓oMul, ↓oSub, ↓oUshr, ↓oXor, q_set_s, q_set_n, me_0, meO_len, q_up_a, meO_2, me_a2, mes_a2, meO_1, me_a1, mes_a1, meO_5, z_clamp, z_ltI, z_leI, z_eqI, z_lt0, z_ge0, z_eq0I, z_gt0I, z_le0I, z_m1lt, z_m1ge, z_m1eq, z_m1eq', z_inT, z_add, z_sub, z_mul, z_div, z_rem, n_ltT, n_ltF, n_leT, n_leF, n_eqT, n_eqF, z_11, q_tl_i, q_tl_n, q_ap_n, q_ap_c, ez, i2, h5]
        refine c3_keepNew h5 hn (by omega) fun g g1 g2 => ?_
        have h' := hQ (va_up s 5 (nI (n + 1))) (va_up (va_up A 1 (upd (A 1) P (nI (n + 1)))) 0 g) (n + 1) n ⟨va_up_self _ _ _, by omega, by omega, by
          rw [va_up_self, va_up_ne _ _ (by decide), va_up_self]
          exact hKeep g g1 g2, fun m hm j hj => by
          show (va_up (va_up A 1 (upd (A 1) P (nI (n + 1)))) 0 g) 0 (m * 5 + j) = A 0 (m * 5 + j)
          rw [va_up_self]
          exact g1 _ (by omega), fun j hj => by
          show (va_up (va_up A 1 (upd (A 1) P (nI (n + 1)))) 0 g) 0 (n * 5 + j) = A 2 j
          rw [va_up_self]
          exact g2 j hj⟩ (Or.inr ⟨rfl, rfl⟩)
        refine q_X.run sX3_keep [] 40 ?_
        simp (maxSteps := 10000000) (disch := omega) only [↓q_run_s, q_stop_n, q_stop_c, q_lg_c, q_ls_d, q_ld_n, q_ld_c, q_cat_i, q_cat_r, q_cat_n, q_wd_n, q_wd_c, q_bx_1, q_bx_2, q_bx_3, q_bx_4, q_bx_5, q_bx_6, q_bx_7, q_bx_8, q_pop_0, q_pop_s, ↓reduceIte, Nat.reduceEqDiff, reduceCtorEq, eq_self, Bool.false_eq_true, Nat.reduceAdd, Nat.reduceSub, Nat.reduceMul, Nat.reduceLeDiff, Nat.reduceLT, Nat.le_refl, Nat.zero_le, true_and, and_true, false_and, and_false, or_false, false_or, true_or, or_true, not_true_eq_false, not_false_eq_true, if_true, if_false, List.getElem?_cons_zero, List.getElem?_cons_succ, List.set_cons_zero, List.set_cons_succ, List.length_cons, List.length_nil, ↓tX3_keep_0, ↓tX3_keep_1, ↓tX3_keep_2, ↓tX3_keep_3, ↓tX3_keep_4, ↓tX3_keep_5, ↓tX3_keep_6, ↓tX3_keep_9, ↓tX3_keep_10, ↓tX3_keep_12, ↓tX3_keep_13, ↓tX3_keep_14, ↓tX3_keep_17, ↓tX3_keep_18, ↓tX3_keep_19, ↓tX3_keep_20, ↓tX3_keep_21, ↓tX3_keep_22, ↓tX3_keep_23, ↓tX3_keep_25, ↓tX3_keep_26, ↓tX3_keep_27, ↓tX3_keep_28, ↓tX3_keep_31, ↓tX3_keep_34, ↓tX3_keep_35, ↓tX3_keep_36, ↓tX3_keep_37, ↓tX3_keep_40, ↓tX3_keep_43, ↓tX3_keep_44, ↓tX3_keep_45, ↓tX3_keep_46, ↓tX3_keep_49, ↓tX3_keep_50, ↓tX3_keep_51, ↓tX3_keep_52, ↓tX3_keep_55, ↓tX3_keep_56, ↓tX3_keep_57, ↓tX3_keep_60, ↓tX3_keep_61, ↓tX3_keep_64, ↓tX3_keep_65, ↓tX3_keep_66, ↓tX3_keep_69, ↓tX3_keep_70, ↓tX3_keep_71, ↓tX3_keep_72, ↓tX3_keep_73, ↓tX3_keep_76, ↓tX3_keep_77, ↓tX3_keep_78, ↓tX3_keep_79, ↓tX3_keep_82, ↓tX3_keep_83, ↓tX3_keep_84, ↓tX3_keep_85, ↓tX3_keep_86, ↓tX3_keep_89, ↓tX3_keep_92, ↓tX3_keep_93, ↓tX3_keep_96, ↓tX3_keep_97, ↓tX3_keep_98, ↓tX3_keep_99, ↓tX3_keep_100, ↓tX3_keep_101, ↓tX3_keep_104, ↓tX3_keep_107, ↓tX3_keep_108, ↓oAdd, ↓oAl, ↓oAnd, ↓oCallV, ↓oGet, ↓oGo, ↓oIald, ↓oIast, ↓oIf1eq, ↓oIf1ne, ↓oIf2ge, ↓oIl, ↓oInc, ↓oIret, ↓oIs, ↓oK, ↓oMul, ↓oSub, ↓oUshr, ↓oXor, q_set_s, q_set_n, me_0, meO_len, q_up_a, meO_2, me_a2, mes_a2, meO_1, me_a1, mes_a1, meO_5, z_clamp, z_ltI, z_leI, z_eqI, z_lt0, z_ge0, z_eq0I, z_gt0I, z_le0I, z_m1lt, z_m1ge, z_m1eq, z_m1eq', z_inT, z_add, z_sub, z_mul, z_div, z_rem, n_ltT, n_ltF, n_leT, n_leF, n_eqT, n_eqF, z_11, q_tl_i, q_tl_n, q_ap_n, q_ap_c]
        exact h'
  have loopH : ∀ (g k : Nat), g + k = 5 → q_X G L d mX3_keep 0 0 Q 4 [(0, .ref i), (1, .int (z_h (A 2) k)), (2, .int (nI k))] [] (q_me M0 i s A) 0 0 := by
    intro g
    induction g with
    | zero =>
      intro k hk
      have e : k = 5 := by omega
      subst e
      rw [← hhs]
      refine q_X.run sX3_keep [36] 20 ?_
      simp (maxSteps := 10000000) (disch := omega) only [↓q_run_s, q_stop_n, q_stop_c, q_lg_c, q_ls_d, q_ld_n, q_ld_c, q_cat_i, q_cat_r, q_cat_n, q_wd_n, q_wd_c, q_bx_1, q_bx_2, q_bx_3, q_bx_4, q_bx_5, q_bx_6, q_bx_7, q_bx_8, q_pop_0, q_pop_s, ↓reduceIte, Nat.reduceEqDiff, reduceCtorEq, eq_self, Bool.false_eq_true, Nat.reduceAdd, Nat.reduceSub, Nat.reduceMul, Nat.reduceLeDiff, Nat.reduceLT, Nat.le_refl, Nat.zero_le, true_and, and_true, false_and, and_false, or_false, false_or, true_or, or_true, not_true_eq_false, not_false_eq_true, if_true, if_false, List.getElem?_cons_zero, List.getElem?_cons_succ, List.set_cons_zero, List.set_cons_succ, List.length_cons, List.length_nil, ↓tX3_keep_0, ↓tX3_keep_1, ↓tX3_keep_2, ↓tX3_keep_3, ↓tX3_keep_4, ↓tX3_keep_5, ↓tX3_keep_6, ↓tX3_keep_9, ↓tX3_keep_10, ↓tX3_keep_12, ↓tX3_keep_13, ↓tX3_keep_14, ↓tX3_keep_17, ↓tX3_keep_18, ↓tX3_keep_19, ↓tX3_keep_20, ↓tX3_keep_21, ↓tX3_keep_22, ↓tX3_keep_23, ↓tX3_keep_25, ↓tX3_keep_26, ↓tX3_keep_27, ↓tX3_keep_28, ↓tX3_keep_31, ↓tX3_keep_34, ↓tX3_keep_35, ↓tX3_keep_36, ↓tX3_keep_37, ↓tX3_keep_40, ↓tX3_keep_43, ↓tX3_keep_44, ↓tX3_keep_45, ↓tX3_keep_46, ↓tX3_keep_49, ↓tX3_keep_50, ↓tX3_keep_51, ↓tX3_keep_52, ↓tX3_keep_55, ↓tX3_keep_56, ↓tX3_keep_57, ↓tX3_keep_60, ↓tX3_keep_61, ↓tX3_keep_64, ↓tX3_keep_65, ↓tX3_keep_66, ↓tX3_keep_69, ↓tX3_keep_70, ↓tX3_keep_71, ↓tX3_keep_72, ↓tX3_keep_73, ↓tX3_keep_76, ↓tX3_keep_77, ↓tX3_keep_78, ↓tX3_keep_79, ↓tX3_keep_82, ↓tX3_keep_83, ↓tX3_keep_84, ↓tX3_keep_85, ↓tX3_keep_86, ↓tX3_keep_89, ↓tX3_keep_92, ↓tX3_keep_93, ↓tX3_keep_96, ↓tX3_keep_97, ↓tX3_keep_98, ↓tX3_keep_99, ↓tX3_keep_100, ↓tX3_keep_101, ↓tX3_keep_104, ↓tX3_keep_107, ↓tX3_keep_108, ↓oAdd, ↓oAl, ↓oAnd, ↓oCallV, ↓oGet, ↓oGo, ↓oIald, ↓oIast, ↓oIf1eq, ↓oIf1ne, ↓oIf2ge, ↓oIl, ↓oInc, ↓oIret, ↓oIs, ↓oK, ↓oMul, ↓oSub, ↓oUshr, ↓oXor, q_set_s, q_set_n, me_0, meO_len, q_up_a, meO_2, me_a2, mes_a2, meO_1, me_a1, mes_a1, meO_5, z_clamp, z_ltI, z_leI, z_eqI, z_lt0, z_ge0, z_eq0I, z_gt0I, z_le0I, z_m1lt, z_m1ge, z_m1eq, z_m1eq', z_inT, z_add, z_sub, z_mul, z_div, z_rem, n_ltT, n_ltF, n_leT, n_leF, n_eqT, n_eqF, z_11, q_tl_i, q_tl_n, q_ap_n, q_ap_c]
      refine q_X.lv2 _ ?_ search
      exact ⟨rfl, rfl, rfl, trivial⟩
    | succ g ih =>
      intro k hk
      have h' := ih (k + 1) (by omega)
      refine q_X.run sX3_keep [4] 40 ?_
      simp (maxSteps := 10000000) (disch := omega) only [↓q_run_s, q_stop_n, q_stop_c, q_lg_c, q_ls_d, q_ld_n, q_ld_c, q_cat_i, q_cat_r, q_cat_n, q_wd_n, q_wd_c, q_bx_1, q_bx_2, q_bx_3, q_bx_4, q_bx_5, q_bx_6, q_bx_7, q_bx_8, q_pop_0, q_pop_s, ↓reduceIte, Nat.reduceEqDiff, reduceCtorEq, eq_self, Bool.false_eq_true, Nat.reduceAdd, Nat.reduceSub, Nat.reduceMul, Nat.reduceLeDiff, Nat.reduceLT, Nat.le_refl, Nat.zero_le, true_and, and_true, false_and, and_false, or_false, false_or, true_or, or_true, not_true_eq_false, not_false_eq_true, if_true, if_false, List.getElem?_cons_zero, List.getElem?_cons_succ, List.set_cons_zero, List.set_cons_succ, List.length_cons, List.length_nil, ↓tX3_keep_0, ↓tX3_keep_1, ↓tX3_keep_2, ↓tX3_keep_3, ↓tX3_keep_4, ↓tX3_keep_5, ↓tX3_keep_6, ↓tX3_keep_9, ↓tX3_keep_10, ↓tX3_keep_12, ↓tX3_keep_13, ↓tX3_keep_14, ↓tX3_keep_17, ↓tX3_keep_18, ↓tX3_keep_19, ↓tX3_keep_20, ↓tX3_keep_21, ↓tX3_keep_22, ↓tX3_keep_23, ↓tX3_keep_25, ↓tX3_keep_26, ↓tX3_keep_27, ↓tX3_keep_28, ↓tX3_keep_31, ↓tX3_keep_34, ↓tX3_keep_35, ↓tX3_keep_36, ↓tX3_keep_37, ↓tX3_keep_40, ↓tX3_keep_43, ↓tX3_keep_44, ↓tX3_keep_45, ↓tX3_keep_46, ↓tX3_keep_49, ↓tX3_keep_50, ↓tX3_keep_51, ↓tX3_keep_52, ↓tX3_keep_55, ↓tX3_keep_56, ↓tX3_keep_57, ↓tX3_keep_60, ↓tX3_keep_61, ↓tX3_keep_64, ↓tX3_keep_65, ↓tX3_keep_66, ↓tX3_keep_69, ↓tX3_keep_70, ↓tX3_keep_71, ↓tX3_keep_72, ↓tX3_keep_73, ↓tX3_keep_76, ↓tX3_keep_77, ↓tX3_keep_78, ↓tX3_keep_79, ↓tX3_keep_82, ↓tX3_keep_83, ↓tX3_keep_84, ↓tX3_keep_85, ↓tX3_keep_86, ↓tX3_keep_89, ↓tX3_keep_92, ↓tX3_keep_93, ↓tX3_keep_96, ↓tX3_keep_97, ↓tX3_keep_98, ↓tX3_keep_99, ↓tX3_keep_100, ↓tX3_keep_101, ↓tX3_keep_104, ↓tX3_keep_107, ↓tX3_keep_108, ↓oAdd, ↓oAl, ↓oAnd, ↓oCallV, ↓oGet, ↓oGo, ↓oIald, ↓oIast, ↓oIf1eq, ↓oIf1ne, ↓oIf2ge, ↓oIl, ↓oInc, ↓oIret, ↓oIs, ↓oK, ↓oMul, ↓oSub, ↓oUshr, ↓oXor, q_set_s, q_set_n, me_0, meO_len, q_up_a, meO_2, me_a2, mes_a2, meO_1, me_a1, mes_a1, meO_5, z_clamp, z_ltI, z_leI, z_eqI, z_lt0, z_ge0, z_eq0I, z_gt0I, z_le0I, z_m1lt, z_m1ge, z_m1eq, z_m1eq', z_inT, z_add, z_sub, z_mul, z_div, z_rem, n_ltT, n_ltF, n_leT, n_leF, n_eqT, n_eqF, z_11, q_tl_i, q_tl_n, q_ap_n, q_ap_c]
      refine q_X.lv2 _ ?_ h'
      exact ⟨rfl, rfl, rfl, trivial⟩
  refine q_Call.of [(0, .ref i)] rfl ?_
  have h' := loopH 5 0 rfl
  refine q_X.run sX3_keep [4] 20 ?_
  simp (maxSteps := 10000000) (disch := omega) only [↓q_run_s, q_stop_n, q_stop_c, q_lg_c, q_ls_d, q_ld_n, q_ld_c, q_cat_i, q_cat_r, q_cat_n, q_wd_n, q_wd_c, q_bx_1, q_bx_2, q_bx_3, q_bx_4, q_bx_5, q_bx_6, q_bx_7, q_bx_8, q_pop_0, q_pop_s, ↓reduceIte, Nat.reduceEqDiff, reduceCtorEq, eq_self, Bool.false_eq_true, Nat.reduceAdd, Nat.reduceSub, Nat.reduceMul, Nat.reduceLeDiff, Nat.reduceLT, Nat.le_refl, Nat.zero_le, true_and, and_true, false_and, and_false, or_false, false_or, true_or, or_true, not_true_eq_false, not_false_eq_true, if_true, if_false, List.getElem?_cons_zero, List.getElem?_cons_succ, List.set_cons_zero, List.set_cons_succ, List.length_cons, List.length_nil, ↓tX3_keep_0, ↓tX3_keep_1, ↓tX3_keep_2, ↓tX3_keep_3, ↓tX3_keep_4, ↓tX3_keep_5, ↓tX3_keep_6, ↓tX3_keep_9, ↓tX3_keep_10, ↓tX3_keep_12, ↓tX3_keep_13, ↓tX3_keep_14, ↓tX3_keep_17, ↓tX3_keep_18, ↓tX3_keep_19, ↓tX3_keep_20, ↓tX3_keep_21, ↓tX3_keep_22, ↓tX3_keep_23, ↓tX3_keep_25, ↓tX3_keep_26, ↓tX3_keep_27, ↓tX3_keep_28, ↓tX3_keep_31, ↓tX3_keep_34, ↓tX3_keep_35, ↓tX3_keep_36, ↓tX3_keep_37, ↓tX3_keep_40, ↓tX3_keep_43, ↓tX3_keep_44, ↓tX3_keep_45, ↓tX3_keep_46, ↓tX3_keep_49, ↓tX3_keep_50, ↓tX3_keep_51, ↓tX3_keep_52, ↓tX3_keep_55, ↓tX3_keep_56, ↓tX3_keep_57, ↓tX3_keep_60, ↓tX3_keep_61, ↓tX3_keep_64, ↓tX3_keep_65, ↓tX3_keep_66, ↓tX3_keep_69, ↓tX3_keep_70, ↓tX3_keep_71, ↓tX3_keep_72, ↓tX3_keep_73, ↓tX3_keep_76, ↓tX3_keep_77, ↓tX3_keep_78, ↓tX3_keep_79, ↓tX3_keep_82, ↓tX3_keep_83, ↓tX3_keep_84, ↓tX3_keep_85, ↓tX3_keep_86, ↓tX3_keep_89, ↓tX3_keep_92, ↓tX3_keep_93, ↓tX3_keep_96, ↓tX3_keep_97, ↓tX3_keep_98, ↓tX3_keep_99, ↓tX3_keep_100, ↓tX3_keep_101, ↓tX3_keep_104, ↓tX3_keep_107, ↓tX3_keep_108, ↓oAdd, ↓oAl, ↓oAnd, ↓oCallV, ↓oGet, ↓oGo, ↓oIald, ↓oIast, ↓oIf1eq, ↓oIf1ne, ↓oIf2ge, ↓oIl, ↓oInc, ↓oIret, ↓oIs, ↓oK, ↓oMul, ↓oSub, ↓oUshr, ↓oXor, q_set_s, q_set_n, me_0, meO_len, q_up_a, meO_2, me_a2, mes_a2, meO_1, me_a1, mes_a1, meO_5, z_clamp, z_ltI, z_leI, z_eqI, z_lt0, z_ge0, z_eq0I, z_gt0I, z_le0I, z_m1lt, z_m1ge, z_m1eq, z_m1eq', z_inT, z_add, z_sub, z_mul, z_div, z_rem, n_ltT, n_ltF, n_leT, n_leF, n_eqT, n_eqF, z_11, q_tl_i, q_tl_n, q_ap_n, q_ap_c]
  refine q_X.lv2 _ ?_ h'
  exact ⟨rfl, rfl, rfl, trivial⟩
end
