/-! the class's Spans: all nodes; what a showing says -/
/-- node j is the top of the tree; its parts stand ahead, from lo on -/
def t_loc (k l r : Nat → Int32) (τ : Nat → qT) (lo j : Nat) : qT → Prop
  | .num v => (k j = nI 0 ∧ l j = nI v.toNat ∧ r j = nI 0) ∧ 0 ≤ v ∧ v.toNat < 3
  | .var s => (k j = nI 1 ∧ l j = nI s ∧ r j = nI 0) ∧ t_vok s
  | .add x y => ∃ a b, lo ≤ a ∧ a < j ∧ lo ≤ b ∧ b < j ∧ (k j = nI 2 ∧ l j = nI a ∧ r j = nI b) ∧ τ a = x ∧ τ b = y
  | .sub x y => ∃ a b, lo ≤ a ∧ a < j ∧ lo ≤ b ∧ b < j ∧ (k j = nI 3 ∧ l j = nI a ∧ r j = nI b) ∧ τ a = x ∧ τ b = y
  | .neg x => ∃ a, lo ≤ a ∧ a < j ∧ (k j = nI 4 ∧ l j = nI a ∧ r j = nI 0) ∧ τ a = x
  | .mulL _ x => ∃ a, lo ≤ a ∧ a < j ∧ (k j = nI 5 ∧ l j = nI a ∧ r j = nI 0) ∧ τ a = x
  | .mulR _ _ => False
theorem t_loc_fr {k l r : Nat → Int32} {τ τ' : Nat → qT} {lo lo' j : Nat} (h : ∀ q, lo ≤ q → q < j → τ' q = τ q) (hl : lo' ≤ lo) : ∀ {t : qT}, t_loc k l r τ lo j t → t_loc k l r τ' lo' j t
  | .num _, g => g
  | .var _, g => g
  | .add _ _, ⟨a, b, h0, h1, h0', h2, h3, h4, h5⟩ => ⟨a, b, by omega, h1, by omega, h2, h3, (h a h0 h1).trans h4, (h b h0' h2).trans h5⟩
  | .sub _ _, ⟨a, b, h0, h1, h0', h2, h3, h4, h5⟩ => ⟨a, b, by omega, h1, by omega, h2, h3, (h a h0 h1).trans h4, (h b h0' h2).trans h5⟩
  | .neg _, ⟨a, h0, h1, h3, h4⟩ => ⟨a, by omega, h1, h3, (h a h0 h1).trans h4⟩
  | .mulL _ _, ⟨a, h0, h1, h3, h4⟩ => ⟨a, by omega, h1, h3, (h a h0 h1).trans h4⟩
  | .mulR _ _, g => g.elim
/-- a tree in a place gives a tree to each node -/
theorem t_no_lc {k l r : Nat → Int32} : ∀ (t : qT) (b : Nat), t_no k l r t b → ∃ τ : Nat → qT, τ (b + t_nodes t - 1) = t ∧ ∀ j, b ≤ j → j < b + t_nodes t → t_loc k l r τ b j (τ j)
  | .num v, b, h => ⟨fun _ => .num v, rfl, fun j h1 h2 => by
    have e : j = b := by unfold t_nodes at h2; omega
    subst e
    exact h⟩
  | .var v, b, h => ⟨fun _ => .var v, rfl, fun j h1 h2 => by
    have e : j = b := by unfold t_nodes at h2; omega
    subst e
    exact h⟩
  | .add x y, b, ⟨h1, h2, h3⟩ => by
    obtain ⟨τx, x1, x2⟩ := t_no_lc x b h2
    obtain ⟨τy, y1, y2⟩ := t_no_lc y (b + t_nodes x) h3
    have px := t_nodes_pos x
    have py := t_nodes_pos y
    obtain ⟨τ, hτ⟩ : ∃ τ : Nat → qT, τ = fun q => if q < b + t_nodes x then τx q else if q < b + t_nodes x + t_nodes y then τy q else .add x y := ⟨_, rfl⟩
    have t1 : ∀ q, q < b + t_nodes x → τ q = τx q := fun q hq => by rw [hτ]; exact if_pos hq
    have t2 : ∀ q, b + t_nodes x ≤ q → q < b + t_nodes x + t_nodes y → τ q = τy q := fun q g1 g2 => by rw [hτ]; exact (if_neg (by omega)).trans (if_pos g2)
    have t3 : ∀ q, b + t_nodes x + t_nodes y ≤ q → τ q = .add x y := fun q g1 => by rw [hτ]; exact (if_neg (by omega)).trans (if_neg (by omega))
    refine ⟨τ, t3 _ (by show _ ≤ b + (1 + t_nodes x + t_nodes y) - 1; omega), fun j g1 g2 => ?_⟩
    have g2 : j < b + (1 + t_nodes x + t_nodes y) := g2
    by_cases c1 : j < b + t_nodes x
    · rw [t1 j c1]
      exact t_loc_fr (fun q _ hq => t1 q (by omega)) (Nat.le_refl _) (x2 j g1 c1)
    · by_cases c2 : j < b + t_nodes x + t_nodes y
      · rw [t2 j (by omega) c2]
        exact t_loc_fr (fun q g hq => t2 q g (by omega)) (by omega) (y2 j (by omega) c2)
      · have e : j = b + t_nodes x + t_nodes y := by omega
        rw [t3 j (by omega), e]
        exact ⟨b + t_nodes x - 1, b + t_nodes x + t_nodes y - 1, by omega, by omega, by omega, by omega, h1, by rw [t1 _ (by omega)]; exact x1, by rw [t2 _ (by omega) (by omega)]; exact y1⟩
  | .sub x y, b, ⟨h1, h2, h3⟩ => by
    obtain ⟨τx, x1, x2⟩ := t_no_lc x b h2
    obtain ⟨τy, y1, y2⟩ := t_no_lc y (b + t_nodes x) h3
    have px := t_nodes_pos x
    have py := t_nodes_pos y
    obtain ⟨τ, hτ⟩ : ∃ τ : Nat → qT, τ = fun q => if q < b + t_nodes x then τx q else if q < b + t_nodes x + t_nodes y then τy q else .sub x y := ⟨_, rfl⟩
    have t1 : ∀ q, q < b + t_nodes x → τ q = τx q := fun q hq => by rw [hτ]; exact if_pos hq
    have t2 : ∀ q, b + t_nodes x ≤ q → q < b + t_nodes x + t_nodes y → τ q = τy q := fun q g1 g2 => by rw [hτ]; exact (if_neg (by omega)).trans (if_pos g2)
    have t3 : ∀ q, b + t_nodes x + t_nodes y ≤ q → τ q = .sub x y := fun q g1 => by rw [hτ]; exact (if_neg (by omega)).trans (if_neg (by omega))
    refine ⟨τ, t3 _ (by show _ ≤ b + (1 + t_nodes x + t_nodes y) - 1; omega), fun j g1 g2 => ?_⟩
    have g2 : j < b + (1 + t_nodes x + t_nodes y) := g2
    by_cases c1 : j < b + t_nodes x
    · rw [t1 j c1]
      exact t_loc_fr (fun q _ hq => t1 q (by omega)) (Nat.le_refl _) (x2 j g1 c1)
    · by_cases c2 : j < b + t_nodes x + t_nodes y
      · rw [t2 j (by omega) c2]
        exact t_loc_fr (fun q g hq => t2 q g (by omega)) (by omega) (y2 j (by omega) c2)
      · have e : j = b + t_nodes x + t_nodes y := by omega
        rw [t3 j (by omega), e]
        exact ⟨b + t_nodes x - 1, b + t_nodes x + t_nodes y - 1, by omega, by omega, by omega, by omega, h1, by rw [t1 _ (by omega)]; exact x1, by rw [t2 _ (by omega) (by omega)]; exact y1⟩
  | .neg x, b, ⟨h1, h2⟩ => by
    obtain ⟨τx, x1, x2⟩ := t_no_lc x b h2
    have px := t_nodes_pos x
    obtain ⟨τ, hτ⟩ : ∃ τ : Nat → qT, τ = fun q => if q < b + t_nodes x then τx q else .neg x := ⟨_, rfl⟩
    have t1 : ∀ q, q < b + t_nodes x → τ q = τx q := fun q hq => by rw [hτ]; exact if_pos hq
    have t3 : ∀ q, b + t_nodes x ≤ q → τ q = .neg x := fun q g1 => by rw [hτ]; exact if_neg (by omega)
    refine ⟨τ, t3 _ (by show _ ≤ b + (1 + t_nodes x) - 1; omega), fun j g1 g2 => ?_⟩
    have g2 : j < b + (1 + t_nodes x) := g2
    by_cases c1 : j < b + t_nodes x
    · rw [t1 j c1]
      exact t_loc_fr (fun q _ hq => t1 q (by omega)) (Nat.le_refl _) (x2 j g1 c1)
    · have e : j = b + t_nodes x := by omega
      rw [t3 j (by omega), e]
      exact ⟨b + t_nodes x - 1, by omega, by omega, h1, by rw [t1 _ (by omega)]; exact x1⟩
  | .mulL c x, b, ⟨h1, h0, h2⟩ => by
    obtain ⟨τx, x1, x2⟩ := t_no_lc x b h2
    have px := t_nodes_pos x
    obtain ⟨τ, hτ⟩ : ∃ τ : Nat → qT, τ = fun q => if q < b + t_nodes x then τx q else .mulL c x := ⟨_, rfl⟩
    have t1 : ∀ q, q < b + t_nodes x → τ q = τx q := fun q hq => by rw [hτ]; exact if_pos hq
    have t3 : ∀ q, b + t_nodes x ≤ q → τ q = .mulL c x := fun q g1 => by rw [hτ]; exact if_neg (by omega)
    refine ⟨τ, t3 _ (by show _ ≤ b + (1 + t_nodes x) - 1; omega), fun j g1 g2 => ?_⟩
    have g2 : j < b + (1 + t_nodes x) := g2
    by_cases c1 : j < b + t_nodes x
    · rw [t1 j c1]
      exact t_loc_fr (fun q _ hq => t1 q (by omega)) (Nat.le_refl _) (x2 j g1 c1)
    · have e : j = b + t_nodes x := by omega
      rw [t3 j (by omega), e]
      exact ⟨b + t_nodes x - 1, by omega, by omega, h1, by rw [t1 _ (by omega)]; exact x1⟩
  | .mulR _ _, _, h => h.elim
/-- and so does the table -/
theorem k_hC_lc {k l r U : Nat → Int32} (h : k_hC k l r U (k_T 11)) {j : Nat} (hj : j < 4937) : t_loc k l r (k_t (k_T 11)) 0 j (k_t (k_T 11) j) := by
  have hl : j < (k_T 11).length := by
    have : (k_T 11).length = 4937 := k_4937
    omega
  obtain ⟨⟨x, y, t⟩, he⟩ : ∃ e, (k_T 11)[j]? = some e := ⟨_, List.getElem?_eq_getElem hl⟩
  obtain ⟨-, hE, -⟩ := k_E_11 he
  obtain ⟨h1, h2, h3, -⟩ := h j _ he
  rw [k_t_at he]
  cases t with
  | num v =>
    obtain ⟨a1, a2, a3, a4⟩ := hE
    have a1 : x = v.toNat := a1
    have a2 : y = 0 := a2
    subst a1 a2
    exact ⟨⟨h1, h2, h3⟩, a3, a4⟩
  | var v =>
    obtain ⟨a1, a2, a3⟩ := hE
    have a1 : x = v := a1
    have a2 : y = 0 := a2
    subst a1 a2
    exact ⟨⟨h1, h2, h3⟩, a3⟩
  | add u w =>
    obtain ⟨a1, a2, a3, a4⟩ := hE
    exact ⟨x, y, Nat.zero_le _, a1, Nat.zero_le _, a2, ⟨h1, h2, h3⟩, k_at_t a3, k_at_t a4⟩
  | sub u w =>
    obtain ⟨a1, a2, a3, a4⟩ := hE
    exact ⟨x, y, Nat.zero_le _, a1, Nat.zero_le _, a2, ⟨h1, h2, h3⟩, k_at_t a3, k_at_t a4⟩
  | neg u =>
    obtain ⟨a1, a2, a3⟩ := hE
    have a2 : y = 0 := a2
    subst a2
    exact ⟨x, Nat.zero_le _, a1, ⟨h1, h2, h3⟩, k_at_t a3⟩
  | mulL c u =>
    obtain ⟨a0, a1, a2, a3⟩ := hE
    have a2 : y = 0 := a2
    subst a2
    exact ⟨x, Nat.zero_le _, a1, ⟨h1, h2, h3⟩, k_at_t a3⟩
  | mulR u c => exact hE.elim
section
variable {G : qC} {L : Launch} {d : Nat} {M : qM} {Q : Option Value → qM → Prop} {M0 : qM} {i n : Nat} {B : Nat → Nat → Int64} {w : Nat → Nat} {len : Nat} {k l r : Nat → Int32} {τ : Nat → qT}
/-- the parts of all nodes ahead of j -/
def s_Fl (w : Nat → Nat) (len : Nat) (τ : Nat → qT) (B : Nat → Nat → Int64) (j : Nat) : Prop := ∀ q, q < j → ∃ X, B 0 q = nL X ∧ s_W len X (t_Sp w len (τ q))
set_option maxRecDepth 100000 in
set_option maxHeartbeats 8000000 in
theorem c8_spanOf {j : Nat} (hjn : j ≤ n) (hn : n < 100000) (hl : len ≤ 6) (hw : ∀ b, b < len → w b < 3) (hL : s_Lt w len B) (hF : s_Fl w len τ B j) (ht : t_loc k l r τ 0 j (τ j)) (hd : 2 ≤ d) (hQ : ∀ X, s_W len X (t_Sp w len (τ j)) → Q (some (.long (nL X))) (q_sp M0 i n B)) : q_Call G L d mX8_spanOf 0 0 [.ref i, .int (k j), .int (l j), .int (r j)] (q_sp M0 i n B) Q := by
  refine q_Call.of [(0, .ref i), (1, .int (k j)), (2, .int (l j)), (3, .int (r j))] rfl ?_
  generalize τ j = t at ht hQ
  cases t with
  | num v =>
    obtain ⟨⟨h1, h2, h3⟩, h4, h5⟩ := ht
    refine q_X.run sX8_spanOf [] 20 ?_
    simp (maxSteps := 10000000) (disch := omega) only [↓q_run_s, q_stop_n, q_stop_c, q_lg_c, q_ls_d, q_ld_n, q_ld_c, q_cat_i, q_cat_r, q_cat_n, q_wd_n, q_wd_c, q_bx_1, q_bx_2, q_bx_3, q_bx_4, q_bx_5, q_bx_6, q_bx_7, q_bx_8, q_pop_0, q_pop_s, ↓reduceIte, Nat.reduceEqDiff, reduceCtorEq, eq_self, Bool.false_eq_true, Nat.reduceAdd, Nat.reduceSub, Nat.reduceMul, Nat.reduceLeDiff, Nat.reduceLT, Nat.le_refl, Nat.zero_le, true_and, and_true, false_and, and_false, or_false, false_or, true_or, or_true, not_true_eq_false, not_false_eq_true, if_true, if_false, List.getElem?_cons_zero, List.getElem?_cons_succ, List.set_cons_zero, List.set_cons_succ, List.length_cons, List.length_nil, ↓tX8_spanOf_0, ↓tX8_spanOf_1, ↓tX8_spanOf_36, ↓tX8_spanOf_37, ↓tX8_spanOf_38, ↓tX8_spanOf_39, ↓tX8_spanOf_40, ↓tX8_spanOf_43, ↓tX8_spanOf_44, ↓tX8_spanOf_45, ↓tX8_spanOf_46, ↓tX8_spanOf_49, ↓tX8_spanOf_50, ↓tX8_spanOf_51, ↓tX8_spanOf_52, ↓tX8_spanOf_55, ↓tX8_spanOf_56, ↓tX8_spanOf_57, ↓tX8_spanOf_60, ↓tX8_spanOf_63, ↓tX8_spanOf_64, ↓tX8_spanOf_65, ↓tX8_spanOf_66, ↓tX8_spanOf_69, ↓tX8_spanOf_70, ↓tX8_spanOf_71, ↓tX8_spanOf_74, ↓tX8_spanOf_75, ↓tX8_spanOf_76, ↓tX8_spanOf_77, ↓tX8_spanOf_78, ↓tX8_spanOf_81, ↓tX8_spanOf_84, ↓tX8_spanOf_85, ↓tX8_spanOf_86, ↓tX8_spanOf_87, ↓tX8_spanOf_90, ↓tX8_spanOf_93, ↓tX8_spanOf_94, ↓oAl, ↓oCallS, ↓oCallV, ↓oIl, ↓oK, ↓oLor, ↓oLret, ↓oShl, ↓oTab, ↓q_tab_n, ↓q_tab_c, q_set_s, q_set_n, sp_0, spO_len, q_up_a, z_clamp, z_ltI, z_leI, z_eqI, z_lt0, z_ge0, z_eq0I, z_gt0I, z_le0I, z_m1lt, z_m1ge, z_m1eq, z_m1eq', z_inT, z_add, z_sub, z_mul, z_div, z_rem, n_ltT, n_ltF, n_leT, n_leF, n_eqT, n_eqF, z_11, q_tl_i, q_tl_n, q_ap_n, q_ap_c, h1, h2, z_shl1]
    refine c8_ofClass (v := 2 ^ v.toNat) (by
      have g : ∀ v : Nat, v < 3 → 2 ^ v < 8 := by decide
      exact g _ h5) hl hw hL fun X hX => ?_
    have h' := hQ X (hX.congr fun b e _ => by
      rw [Nat.testBit_two_pow, decide_eq_true_iff]
      exact ⟨fun h => ⟨h.1, h.2.1, h.2.2.symm⟩, fun h => ⟨h.1, h.2.1, h.2.2.symm⟩⟩)
    refine q_X.run sX8_spanOf [] 20 ?_
    simp (maxSteps := 10000000) (disch := omega) only [↓q_run_s, q_stop_n, q_stop_c, q_lg_c, q_ls_d, q_ld_n, q_ld_c, q_cat_i, q_cat_r, q_cat_n, q_wd_n, q_wd_c, q_bx_1, q_bx_2, q_bx_3, q_bx_4, q_bx_5, q_bx_6, q_bx_7, q_bx_8, q_pop_0, q_pop_s, ↓reduceIte, Nat.reduceEqDiff, reduceCtorEq, eq_self, Bool.false_eq_true, Nat.reduceAdd, Nat.reduceSub, Nat.reduceMul, Nat.reduceLeDiff, Nat.reduceLT, Nat.le_refl, Nat.zero_le, true_and, and_true, false_and, and_false, or_false, false_or, true_or, or_true, not_true_eq_false, not_false_eq_true, if_true, if_false, List.getElem?_cons_zero, List.getElem?_cons_succ, List.set_cons_zero, List.set_cons_succ, List.length_cons, List.length_nil, ↓tX8_spanOf_0, ↓tX8_spanOf_1, ↓tX8_spanOf_36, ↓tX8_spanOf_37, ↓tX8_spanOf_38, ↓tX8_spanOf_39, ↓tX8_spanOf_40, ↓tX8_spanOf_43, ↓tX8_spanOf_44, ↓tX8_spanOf_45, ↓tX8_spanOf_46, ↓tX8_spanOf_49, ↓tX8_spanOf_50, ↓tX8_spanOf_51, ↓tX8_spanOf_52, ↓tX8_spanOf_55, ↓tX8_spanOf_56, ↓tX8_spanOf_57, ↓tX8_spanOf_60, ↓tX8_spanOf_63, ↓tX8_spanOf_64, ↓tX8_spanOf_65, ↓tX8_spanOf_66, ↓tX8_spanOf_69, ↓tX8_spanOf_70, ↓tX8_spanOf_71, ↓tX8_spanOf_74, ↓tX8_spanOf_75, ↓tX8_spanOf_76, ↓tX8_spanOf_77, ↓tX8_spanOf_78, ↓tX8_spanOf_81, ↓tX8_spanOf_84, ↓tX8_spanOf_85, ↓tX8_spanOf_86, ↓tX8_spanOf_87, ↓tX8_spanOf_90, ↓tX8_spanOf_93, ↓tX8_spanOf_94, ↓oAl, ↓oCallS, ↓oCallV, ↓oIl, ↓oK, ↓oLor, ↓oLret, ↓oShl, ↓oTab, ↓q_tab_n, ↓q_tab_c, q_set_s, q_set_n, sp_0, spO_len, q_up_a, z_clamp, z_ltI, z_leI, z_eqI, z_lt0, z_ge0, z_eq0I, z_gt0I, z_le0I, z_m1lt, z_m1ge, z_m1eq, z_m1eq', z_inT, z_add, z_sub, z_mul, z_div, z_rem, n_ltT, n_ltF, n_leT, n_leF, n_eqT, n_eqF, z_11, q_tl_i, q_tl_n, q_ap_n, q_ap_c]
    exact h'
  | var v =>
    obtain ⟨⟨h1, h2, h3⟩, h4, h5⟩ := ht
    refine q_X.run sX8_spanOf [] 20 ?_
    simp (maxSteps := 10000000) (disch := omega) only [↓q_run_s, q_stop_n, q_stop_c, q_lg_c, q_ls_d, q_ld_n, q_ld_c, q_cat_i, q_cat_r, q_cat_n, q_wd_n, q_wd_c, q_bx_1, q_bx_2, q_bx_3, q_bx_4, q_bx_5, q_bx_6, q_bx_7, q_bx_8, q_pop_0, q_pop_s, ↓reduceIte, Nat.reduceEqDiff, reduceCtorEq, eq_self, Bool.false_eq_true, Nat.reduceAdd, Nat.reduceSub, Nat.reduceMul, Nat.reduceLeDiff, Nat.reduceLT, Nat.le_refl, Nat.zero_le, true_and, and_true, false_and, and_false, or_false, false_or, true_or, or_true, not_true_eq_false, not_false_eq_true, if_true, if_false, List.getElem?_cons_zero, List.getElem?_cons_succ, List.set_cons_zero, List.set_cons_succ, List.length_cons, List.length_nil, ↓tX8_spanOf_0, ↓tX8_spanOf_1, ↓tX8_spanOf_36, ↓tX8_spanOf_37, ↓tX8_spanOf_38, ↓tX8_spanOf_39, ↓tX8_spanOf_40, ↓tX8_spanOf_43, ↓tX8_spanOf_44, ↓tX8_spanOf_45, ↓tX8_spanOf_46, ↓tX8_spanOf_49, ↓tX8_spanOf_50, ↓tX8_spanOf_51, ↓tX8_spanOf_52, ↓tX8_spanOf_55, ↓tX8_spanOf_56, ↓tX8_spanOf_57, ↓tX8_spanOf_60, ↓tX8_spanOf_63, ↓tX8_spanOf_64, ↓tX8_spanOf_65, ↓tX8_spanOf_66, ↓tX8_spanOf_69, ↓tX8_spanOf_70, ↓tX8_spanOf_71, ↓tX8_spanOf_74, ↓tX8_spanOf_75, ↓tX8_spanOf_76, ↓tX8_spanOf_77, ↓tX8_spanOf_78, ↓tX8_spanOf_81, ↓tX8_spanOf_84, ↓tX8_spanOf_85, ↓tX8_spanOf_86, ↓tX8_spanOf_87, ↓tX8_spanOf_90, ↓tX8_spanOf_93, ↓tX8_spanOf_94, ↓oAl, ↓oCallS, ↓oCallV, ↓oIl, ↓oK, ↓oLor, ↓oLret, ↓oShl, ↓oTab, ↓q_tab_n, ↓q_tab_c, q_set_s, q_set_n, sp_0, spO_len, q_up_a, z_clamp, z_ltI, z_leI, z_eqI, z_lt0, z_ge0, z_eq0I, z_gt0I, z_le0I, z_m1lt, z_m1ge, z_m1eq, z_m1eq', z_inT, z_add, z_sub, z_mul, z_div, z_rem, n_ltT, n_ltF, n_leT, n_leF, n_eqT, n_eqF, z_11, q_tl_i, q_tl_n, q_ap_n, q_ap_c, h1, h2]
    refine c8_ofClass (v := v) h5 hl hw hL fun X hX => ?_
    have h' := hQ X hX
    refine q_X.run sX8_spanOf [] 20 ?_
    simp (maxSteps := 10000000) (disch := omega) only [↓q_run_s, q_stop_n, q_stop_c, q_lg_c, q_ls_d, q_ld_n, q_ld_c, q_cat_i, q_cat_r, q_cat_n, q_wd_n, q_wd_c, q_bx_1, q_bx_2, q_bx_3, q_bx_4, q_bx_5, q_bx_6, q_bx_7, q_bx_8, q_pop_0, q_pop_s, ↓reduceIte, Nat.reduceEqDiff, reduceCtorEq, eq_self, Bool.false_eq_true, Nat.reduceAdd, Nat.reduceSub, Nat.reduceMul, Nat.reduceLeDiff, Nat.reduceLT, Nat.le_refl, Nat.zero_le, true_and, and_true, false_and, and_false, or_false, false_or, true_or, or_true, not_true_eq_false, not_false_eq_true, if_true, if_false, List.getElem?_cons_zero, List.getElem?_cons_succ, List.set_cons_zero, List.set_cons_succ, List.length_cons, List.length_nil, ↓tX8_spanOf_0, ↓tX8_spanOf_1, ↓tX8_spanOf_36, ↓tX8_spanOf_37, ↓tX8_spanOf_38, ↓tX8_spanOf_39, ↓tX8_spanOf_40, ↓tX8_spanOf_43, ↓tX8_spanOf_44, ↓tX8_spanOf_45, ↓tX8_spanOf_46, ↓tX8_spanOf_49, ↓tX8_spanOf_50, ↓tX8_spanOf_51, ↓tX8_spanOf_52, ↓tX8_spanOf_55, ↓tX8_spanOf_56, ↓tX8_spanOf_57, ↓tX8_spanOf_60, ↓tX8_spanOf_63, ↓tX8_spanOf_64, ↓tX8_spanOf_65, ↓tX8_spanOf_66, ↓tX8_spanOf_69, ↓tX8_spanOf_70, ↓tX8_spanOf_71, ↓tX8_spanOf_74, ↓tX8_spanOf_75, ↓tX8_spanOf_76, ↓tX8_spanOf_77, ↓tX8_spanOf_78, ↓tX8_spanOf_81, ↓tX8_spanOf_84, ↓tX8_spanOf_85, ↓tX8_spanOf_86, ↓tX8_spanOf_87, ↓tX8_spanOf_90, ↓tX8_spanOf_93, ↓tX8_spanOf_94, ↓oAl, ↓oCallS, ↓oCallV, ↓oIl, ↓oK, ↓oLor, ↓oLret, ↓oShl, ↓oTab, ↓q_tab_n, ↓q_tab_c, q_set_s, q_set_n, sp_0, spO_len, q_up_a, z_clamp, z_ltI, z_leI, z_eqI, z_lt0, z_ge0, z_eq0I, z_gt0I, z_le0I, z_m1lt, z_m1ge, z_m1eq, z_m1eq', z_inT, z_add, z_sub, z_mul, z_div, z_rem, n_ltT, n_ltF, n_leT, n_leF, n_eqT, n_eqF, z_11, q_tl_i, q_tl_n, q_ap_n, q_ap_c]
    exact h'
  | add x y =>
    obtain ⟨a, b, -, a1, -, b1, ⟨h1, h2, h3⟩, e1, e2⟩ := ht
    obtain ⟨X, x1, x2⟩ := hF a a1
    obtain ⟨Y, y1, y2⟩ := hF b b1
    rw [e1] at x2
    rw [e2] at y2
    refine q_X.run sX8_spanOf [] 20 ?_
    simp (maxSteps := 10000000) (disch := omega) only [↓q_run_s, q_stop_n, q_stop_c, q_lg_c, q_ls_d, q_ld_n, q_ld_c, q_cat_i, q_cat_r, q_cat_n, q_wd_n, q_wd_c, q_bx_1, q_bx_2, q_bx_3, q_bx_4, q_bx_5, q_bx_6, q_bx_7, q_bx_8, q_pop_0, q_pop_s, ↓reduceIte, Nat.reduceEqDiff, reduceCtorEq, eq_self, Bool.false_eq_true, Nat.reduceAdd, Nat.reduceSub, Nat.reduceMul, Nat.reduceLeDiff, Nat.reduceLT, Nat.le_refl, Nat.zero_le, true_and, and_true, false_and, and_false, or_false, false_or, true_or, or_true, not_true_eq_false, not_false_eq_true, if_true, if_false, List.getElem?_cons_zero, List.getElem?_cons_succ, List.set_cons_zero, List.set_cons_succ, List.length_cons, List.length_nil, ↓tX8_spanOf_0, ↓tX8_spanOf_1, ↓tX8_spanOf_36, ↓tX8_spanOf_37, ↓tX8_spanOf_38, ↓tX8_spanOf_39, ↓tX8_spanOf_40, ↓tX8_spanOf_43, ↓tX8_spanOf_44, ↓tX8_spanOf_45, ↓tX8_spanOf_46, ↓tX8_spanOf_49, ↓tX8_spanOf_50, ↓tX8_spanOf_51, ↓tX8_spanOf_52, ↓tX8_spanOf_55, ↓tX8_spanOf_56, ↓tX8_spanOf_57, ↓tX8_spanOf_60, ↓tX8_spanOf_63, ↓tX8_spanOf_64, ↓tX8_spanOf_65, ↓tX8_spanOf_66, ↓tX8_spanOf_69, ↓tX8_spanOf_70, ↓tX8_spanOf_71, ↓tX8_spanOf_74, ↓tX8_spanOf_75, ↓tX8_spanOf_76, ↓tX8_spanOf_77, ↓tX8_spanOf_78, ↓tX8_spanOf_81, ↓tX8_spanOf_84, ↓tX8_spanOf_85, ↓tX8_spanOf_86, ↓tX8_spanOf_87, ↓tX8_spanOf_90, ↓tX8_spanOf_93, ↓tX8_spanOf_94, ↓oAl, ↓oCallS, ↓oCallV, ↓oIl, ↓oK, ↓oLor, ↓oLret, ↓oShl, ↓oTab, ↓q_tab_n, ↓q_tab_c, q_set_s, q_set_n, sp_0, spO_len, q_up_a, z_clamp, z_ltI, z_leI, z_eqI, z_lt0, z_ge0, z_eq0I, z_gt0I, z_le0I, z_m1lt, z_m1ge, z_m1eq, z_m1eq', z_inT, z_add, z_sub, z_mul, z_div, z_rem, n_ltT, n_ltF, n_leT, n_leF, n_eqT, n_eqF, z_11, q_tl_i, q_tl_n, q_ap_n, q_ap_c, h1, h2, h3]
    refine c8_of (by omega) hn ?_
    rw [x1]
    refine q_X.run sX8_spanOf [] 20 ?_
    simp (maxSteps := 10000000) (disch := omega) only [↓q_run_s, q_stop_n, q_stop_c, q_lg_c, q_ls_d, q_ld_n, q_ld_c, q_cat_i, q_cat_r, q_cat_n, q_wd_n, q_wd_c, q_bx_1, q_bx_2, q_bx_3, q_bx_4, q_bx_5, q_bx_6, q_bx_7, q_bx_8, q_pop_0, q_pop_s, ↓reduceIte, Nat.reduceEqDiff, reduceCtorEq, eq_self, Bool.false_eq_true, Nat.reduceAdd, Nat.reduceSub, Nat.reduceMul, Nat.reduceLeDiff, Nat.reduceLT, Nat.le_refl, Nat.zero_le, true_and, and_true, false_and, and_false, or_false, false_or, true_or, or_true, not_true_eq_false, not_false_eq_true, if_true, if_false, List.getElem?_cons_zero, List.getElem?_cons_succ, List.set_cons_zero, List.set_cons_succ, List.length_cons, List.length_nil, ↓tX8_spanOf_0, ↓tX8_spanOf_1, ↓tX8_spanOf_36, ↓tX8_spanOf_37, ↓tX8_spanOf_38, ↓tX8_spanOf_39, ↓tX8_spanOf_40, ↓tX8_spanOf_43, ↓tX8_spanOf_44, ↓tX8_spanOf_45, ↓tX8_spanOf_46, ↓tX8_spanOf_49, ↓tX8_spanOf_50, ↓tX8_spanOf_51, ↓tX8_spanOf_52, ↓tX8_spanOf_55, ↓tX8_spanOf_56, ↓tX8_spanOf_57, ↓tX8_spanOf_60, ↓tX8_spanOf_63, ↓tX8_spanOf_64, ↓tX8_spanOf_65, ↓tX8_spanOf_66, ↓tX8_spanOf_69, ↓tX8_spanOf_70, ↓tX8_spanOf_71, ↓tX8_spanOf_74, ↓tX8_spanOf_75, ↓tX8_spanOf_76, ↓tX8_spanOf_77, ↓tX8_spanOf_78, ↓tX8_spanOf_81, ↓tX8_spanOf_84, ↓tX8_spanOf_85, ↓tX8_spanOf_86, ↓tX8_spanOf_87, ↓tX8_spanOf_90, ↓tX8_spanOf_93, ↓tX8_spanOf_94, ↓oAl, ↓oCallS, ↓oCallV, ↓oIl, ↓oK, ↓oLor, ↓oLret, ↓oShl, ↓oTab, ↓q_tab_n, ↓q_tab_c, q_set_s, q_set_n, sp_0, spO_len, q_up_a, z_clamp, z_ltI, z_leI, z_eqI, z_lt0, z_ge0, z_eq0I, z_gt0I, z_le0I, z_m1lt, z_m1ge, z_m1eq, z_m1eq', z_inT, z_add, z_sub, z_mul, z_div, z_rem, n_ltT, n_ltF, n_leT, n_leF, n_eqT, n_eqF, z_11, q_tl_i, q_tl_n, q_ap_n, q_ap_c, q_cat_l]
    refine c8_of (by omega) hn ?_
    rw [y1]
    refine q_X.run sX8_spanOf [] 20 ?_
    simp (maxSteps := 10000000) (disch := omega) only [↓q_run_s, q_stop_n, q_stop_c, q_lg_c, q_ls_d, q_ld_n, q_ld_c, q_cat_i, q_cat_r, q_cat_n, q_wd_n, q_wd_c, q_bx_1, q_bx_2, q_bx_3, q_bx_4, q_bx_5, q_bx_6, q_bx_7, q_bx_8, q_pop_0, q_pop_s, ↓reduceIte, Nat.reduceEqDiff, reduceCtorEq, eq_self, Bool.false_eq_true, Nat.reduceAdd, Nat.reduceSub, Nat.reduceMul, Nat.reduceLeDiff, Nat.reduceLT, Nat.le_refl, Nat.zero_le, true_and, and_true, false_and, and_false, or_false, false_or, true_or, or_true, not_true_eq_false, not_false_eq_true, if_true, if_false, List.getElem?_cons_zero, List.getElem?_cons_succ, List.set_cons_zero, List.set_cons_succ, List.length_cons, List.length_nil, ↓tX8_spanOf_0, ↓tX8_spanOf_1, ↓tX8_spanOf_36, ↓tX8_spanOf_37, ↓tX8_spanOf_38, ↓tX8_spanOf_39, ↓tX8_spanOf_40, ↓tX8_spanOf_43, ↓tX8_spanOf_44, ↓tX8_spanOf_45, ↓tX8_spanOf_46, ↓tX8_spanOf_49, ↓tX8_spanOf_50, ↓tX8_spanOf_51, ↓tX8_spanOf_52, ↓tX8_spanOf_55, ↓tX8_spanOf_56, ↓tX8_spanOf_57, ↓tX8_spanOf_60, ↓tX8_spanOf_63, ↓tX8_spanOf_64, ↓tX8_spanOf_65, ↓tX8_spanOf_66, ↓tX8_spanOf_69, ↓tX8_spanOf_70, ↓tX8_spanOf_71, ↓tX8_spanOf_74, ↓tX8_spanOf_75, ↓tX8_spanOf_76, ↓tX8_spanOf_77, ↓tX8_spanOf_78, ↓tX8_spanOf_81, ↓tX8_spanOf_84, ↓tX8_spanOf_85, ↓tX8_spanOf_86, ↓tX8_spanOf_87, ↓tX8_spanOf_90, ↓tX8_spanOf_93, ↓tX8_spanOf_94, ↓oAl, ↓oCallS, ↓oCallV, ↓oIl, ↓oK, ↓oLor, ↓oLret, ↓oShl, ↓oTab, ↓q_tab_n, ↓q_tab_c, q_set_s, q_set_n, sp_0, spO_len, q_up_a, z_clamp, z_ltI, z_leI, z_eqI, z_lt0, z_ge0, z_eq0I, z_gt0I, z_le0I, z_m1lt, z_m1ge, z_m1eq, z_m1eq', z_inT, z_add, z_sub, z_mul, z_div, z_rem, n_ltT, n_ltF, n_leT, n_leF, n_eqT, n_eqF, z_11, q_tl_i, q_tl_n, q_ap_n, q_ap_c, q_cat_l]
    refine c8_behind x2.1 y2.1 ?_
    have h' := hQ _ (s_W_beh hl x2 y2 fun b e h => (t_Sp_le x b e h).2)
    refine q_X.run sX8_spanOf [] 20 ?_
    simp (maxSteps := 10000000) (disch := omega) only [↓q_run_s, q_stop_n, q_stop_c, q_lg_c, q_ls_d, q_ld_n, q_ld_c, q_cat_i, q_cat_r, q_cat_n, q_wd_n, q_wd_c, q_bx_1, q_bx_2, q_bx_3, q_bx_4, q_bx_5, q_bx_6, q_bx_7, q_bx_8, q_pop_0, q_pop_s, ↓reduceIte, Nat.reduceEqDiff, reduceCtorEq, eq_self, Bool.false_eq_true, Nat.reduceAdd, Nat.reduceSub, Nat.reduceMul, Nat.reduceLeDiff, Nat.reduceLT, Nat.le_refl, Nat.zero_le, true_and, and_true, false_and, and_false, or_false, false_or, true_or, or_true, not_true_eq_false, not_false_eq_true, if_true, if_false, List.getElem?_cons_zero, List.getElem?_cons_succ, List.set_cons_zero, List.set_cons_succ, List.length_cons, List.length_nil, ↓tX8_spanOf_0, ↓tX8_spanOf_1, ↓tX8_spanOf_36, ↓tX8_spanOf_37, ↓tX8_spanOf_38, ↓tX8_spanOf_39, ↓tX8_spanOf_40, ↓tX8_spanOf_43, ↓tX8_spanOf_44, ↓tX8_spanOf_45, ↓tX8_spanOf_46, ↓tX8_spanOf_49, ↓tX8_spanOf_50, ↓tX8_spanOf_51, ↓tX8_spanOf_52, ↓tX8_spanOf_55, ↓tX8_spanOf_56, ↓tX8_spanOf_57, ↓tX8_spanOf_60, ↓tX8_spanOf_63, ↓tX8_spanOf_64, ↓tX8_spanOf_65, ↓tX8_spanOf_66, ↓tX8_spanOf_69, ↓tX8_spanOf_70, ↓tX8_spanOf_71, ↓tX8_spanOf_74, ↓tX8_spanOf_75, ↓tX8_spanOf_76, ↓tX8_spanOf_77, ↓tX8_spanOf_78, ↓tX8_spanOf_81, ↓tX8_spanOf_84, ↓tX8_spanOf_85, ↓tX8_spanOf_86, ↓tX8_spanOf_87, ↓tX8_spanOf_90, ↓tX8_spanOf_93, ↓tX8_spanOf_94, ↓oAl, ↓oCallS, ↓oCallV, ↓oIl, ↓oK, ↓oLor, ↓oLret, ↓oShl, ↓oTab, ↓q_tab_n, ↓q_tab_c, q_set_s, q_set_n, sp_0, spO_len, q_up_a, z_clamp, z_ltI, z_leI, z_eqI, z_lt0, z_ge0, z_eq0I, z_gt0I, z_le0I, z_m1lt, z_m1ge, z_m1eq, z_m1eq', z_inT, z_add, z_sub, z_mul, z_div, z_rem, n_ltT, n_ltF, n_leT, n_leF, n_eqT, n_eqF, z_11, q_tl_i, q_tl_n, q_ap_n, q_ap_c]
    exact h'
  | sub x y =>
    obtain ⟨a, b, -, a1, -, b1, ⟨h1, h2, h3⟩, e1, e2⟩ := ht
    obtain ⟨X, x1, x2⟩ := hF a a1
    obtain ⟨Y, y1, y2⟩ := hF b b1
    rw [e1] at x2
    rw [e2] at y2
    refine q_X.run sX8_spanOf [] 20 ?_
    simp (maxSteps := 10000000) (disch := omega) only [↓q_run_s, q_stop_n, q_stop_c, q_lg_c, q_ls_d, q_ld_n, q_ld_c, q_cat_i, q_cat_r, q_cat_n, q_wd_n, q_wd_c, q_bx_1, q_bx_2, q_bx_3, q_bx_4, q_bx_5, q_bx_6, q_bx_7, q_bx_8, q_pop_0, q_pop_s, ↓reduceIte, Nat.reduceEqDiff, reduceCtorEq, eq_self, Bool.false_eq_true, Nat.reduceAdd, Nat.reduceSub, Nat.reduceMul, Nat.reduceLeDiff, Nat.reduceLT, Nat.le_refl, Nat.zero_le, true_and, and_true, false_and, and_false, or_false, false_or, true_or, or_true, not_true_eq_false, not_false_eq_true, if_true, if_false, List.getElem?_cons_zero, List.getElem?_cons_succ, List.set_cons_zero, List.set_cons_succ, List.length_cons, List.length_nil, ↓tX8_spanOf_0, ↓tX8_spanOf_1, ↓tX8_spanOf_36, ↓tX8_spanOf_37, ↓tX8_spanOf_38, ↓tX8_spanOf_39, ↓tX8_spanOf_40, ↓tX8_spanOf_43, ↓tX8_spanOf_44, ↓tX8_spanOf_45, ↓tX8_spanOf_46, ↓tX8_spanOf_49, ↓tX8_spanOf_50, ↓tX8_spanOf_51, ↓tX8_spanOf_52, ↓tX8_spanOf_55, ↓tX8_spanOf_56, ↓tX8_spanOf_57, ↓tX8_spanOf_60, ↓tX8_spanOf_63, ↓tX8_spanOf_64, ↓tX8_spanOf_65, ↓tX8_spanOf_66, ↓tX8_spanOf_69, ↓tX8_spanOf_70, ↓tX8_spanOf_71, ↓tX8_spanOf_74, ↓tX8_spanOf_75, ↓tX8_spanOf_76, ↓tX8_spanOf_77, ↓tX8_spanOf_78, ↓tX8_spanOf_81, ↓tX8_spanOf_84, ↓tX8_spanOf_85, ↓tX8_spanOf_86, ↓tX8_spanOf_87, ↓tX8_spanOf_90, ↓tX8_spanOf_93, ↓tX8_spanOf_94, ↓oAl, ↓oCallS, ↓oCallV, ↓oIl, ↓oK, ↓oLor, ↓oLret, ↓oShl, ↓oTab, ↓q_tab_n, ↓q_tab_c, q_set_s, q_set_n, sp_0, spO_len, q_up_a, z_clamp, z_ltI, z_leI, z_eqI, z_lt0, z_ge0, z_eq0I, z_gt0I, z_le0I, z_m1lt, z_m1ge, z_m1eq, z_m1eq', z_inT, z_add, z_sub, z_mul, z_div, z_rem, n_ltT, n_ltF, n_leT, n_leF, n_eqT, n_eqF, z_11, q_tl_i, q_tl_n, q_ap_n, q_ap_c, h1, h2, h3]
    refine c8_of (by omega) hn ?_
    rw [x1]
    refine q_X.run sX8_spanOf [] 20 ?_
    simp (maxSteps := 10000000) (disch := omega) only [↓q_run_s, q_stop_n, q_stop_c, q_lg_c, q_ls_d, q_ld_n, q_ld_c, q_cat_i, q_cat_r, q_cat_n, q_wd_n, q_wd_c, q_bx_1, q_bx_2, q_bx_3, q_bx_4, q_bx_5, q_bx_6, q_bx_7, q_bx_8, q_pop_0, q_pop_s, ↓reduceIte, Nat.reduceEqDiff, reduceCtorEq, eq_self, Bool.false_eq_true, Nat.reduceAdd, Nat.reduceSub, Nat.reduceMul, Nat.reduceLeDiff, Nat.reduceLT, Nat.le_refl, Nat.zero_le, true_and, and_true, false_and, and_false, or_false, false_or, true_or, or_true, not_true_eq_false, not_false_eq_true, if_true, if_false, List.getElem?_cons_zero, List.getElem?_cons_succ, List.set_cons_zero, List.set_cons_succ, List.length_cons, List.length_nil, ↓tX8_spanOf_0, ↓tX8_spanOf_1, ↓tX8_spanOf_36, ↓tX8_spanOf_37, ↓tX8_spanOf_38, ↓tX8_spanOf_39, ↓tX8_spanOf_40, ↓tX8_spanOf_43, ↓tX8_spanOf_44, ↓tX8_spanOf_45, ↓tX8_spanOf_46, ↓tX8_spanOf_49, ↓tX8_spanOf_50, ↓tX8_spanOf_51, ↓tX8_spanOf_52, ↓tX8_spanOf_55, ↓tX8_spanOf_56, ↓tX8_spanOf_57, ↓tX8_spanOf_60, ↓tX8_spanOf_63, ↓tX8_spanOf_64, ↓tX8_spanOf_65, ↓tX8_spanOf_66, ↓tX8_spanOf_69, ↓tX8_spanOf_70, ↓tX8_spanOf_71, ↓tX8_spanOf_74, ↓tX8_spanOf_75, ↓tX8_spanOf_76, ↓tX8_spanOf_77, ↓tX8_spanOf_78, ↓tX8_spanOf_81, ↓tX8_spanOf_84, ↓tX8_spanOf_85, ↓tX8_spanOf_86, ↓tX8_spanOf_87, ↓tX8_spanOf_90, ↓tX8_spanOf_93, ↓tX8_spanOf_94, ↓oAl, ↓oCallS, ↓oCallV, ↓oIl, ↓oK, ↓oLor, ↓oLret, ↓oShl, ↓oTab, ↓q_tab_n, ↓q_tab_c, q_set_s, q_set_n, sp_0, spO_len, q_up_a, z_clamp, z_ltI, z_leI, z_eqI, z_lt0, z_ge0, z_eq0I, z_gt0I, z_le0I, z_m1lt, z_m1ge, z_m1eq, z_m1eq', z_inT, z_add, z_sub, z_mul, z_div, z_rem, n_ltT, n_ltF, n_leT, n_leF, n_eqT, n_eqF, z_11, q_tl_i, q_tl_n, q_ap_n, q_ap_c, q_cat_l]
    refine c8_of (by omega) hn ?_
    rw [y1]
    have h' := hQ _ (s_W_or x2 y2)
    refine q_X.run sX8_spanOf [] 20 ?_
    simp (maxSteps := 10000000) (disch := omega) only [↓q_run_s, q_stop_n, q_stop_c, q_lg_c, q_ls_d, q_ld_n, q_ld_c, q_cat_i, q_cat_r, q_cat_n, q_wd_n, q_wd_c, q_bx_1, q_bx_2, q_bx_3, q_bx_4, q_bx_5, q_bx_6, q_bx_7, q_bx_8, q_pop_0, q_pop_s, ↓reduceIte, Nat.reduceEqDiff, reduceCtorEq, eq_self, Bool.false_eq_true, Nat.reduceAdd, Nat.reduceSub, Nat.reduceMul, Nat.reduceLeDiff, Nat.reduceLT, Nat.le_refl, Nat.zero_le, true_and, and_true, false_and, and_false, or_false, false_or, true_or, or_true, not_true_eq_false, not_false_eq_true, if_true, if_false, List.getElem?_cons_zero, List.getElem?_cons_succ, List.set_cons_zero, List.set_cons_succ, List.length_cons, List.length_nil, ↓tX8_spanOf_0, ↓tX8_spanOf_1, ↓tX8_spanOf_36, ↓tX8_spanOf_37, ↓tX8_spanOf_38, ↓tX8_spanOf_39, ↓tX8_spanOf_40, ↓tX8_spanOf_43, ↓tX8_spanOf_44, ↓tX8_spanOf_45, ↓tX8_spanOf_46, ↓tX8_spanOf_49, ↓tX8_spanOf_50, ↓tX8_spanOf_51, ↓tX8_spanOf_52, ↓tX8_spanOf_55, ↓tX8_spanOf_56, ↓tX8_spanOf_57, ↓tX8_spanOf_60, ↓tX8_spanOf_63, ↓tX8_spanOf_64, ↓tX8_spanOf_65, ↓tX8_spanOf_66, ↓tX8_spanOf_69, ↓tX8_spanOf_70, ↓tX8_spanOf_71, ↓tX8_spanOf_74, ↓tX8_spanOf_75, ↓tX8_spanOf_76, ↓tX8_spanOf_77, ↓tX8_spanOf_78, ↓tX8_spanOf_81, ↓tX8_spanOf_84, ↓tX8_spanOf_85, ↓tX8_spanOf_86, ↓tX8_spanOf_87, ↓tX8_spanOf_90, ↓tX8_spanOf_93, ↓tX8_spanOf_94, ↓oAl, ↓oCallS, ↓oCallV, ↓oIl, ↓oK, ↓oLor, ↓oLret, ↓oShl, ↓oTab, ↓q_tab_n, ↓q_tab_c, q_set_s, q_set_n, sp_0, spO_len, q_up_a, z_clamp, z_ltI, z_leI, z_eqI, z_lt0, z_ge0, z_eq0I, z_gt0I, z_le0I, z_m1lt, z_m1ge, z_m1eq, z_m1eq', z_inT, z_add, z_sub, z_mul, z_div, z_rem, n_ltT, n_ltF, n_leT, n_leF, n_eqT, n_eqF, z_11, q_tl_i, q_tl_n, q_ap_n, q_ap_c, q_cat_l, l_or]
    exact h'
  | neg x =>
    obtain ⟨a, -, a1, ⟨h1, h2, h3⟩, e1⟩ := ht
    obtain ⟨X, x1, x2⟩ := hF a a1
    rw [e1] at x2
    refine q_X.run sX8_spanOf [] 20 ?_
    simp (maxSteps := 10000000) (disch := omega) only [↓q_run_s, q_stop_n, q_stop_c, q_lg_c, q_ls_d, q_ld_n, q_ld_c, q_cat_i, q_cat_r, q_cat_n, q_wd_n, q_wd_c, q_bx_1, q_bx_2, q_bx_3, q_bx_4, q_bx_5, q_bx_6, q_bx_7, q_bx_8, q_pop_0, q_pop_s, ↓reduceIte, Nat.reduceEqDiff, reduceCtorEq, eq_self, Bool.false_eq_true, Nat.reduceAdd, Nat.reduceSub, Nat.reduceMul, Nat.reduceLeDiff, Nat.reduceLT, Nat.le_refl, Nat.zero_le, true_and, and_true, false_and, and_false, or_false, false_or, true_or, or_true, not_true_eq_false, not_false_eq_true, if_true, if_false, List.getElem?_cons_zero, List.getElem?_cons_succ, List.set_cons_zero, List.set_cons_succ, List.length_cons, List.length_nil, ↓tX8_spanOf_0, ↓tX8_spanOf_1, ↓tX8_spanOf_36, ↓tX8_spanOf_37, ↓tX8_spanOf_38, ↓tX8_spanOf_39, ↓tX8_spanOf_40, ↓tX8_spanOf_43, ↓tX8_spanOf_44, ↓tX8_spanOf_45, ↓tX8_spanOf_46, ↓tX8_spanOf_49, ↓tX8_spanOf_50, ↓tX8_spanOf_51, ↓tX8_spanOf_52, ↓tX8_spanOf_55, ↓tX8_spanOf_56, ↓tX8_spanOf_57, ↓tX8_spanOf_60, ↓tX8_spanOf_63, ↓tX8_spanOf_64, ↓tX8_spanOf_65, ↓tX8_spanOf_66, ↓tX8_spanOf_69, ↓tX8_spanOf_70, ↓tX8_spanOf_71, ↓tX8_spanOf_74, ↓tX8_spanOf_75, ↓tX8_spanOf_76, ↓tX8_spanOf_77, ↓tX8_spanOf_78, ↓tX8_spanOf_81, ↓tX8_spanOf_84, ↓tX8_spanOf_85, ↓tX8_spanOf_86, ↓tX8_spanOf_87, ↓tX8_spanOf_90, ↓tX8_spanOf_93, ↓tX8_spanOf_94, ↓oAl, ↓oCallS, ↓oCallV, ↓oIl, ↓oK, ↓oLor, ↓oLret, ↓oShl, ↓oTab, ↓q_tab_n, ↓q_tab_c, q_set_s, q_set_n, sp_0, spO_len, q_up_a, z_clamp, z_ltI, z_leI, z_eqI, z_lt0, z_ge0, z_eq0I, z_gt0I, z_le0I, z_m1lt, z_m1ge, z_m1eq, z_m1eq', z_inT, z_add, z_sub, z_mul, z_div, z_rem, n_ltT, n_ltF, n_leT, n_leF, n_eqT, n_eqF, z_11, q_tl_i, q_tl_n, q_ap_n, q_ap_c, h1, h2, h3]
    refine c8_of (by omega) hn ?_
    rw [x1]
    refine q_X.run sX8_spanOf [] 20 ?_
    simp (maxSteps := 10000000) (disch := omega) only [↓q_run_s, q_stop_n, q_stop_c, q_lg_c, q_ls_d, q_ld_n, q_ld_c, q_cat_i, q_cat_r, q_cat_n, q_wd_n, q_wd_c, q_bx_1, q_bx_2, q_bx_3, q_bx_4, q_bx_5, q_bx_6, q_bx_7, q_bx_8, q_pop_0, q_pop_s, ↓reduceIte, Nat.reduceEqDiff, reduceCtorEq, eq_self, Bool.false_eq_true, Nat.reduceAdd, Nat.reduceSub, Nat.reduceMul, Nat.reduceLeDiff, Nat.reduceLT, Nat.le_refl, Nat.zero_le, true_and, and_true, false_and, and_false, or_false, false_or, true_or, or_true, not_true_eq_false, not_false_eq_true, if_true, if_false, List.getElem?_cons_zero, List.getElem?_cons_succ, List.set_cons_zero, List.set_cons_succ, List.length_cons, List.length_nil, ↓tX8_spanOf_0, ↓tX8_spanOf_1, ↓tX8_spanOf_36, ↓tX8_spanOf_37, ↓tX8_spanOf_38, ↓tX8_spanOf_39, ↓tX8_spanOf_40, ↓tX8_spanOf_43, ↓tX8_spanOf_44, ↓tX8_spanOf_45, ↓tX8_spanOf_46, ↓tX8_spanOf_49, ↓tX8_spanOf_50, ↓tX8_spanOf_51, ↓tX8_spanOf_52, ↓tX8_spanOf_55, ↓tX8_spanOf_56, ↓tX8_spanOf_57, ↓tX8_spanOf_60, ↓tX8_spanOf_63, ↓tX8_spanOf_64, ↓tX8_spanOf_65, ↓tX8_spanOf_66, ↓tX8_spanOf_69, ↓tX8_spanOf_70, ↓tX8_spanOf_71, ↓tX8_spanOf_74, ↓tX8_spanOf_75, ↓tX8_spanOf_76, ↓tX8_spanOf_77, ↓tX8_spanOf_78, ↓tX8_spanOf_81, ↓tX8_spanOf_84, ↓tX8_spanOf_85, ↓tX8_spanOf_86, ↓tX8_spanOf_87, ↓tX8_spanOf_90, ↓tX8_spanOf_93, ↓tX8_spanOf_94, ↓oAl, ↓oCallS, ↓oCallV, ↓oIl, ↓oK, ↓oLor, ↓oLret, ↓oShl, ↓oTab, ↓q_tab_n, ↓q_tab_c, q_set_s, q_set_n, sp_0, spO_len, q_up_a, z_clamp, z_ltI, z_leI, z_eqI, z_lt0, z_ge0, z_eq0I, z_gt0I, z_le0I, z_m1lt, z_m1ge, z_m1eq, z_m1eq', z_inT, z_add, z_sub, z_mul, z_div, z_rem, n_ltT, n_ltF, n_leT, n_leF, n_eqT, n_eqF, z_11, q_tl_i, q_tl_n, q_ap_n, q_ap_c, q_cat_l]
    refine c8_again x2.1 (by omega) ?_
    have h' := hQ _ (s_W_ag hl x2 (t_Sp_le x))
    refine q_X.run sX8_spanOf [] 20 ?_
    simp (maxSteps := 10000000) (disch := omega) only [↓q_run_s, q_stop_n, q_stop_c, q_lg_c, q_ls_d, q_ld_n, q_ld_c, q_cat_i, q_cat_r, q_cat_n, q_wd_n, q_wd_c, q_bx_1, q_bx_2, q_bx_3, q_bx_4, q_bx_5, q_bx_6, q_bx_7, q_bx_8, q_pop_0, q_pop_s, ↓reduceIte, Nat.reduceEqDiff, reduceCtorEq, eq_self, Bool.false_eq_true, Nat.reduceAdd, Nat.reduceSub, Nat.reduceMul, Nat.reduceLeDiff, Nat.reduceLT, Nat.le_refl, Nat.zero_le, true_and, and_true, false_and, and_false, or_false, false_or, true_or, or_true, not_true_eq_false, not_false_eq_true, if_true, if_false, List.getElem?_cons_zero, List.getElem?_cons_succ, List.set_cons_zero, List.set_cons_succ, List.length_cons, List.length_nil, ↓tX8_spanOf_0, ↓tX8_spanOf_1, ↓tX8_spanOf_36, ↓tX8_spanOf_37, ↓tX8_spanOf_38, ↓tX8_spanOf_39, ↓tX8_spanOf_40, ↓tX8_spanOf_43, ↓tX8_spanOf_44, ↓tX8_spanOf_45, ↓tX8_spanOf_46, ↓tX8_spanOf_49, ↓tX8_spanOf_50, ↓tX8_spanOf_51, ↓tX8_spanOf_52, ↓tX8_spanOf_55, ↓tX8_spanOf_56, ↓tX8_spanOf_57, ↓tX8_spanOf_60, ↓tX8_spanOf_63, ↓tX8_spanOf_64, ↓tX8_spanOf_65, ↓tX8_spanOf_66, ↓tX8_spanOf_69, ↓tX8_spanOf_70, ↓tX8_spanOf_71, ↓tX8_spanOf_74, ↓tX8_spanOf_75, ↓tX8_spanOf_76, ↓tX8_spanOf_77, ↓tX8_spanOf_78, ↓tX8_spanOf_81, ↓tX8_spanOf_84, ↓tX8_spanOf_85, ↓tX8_spanOf_86, ↓tX8_spanOf_87, ↓tX8_spanOf_90, ↓tX8_spanOf_93, ↓tX8_spanOf_94, ↓oAl, ↓oCallS, ↓oCallV, ↓oIl, ↓oK, ↓oLor, ↓oLret, ↓oShl, ↓oTab, ↓q_tab_n, ↓q_tab_c, q_set_s, q_set_n, sp_0, spO_len, q_up_a, z_clamp, z_ltI, z_leI, z_eqI, z_lt0, z_ge0, z_eq0I, z_gt0I, z_le0I, z_m1lt, z_m1ge, z_m1eq, z_m1eq', z_inT, z_add, z_sub, z_mul, z_div, z_rem, n_ltT, n_ltF, n_leT, n_leF, n_eqT, n_eqF, z_11, q_tl_i, q_tl_n, q_ap_n, q_ap_c]
    exact h'
  | mulL c x =>
    obtain ⟨a, -, a1, ⟨h1, h2, h3⟩, e1⟩ := ht
    obtain ⟨X, x1, x2⟩ := hF a a1
    rw [e1] at x2
    refine q_X.run sX8_spanOf [] 20 ?_
    simp (maxSteps := 10000000) (disch := omega) only [↓q_run_s, q_stop_n, q_stop_c, q_lg_c, q_ls_d, q_ld_n, q_ld_c, q_cat_i, q_cat_r, q_cat_n, q_wd_n, q_wd_c, q_bx_1, q_bx_2, q_bx_3, q_bx_4, q_bx_5, q_bx_6, q_bx_7, q_bx_8, q_pop_0, q_pop_s, ↓reduceIte, Nat.reduceEqDiff, reduceCtorEq, eq_self, Bool.false_eq_true, Nat.reduceAdd, Nat.reduceSub, Nat.reduceMul, Nat.reduceLeDiff, Nat.reduceLT, Nat.le_refl, Nat.zero_le, true_and, and_true, false_and, and_false, or_false, false_or, true_or, or_true, not_true_eq_false, not_false_eq_true, if_true, if_false, List.getElem?_cons_zero, List.getElem?_cons_succ, List.set_cons_zero, List.set_cons_succ, List.length_cons, List.length_nil, ↓tX8_spanOf_0, ↓tX8_spanOf_1, ↓tX8_spanOf_36, ↓tX8_spanOf_37, ↓tX8_spanOf_38, ↓tX8_spanOf_39, ↓tX8_spanOf_40, ↓tX8_spanOf_43, ↓tX8_spanOf_44, ↓tX8_spanOf_45, ↓tX8_spanOf_46, ↓tX8_spanOf_49, ↓tX8_spanOf_50, ↓tX8_spanOf_51, ↓tX8_spanOf_52, ↓tX8_spanOf_55, ↓tX8_spanOf_56, ↓tX8_spanOf_57, ↓tX8_spanOf_60, ↓tX8_spanOf_63, ↓tX8_spanOf_64, ↓tX8_spanOf_65, ↓tX8_spanOf_66, ↓tX8_spanOf_69, ↓tX8_spanOf_70, ↓tX8_spanOf_71, ↓tX8_spanOf_74, ↓tX8_spanOf_75, ↓tX8_spanOf_76, ↓tX8_spanOf_77, ↓tX8_spanOf_78, ↓tX8_spanOf_81, ↓tX8_spanOf_84, ↓tX8_spanOf_85, ↓tX8_spanOf_86, ↓tX8_spanOf_87, ↓tX8_spanOf_90, ↓tX8_spanOf_93, ↓tX8_spanOf_94, ↓oAl, ↓oCallS, ↓oCallV, ↓oIl, ↓oK, ↓oLor, ↓oLret, ↓oShl, ↓oTab, ↓q_tab_n, ↓q_tab_c, q_set_s, q_set_n, sp_0, spO_len, q_up_a, z_clamp, z_ltI, z_leI, z_eqI, z_lt0, z_ge0, z_eq0I, z_gt0I, z_le0I, z_m1lt, z_m1ge, z_m1eq, z_m1eq', z_inT, z_add, z_sub, z_mul, z_div, z_rem, n_ltT, n_ltF, n_leT, n_leF, n_eqT, n_eqF, z_11, q_tl_i, q_tl_n, q_ap_n, q_ap_c, h1, h2, h3]
    refine c8_of (by omega) hn ?_
    rw [x1]
    have hM : s_W len 9241421688590303745 (fun b e => b = e ∧ b ≤ len) := ⟨by decide, fun b e hb he => by
      rw [l_MP]
      exact ⟨fun h => ⟨by omega, hb⟩, fun h => ⟨by omega, by omega⟩⟩⟩
    have h' := hQ _ (s_W_or x2 hM)
    refine q_X.run sX8_spanOf [] 20 ?_
    simp (maxSteps := 10000000) (disch := omega) only [↓q_run_s, q_stop_n, q_stop_c, q_lg_c, q_ls_d, q_ld_n, q_ld_c, q_cat_i, q_cat_r, q_cat_n, q_wd_n, q_wd_c, q_bx_1, q_bx_2, q_bx_3, q_bx_4, q_bx_5, q_bx_6, q_bx_7, q_bx_8, q_pop_0, q_pop_s, ↓reduceIte, Nat.reduceEqDiff, reduceCtorEq, eq_self, Bool.false_eq_true, Nat.reduceAdd, Nat.reduceSub, Nat.reduceMul, Nat.reduceLeDiff, Nat.reduceLT, Nat.le_refl, Nat.zero_le, true_and, and_true, false_and, and_false, or_false, false_or, true_or, or_true, not_true_eq_false, not_false_eq_true, if_true, if_false, List.getElem?_cons_zero, List.getElem?_cons_succ, List.set_cons_zero, List.set_cons_succ, List.length_cons, List.length_nil, ↓tX8_spanOf_0, ↓tX8_spanOf_1, ↓tX8_spanOf_36, ↓tX8_spanOf_37, ↓tX8_spanOf_38, ↓tX8_spanOf_39, ↓tX8_spanOf_40, ↓tX8_spanOf_43, ↓tX8_spanOf_44, ↓tX8_spanOf_45, ↓tX8_spanOf_46, ↓tX8_spanOf_49, ↓tX8_spanOf_50, ↓tX8_spanOf_51, ↓tX8_spanOf_52, ↓tX8_spanOf_55, ↓tX8_spanOf_56, ↓tX8_spanOf_57, ↓tX8_spanOf_60, ↓tX8_spanOf_63, ↓tX8_spanOf_64, ↓tX8_spanOf_65, ↓tX8_spanOf_66, ↓tX8_spanOf_69, ↓tX8_spanOf_70, ↓tX8_spanOf_71, ↓tX8_spanOf_74, ↓tX8_spanOf_75, ↓tX8_spanOf_76, ↓tX8_spanOf_77, ↓tX8_spanOf_78, ↓tX8_spanOf_81, ↓tX8_spanOf_84, ↓tX8_spanOf_85, ↓tX8_spanOf_86, ↓tX8_spanOf_87, ↓tX8_spanOf_90, ↓tX8_spanOf_93, ↓tX8_spanOf_94, ↓oAl, ↓oCallS, ↓oCallV, ↓oIl, ↓oK, ↓oLor, ↓oLret, ↓oShl, ↓oTab, ↓q_tab_n, ↓q_tab_c, q_set_s, q_set_n, sp_0, spO_len, q_up_a, z_clamp, z_ltI, z_leI, z_eqI, z_lt0, z_ge0, z_eq0I, z_gt0I, z_le0I, z_m1lt, z_m1ge, z_m1eq, z_m1eq', z_inT, z_add, z_sub, z_mul, z_div, z_rem, n_ltT, n_ltF, n_leT, n_leF, n_eqT, n_eqF, z_11, q_tl_i, q_tl_n, q_ap_n, q_ap_c, q_cat_l, l_cM, l_or]
    exact h'
  | mulR x c => exact ht.elim
set_option maxRecDepth 100000 in
set_option maxHeartbeats 8000000 in
theorem c8_fill {j nn sz : Nat} (hN : q_isN M0 j nn k l r sz) (hs : sz ≤ nn) (hnn : nn < 100000) (hsn : sz ≤ n) (hn : n < 100000) (hdj : j + 4 ≤ i ∨ i + 3 ≤ j) (hl : len ≤ 6) (hw : ∀ b, b < len → w b < 3) (hL : s_Lt w len B) (ht : ∀ q, q < sz → t_loc k l r τ 0 q (τ q)) (hd : 3 ≤ d) (hQ : ∀ B', B' 1 = B 1 → s_Fl w len τ B' sz → Q none (q_sp M0 i n B')) : q_Call G L d mX8_fill 0 0 [.ref i, .ref j] (q_sp M0 i n B) Q := by
  have hN' := fun (B : Nat → Nat → Int64) => sp_isN (n := n) (B := B) hN hdj
  have hj := fun (B : Nat → Nat → Int64) => (hN' B).1
  have loop : ∀ (g q : Nat) (B' : Nat → Nat → Int64), g + q = sz → B' 1 = B 1 → s_Fl w len τ B' q → q_X G L d mX8_fill 0 0 Q 15 [(0, .ref i), (1, .ref j), (2, .int (nI sz)), (3, .int (nI q))] [] (q_sp M0 i n B') 0 0 := by
    intro g
    induction g with
    | zero =>
      intro q B' hq hB hF
      have e : q = sz := by omega
      subst e
      have h' := hQ B' hB hF
      refine q_X.run sX8_fill [] 20 ?_
      simp (maxSteps := 10000000) (disch := omega) only [↓q_run_s, q_stop_n, q_stop_c, q_lg_c, q_ls_d, q_ld_n, q_ld_c, q_cat_i, q_cat_r, q_cat_n, q_wd_n, q_wd_c, q_bx_1, q_bx_2, q_bx_3, q_bx_4, q_bx_5, q_bx_6, q_bx_7, q_bx_8, q_pop_0, q_pop_s, ↓reduceIte, Nat.reduceEqDiff, reduceCtorEq, eq_self, Bool.false_eq_true, Nat.reduceAdd, Nat.reduceSub, Nat.reduceMul, Nat.reduceLeDiff, Nat.reduceLT, Nat.le_refl, Nat.zero_le, true_and, and_true, false_and, and_false, or_false, false_or, true_or, or_true, not_true_eq_false, not_false_eq_true, if_true, if_false, List.getElem?_cons_zero, List.getElem?_cons_succ, List.set_cons_zero, List.set_cons_succ, List.length_cons, List.length_nil, ↓tX8_fill_0, ↓tX8_fill_1, ↓tX8_fill_4, ↓tX8_fill_5, ↓tX8_fill_8, ↓tX8_fill_9, ↓tX8_fill_12, ↓tX8_fill_13, ↓tX8_fill_14, ↓tX8_fill_15, ↓tX8_fill_16, ↓tX8_fill_17, ↓tX8_fill_20, ↓tX8_fill_21, ↓tX8_fill_24, ↓tX8_fill_25, ↓tX8_fill_26, ↓tX8_fill_27, ↓tX8_fill_28, ↓tX8_fill_31, ↓tX8_fill_32, ↓tX8_fill_33, ↓tX8_fill_36, ↓tX8_fill_37, ↓tX8_fill_38, ↓tX8_fill_41, ↓tX8_fill_44, ↓tX8_fill_45, ↓tX8_fill_48, ↓tX8_fill_51, ↓oAl, ↓oAlen, ↓oCallV, ↓oGet, ↓oGo, ↓oIf2ge, ↓oIl, ↓oInc, ↓oIs, ↓oK, ↓oLast, ↓oMin, ↓oVret, q_set_s, q_set_n, sp_0, spO_len, q_up_a, spO_0, sp_a0, sps_a0, z_clamp, z_ltI, z_leI, z_eqI, z_lt0, z_ge0, z_eq0I, z_gt0I, z_le0I, z_m1lt, z_m1ge, z_m1eq, z_m1eq', z_inT, z_add, z_sub, z_mul, z_div, z_rem, n_ltT, n_ltF, n_leT, n_leF, n_eqT, n_eqF, z_11, q_tl_i, q_tl_n, q_ap_n, q_ap_c]
      exact h'
    | succ g ih =>
      intro q B' hq hB hF
      have hL' : s_Lt w len B' := fun c hc => by rw [hB]; exact hL c hc
      refine q_X.run sX8_fill [] 20 ?_
      simp (maxSteps := 10000000) (disch := omega) only [↓q_run_s, q_stop_n, q_stop_c, q_lg_c, q_ls_d, q_ld_n, q_ld_c, q_cat_i, q_cat_r, q_cat_n, q_wd_n, q_wd_c, q_bx_1, q_bx_2, q_bx_3, q_bx_4, q_bx_5, q_bx_6, q_bx_7, q_bx_8, q_pop_0, q_pop_s, ↓reduceIte, Nat.reduceEqDiff, reduceCtorEq, eq_self, Bool.false_eq_true, Nat.reduceAdd, Nat.reduceSub, Nat.reduceMul, Nat.reduceLeDiff, Nat.reduceLT, Nat.le_refl, Nat.zero_le, true_and, and_true, false_and, and_false, or_false, false_or, true_or, or_true, not_true_eq_false, not_false_eq_true, if_true, if_false, List.getElem?_cons_zero, List.getElem?_cons_succ, List.set_cons_zero, List.set_cons_succ, List.length_cons, List.length_nil, ↓tX8_fill_0, ↓tX8_fill_1, ↓tX8_fill_4, ↓tX8_fill_5, ↓tX8_fill_8, ↓tX8_fill_9, ↓tX8_fill_12, ↓tX8_fill_13, ↓tX8_fill_14, ↓tX8_fill_15, ↓tX8_fill_16, ↓tX8_fill_17, ↓tX8_fill_20, ↓tX8_fill_21, ↓tX8_fill_24, ↓tX8_fill_25, ↓tX8_fill_26, ↓tX8_fill_27, ↓tX8_fill_28, ↓tX8_fill_31, ↓tX8_fill_32, ↓tX8_fill_33, ↓tX8_fill_36, ↓tX8_fill_37, ↓tX8_fill_38, ↓tX8_fill_41, ↓tX8_fill_44, ↓tX8_fill_45, ↓tX8_fill_48, ↓tX8_fill_51, ↓oAl, ↓oAlen, ↓oCallV, ↓oGet, ↓oGo, ↓oIf2ge, ↓oIl, ↓oInc, ↓oIs, ↓oK, ↓oLast, ↓oMin, ↓oVret, q_set_s, q_set_n, sp_0, spO_len, q_up_a, spO_0, sp_a0, sps_a0, z_clamp, z_ltI, z_leI, z_eqI, z_lt0, z_ge0, z_eq0I, z_gt0I, z_le0I, z_m1lt, z_m1ge, z_m1eq, z_m1eq', z_inT, z_add, z_sub, z_mul, z_div, z_rem, n_ltT, n_ltF, n_leT, n_leF, n_eqT, n_eqF, z_11, q_tl_i, q_tl_n, q_ap_n, q_ap_c, hj]
      refine d4_kindOf (hN' _) (by omega) hs (by omega) ?_
      refine q_X.run sX8_fill [] 20 ?_
      simp (maxSteps := 10000000) (disch := omega) only [↓q_run_s, q_stop_n, q_stop_c, q_lg_c, q_ls_d, q_ld_n, q_ld_c, q_cat_i, q_cat_r, q_cat_n, q_wd_n, q_wd_c, q_bx_1, q_bx_2, q_bx_3, q_bx_4, q_bx_5, q_bx_6, q_bx_7, q_bx_8, q_pop_0, q_pop_s, ↓reduceIte, Nat.reduceEqDiff, reduceCtorEq, eq_self, Bool.false_eq_true, Nat.reduceAdd, Nat.reduceSub, Nat.reduceMul, Nat.reduceLeDiff, Nat.reduceLT, Nat.le_refl, Nat.zero_le, true_and, and_true, false_and, and_false, or_false, false_or, true_or, or_true, not_true_eq_false, not_false_eq_true, if_true, if_false, List.getElem?_cons_zero, List.getElem?_cons_succ, List.set_cons_zero, List.set_cons_succ, List.length_cons, List.length_nil, ↓tX8_fill_0, ↓tX8_fill_1, ↓tX8_fill_4, ↓tX8_fill_5, ↓tX8_fill_8, ↓tX8_fill_9, ↓tX8_fill_12, ↓tX8_fill_13, ↓tX8_fill_14, ↓tX8_fill_15, ↓tX8_fill_16, ↓tX8_fill_17, ↓tX8_fill_20, ↓tX8_fill_21, ↓tX8_fill_24, ↓tX8_fill_25, ↓tX8_fill_26, ↓tX8_fill_27, ↓tX8_fill_28, ↓tX8_fill_31, ↓tX8_fill_32, ↓tX8_fill_33, ↓tX8_fill_36, ↓tX8_fill_37, ↓tX8_fill_38, ↓tX8_fill_41, ↓tX8_fill_44, ↓tX8_fill_45, ↓tX8_fill_48, ↓tX8_fill_51, ↓oAl, ↓oAlen, ↓oCallV, ↓oGet, ↓oGo, ↓oIf2ge, ↓oIl, ↓oInc, ↓oIs, ↓oK, ↓oLast, ↓oMin, ↓oVret, q_set_s, q_set_n, sp_0, spO_len, q_up_a, spO_0, sp_a0, sps_a0, z_clamp, z_ltI, z_leI, z_eqI, z_lt0, z_ge0, z_eq0I, z_gt0I, z_le0I, z_m1lt, z_m1ge, z_m1eq, z_m1eq', z_inT, z_add, z_sub, z_mul, z_div, z_rem, n_ltT, n_ltF, n_leT, n_leF, n_eqT, n_eqF, z_11, q_tl_i, q_tl_n, q_ap_n, q_ap_c, hj]
      refine d4_leftOf (hN' _) (by omega) hs (by omega) ?_
      refine q_X.run sX8_fill [] 20 ?_
      simp (maxSteps := 10000000) (disch := omega) only [↓q_run_s, q_stop_n, q_stop_c, q_lg_c, q_ls_d, q_ld_n, q_ld_c, q_cat_i, q_cat_r, q_cat_n, q_wd_n, q_wd_c, q_bx_1, q_bx_2, q_bx_3, q_bx_4, q_bx_5, q_bx_6, q_bx_7, q_bx_8, q_pop_0, q_pop_s, ↓reduceIte, Nat.reduceEqDiff, reduceCtorEq, eq_self, Bool.false_eq_true, Nat.reduceAdd, Nat.reduceSub, Nat.reduceMul, Nat.reduceLeDiff, Nat.reduceLT, Nat.le_refl, Nat.zero_le, true_and, and_true, false_and, and_false, or_false, false_or, true_or, or_true, not_true_eq_false, not_false_eq_true, if_true, if_false, List.getElem?_cons_zero, List.getElem?_cons_succ, List.set_cons_zero, List.set_cons_succ, List.length_cons, List.length_nil, ↓tX8_fill_0, ↓tX8_fill_1, ↓tX8_fill_4, ↓tX8_fill_5, ↓tX8_fill_8, ↓tX8_fill_9, ↓tX8_fill_12, ↓tX8_fill_13, ↓tX8_fill_14, ↓tX8_fill_15, ↓tX8_fill_16, ↓tX8_fill_17, ↓tX8_fill_20, ↓tX8_fill_21, ↓tX8_fill_24, ↓tX8_fill_25, ↓tX8_fill_26, ↓tX8_fill_27, ↓tX8_fill_28, ↓tX8_fill_31, ↓tX8_fill_32, ↓tX8_fill_33, ↓tX8_fill_36, ↓tX8_fill_37, ↓tX8_fill_38, ↓tX8_fill_41, ↓tX8_fill_44, ↓tX8_fill_45, ↓tX8_fill_48, ↓tX8_fill_51, ↓oAl, ↓oAlen, ↓oCallV, ↓oGet, ↓oGo, ↓oIf2ge, ↓oIl, ↓oInc, ↓oIs, ↓oK, ↓oLast, ↓oMin, ↓oVret, q_set_s, q_set_n, sp_0, spO_len, q_up_a, spO_0, sp_a0, sps_a0, z_clamp, z_ltI, z_leI, z_eqI, z_lt0, z_ge0, z_eq0I, z_gt0I, z_le0I, z_m1lt, z_m1ge, z_m1eq, z_m1eq', z_inT, z_add, z_sub, z_mul, z_div, z_rem, n_ltT, n_ltF, n_leT, n_leF, n_eqT, n_eqF, z_11, q_tl_i, q_tl_n, q_ap_n, q_ap_c, hj]
      refine d4_rightOf (hN' _) (by omega) hs (by omega) ?_
      refine q_X.run sX8_fill [] 20 ?_
      simp (maxSteps := 10000000) (disch := omega) only [↓q_run_s, q_stop_n, q_stop_c, q_lg_c, q_ls_d, q_ld_n, q_ld_c, q_cat_i, q_cat_r, q_cat_n, q_wd_n, q_wd_c, q_bx_1, q_bx_2, q_bx_3, q_bx_4, q_bx_5, q_bx_6, q_bx_7, q_bx_8, q_pop_0, q_pop_s, ↓reduceIte, Nat.reduceEqDiff, reduceCtorEq, eq_self, Bool.false_eq_true, Nat.reduceAdd, Nat.reduceSub, Nat.reduceMul, Nat.reduceLeDiff, Nat.reduceLT, Nat.le_refl, Nat.zero_le, true_and, and_true, false_and, and_false, or_false, false_or, true_or, or_true, not_true_eq_false, not_false_eq_true, if_true, if_false, List.getElem?_cons_zero, List.getElem?_cons_succ, List.set_cons_zero, List.set_cons_succ, List.length_cons, List.length_nil, ↓tX8_fill_0, ↓tX8_fill_1, ↓tX8_fill_4, ↓tX8_fill_5, ↓tX8_fill_8, ↓tX8_fill_9, ↓tX8_fill_12, ↓tX8_fill_13, ↓tX8_fill_14, ↓tX8_fill_15, ↓tX8_fill_16, ↓tX8_fill_17, ↓tX8_fill_20, ↓tX8_fill_21, ↓tX8_fill_24, ↓tX8_fill_25, ↓tX8_fill_26, ↓tX8_fill_27, ↓tX8_fill_28, ↓tX8_fill_31, ↓tX8_fill_32, ↓tX8_fill_33, ↓tX8_fill_36, ↓tX8_fill_37, ↓tX8_fill_38, ↓tX8_fill_41, ↓tX8_fill_44, ↓tX8_fill_45, ↓tX8_fill_48, ↓tX8_fill_51, ↓oAl, ↓oAlen, ↓oCallV, ↓oGet, ↓oGo, ↓oIf2ge, ↓oIl, ↓oInc, ↓oIs, ↓oK, ↓oLast, ↓oMin, ↓oVret, q_set_s, q_set_n, sp_0, spO_len, q_up_a, spO_0, sp_a0, sps_a0, z_clamp, z_ltI, z_leI, z_eqI, z_lt0, z_ge0, z_eq0I, z_gt0I, z_le0I, z_m1lt, z_m1ge, z_m1eq, z_m1eq', z_inT, z_add, z_sub, z_mul, z_div, z_rem, n_ltT, n_ltF, n_leT, n_leF, n_eqT, n_eqF, z_11, q_tl_i, q_tl_n, q_ap_n, q_ap_c, hj]
      refine c8_spanOf (by omega) hn hl hw hL' hF (ht q (by omega)) (by omega) fun X hX => ?_
      have h' := ih (q + 1) (va_up B' 0 (vp_updL (B' 0) q (nL X))) (by omega) (by rw [va_up_ne _ _ (by decide)]; exact hB) (fun q' hq' => by
        rw [va_up_self]
        rcases Nat.lt_or_eq_of_le (Nat.le_of_lt_succ hq') with g | g
        · rw [lu_n _ _ (by omega)]; exact hF q' g
        · subst g; exact ⟨X, lu_s _ _ _, hX⟩)
      refine q_X.run sX8_fill [15] 20 ?_
      simp (maxSteps := 10000000) (disch := omega) only [↓q_run_s, q_stop_n, q_stop_c, q_lg_c, q_ls_d, q_ld_n, q_ld_c, q_cat_i, q_cat_r, q_cat_n, q_wd_n, q_wd_c, q_bx_1, q_bx_2, q_bx_3, q_bx_4, q_bx_5, q_bx_6, q_bx_7, q_bx_8, q_pop_0, q_pop_s, ↓reduceIte, Nat.reduceEqDiff, reduceCtorEq, eq_self, Bool.false_eq_true, Nat.reduceAdd, Nat.reduceSub, Nat.reduceMul, Nat.reduceLeDiff, Nat.reduceLT, Nat.le_refl, Nat.zero_le, true_and, and_true, false_and, and_false, or_false, false_or, true_or, or_true, not_true_eq_false, not_false_eq_true, if_true, if_false, List.getElem?_cons_zero, List.getElem?_cons_succ, List.set_cons_zero, List.set_cons_succ, List.length_cons, List.length_nil, ↓tX8_fill_0, ↓tX8_fill_1, ↓tX8_fill_4, ↓tX8_fill_5, ↓tX8_fill_8, ↓tX8_fill_9, ↓tX8_fill_12, ↓tX8_fill_13, ↓tX8_fill_14, ↓tX8_fill_15, ↓tX8_fill_16, ↓tX8_fill_17, ↓tX8_fill_20, ↓tX8_fill_21, ↓tX8_fill_24, ↓tX8_fill_25, ↓tX8_fill_26, ↓tX8_fill_27, ↓tX8_fill_28, ↓tX8_fill_31, ↓tX8_fill_32, ↓tX8_fill_33, ↓tX8_fill_36, ↓tX8_fill_37, ↓tX8_fill_38, ↓tX8_fill_41, ↓tX8_fill_44, ↓tX8_fill_45, ↓tX8_fill_48, ↓tX8_fill_51, ↓oAl, ↓oAlen, ↓oCallV, ↓oGet, ↓oGo, ↓oIf2ge, ↓oIl, ↓oInc, ↓oIs, ↓oK, ↓oLast, ↓oMin, ↓oVret, q_set_s, q_set_n, sp_0, spO_len, q_up_a, spO_0, sp_a0, sps_a0, z_clamp, z_ltI, z_leI, z_eqI, z_lt0, z_ge0, z_eq0I, z_gt0I, z_le0I, z_m1lt, z_m1ge, z_m1eq, z_m1eq', z_inT, z_add, z_sub, z_mul, z_div, z_rem, n_ltT, n_ltF, n_leT, n_leF, n_eqT, n_eqF, z_11, q_tl_i, q_tl_n, q_ap_n, q_ap_c]
      refine q_X.lv2 _ ?_ h'
      exact ⟨rfl, rfl, rfl, rfl, trivial⟩
  have h' := loop sz 0 B (by omega) rfl (fun q hq => absurd hq (by omega))
  refine q_Call.of [(0, .ref i), (1, .ref j)] rfl ?_
  refine q_X.run sX8_fill [] 20 ?_
  simp (maxSteps := 10000000) (disch := omega) only [↓q_run_s, q_stop_n, q_stop_c, q_lg_c, q_ls_d, q_ld_n, q_ld_c, q_cat_i, q_cat_r, q_cat_n, q_wd_n, q_wd_c, q_bx_1, q_bx_2, q_bx_3, q_bx_4, q_bx_5, q_bx_6, q_bx_7, q_bx_8, q_pop_0, q_pop_s, ↓reduceIte, Nat.reduceEqDiff, reduceCtorEq, eq_self, Bool.false_eq_true, Nat.reduceAdd, Nat.reduceSub, Nat.reduceMul, Nat.reduceLeDiff, Nat.reduceLT, Nat.le_refl, Nat.zero_le, true_and, and_true, false_and, and_false, or_false, false_or, true_or, or_true, not_true_eq_false, not_false_eq_true, if_true, if_false, List.getElem?_cons_zero, List.getElem?_cons_succ, List.set_cons_zero, List.set_cons_succ, List.length_cons, List.length_nil, ↓tX8_fill_0, ↓tX8_fill_1, ↓tX8_fill_4, ↓tX8_fill_5, ↓tX8_fill_8, ↓tX8_fill_9, ↓tX8_fill_12, ↓tX8_fill_13, ↓tX8_fill_14, ↓tX8_fill_15, ↓tX8_fill_16, ↓tX8_fill_17, ↓tX8_fill_20, ↓tX8_fill_21, ↓tX8_fill_24, ↓tX8_fill_25, ↓tX8_fill_26, ↓tX8_fill_27, ↓tX8_fill_28, ↓tX8_fill_31, ↓tX8_fill_32, ↓tX8_fill_33, ↓tX8_fill_36, ↓tX8_fill_37, ↓tX8_fill_38, ↓tX8_fill_41, ↓tX8_fill_44, ↓tX8_fill_45, ↓tX8_fill_48, ↓tX8_fill_51, ↓oAl, ↓oAlen, ↓oCallV, ↓oGet, ↓oGo, ↓oIf2ge, ↓oIl, ↓oInc, ↓oIs, ↓oK, ↓oLast, ↓oMin, ↓oVret, q_set_s, q_set_n, sp_0, spO_len, q_up_a, spO_0, sp_a0, sps_a0, z_clamp, z_ltI, z_leI, z_eqI, z_lt0, z_ge0, z_eq0I, z_gt0I, z_le0I, z_m1lt, z_m1ge, z_m1eq, z_m1eq', z_inT, z_add, z_sub, z_mul, z_div, z_rem, n_ltT, n_ltF, n_leT, n_leF, n_eqT, n_eqF, z_11, q_tl_i, q_tl_n, q_ap_n, q_ap_c, hj]
  refine d4_size (hN' _) ?_
  refine q_X.run sX8_fill [15] 20 ?_
  simp (maxSteps := 10000000) (disch := omega) only [↓q_run_s, q_stop_n, q_stop_c, q_lg_c, q_ls_d, q_ld_n, q_ld_c, q_cat_i, q_cat_r, q_cat_n, q_wd_n, q_wd_c, q_bx_1, q_bx_2, q_bx_3, q_bx_4, q_bx_5, q_bx_6, q_bx_7, q_bx_8, q_pop_0, q_pop_s, ↓reduceIte, Nat.reduceEqDiff, reduceCtorEq, eq_self, Bool.false_eq_true, Nat.reduceAdd, Nat.reduceSub, Nat.reduceMul, Nat.reduceLeDiff, Nat.reduceLT, Nat.le_refl, Nat.zero_le, true_and, and_true, false_and, and_false, or_false, false_or, true_or, or_true, not_true_eq_false, not_false_eq_true, if_true, if_false, List.getElem?_cons_zero, List.getElem?_cons_succ, List.set_cons_zero, List.set_cons_succ, List.length_cons, List.length_nil, ↓tX8_fill_0, ↓tX8_fill_1, ↓tX8_fill_4, ↓tX8_fill_5, ↓tX8_fill_8, ↓tX8_fill_9, ↓tX8_fill_12, ↓tX8_fill_13, ↓tX8_fill_14, ↓tX8_fill_15, ↓tX8_fill_16, ↓tX8_fill_17, ↓tX8_fill_20, ↓tX8_fill_21, ↓tX8_fill_24, ↓tX8_fill_25, ↓tX8_fill_26, ↓tX8_fill_27, ↓tX8_fill_28, ↓tX8_fill_31, ↓tX8_fill_32, ↓tX8_fill_33, ↓tX8_fill_36, ↓tX8_fill_37, ↓tX8_fill_38, ↓tX8_fill_41, ↓tX8_fill_44, ↓tX8_fill_45, ↓tX8_fill_48, ↓tX8_fill_51, ↓oAl, ↓oAlen, ↓oCallV, ↓oGet, ↓oGo, ↓oIf2ge, ↓oIl, ↓oInc, ↓oIs, ↓oK, ↓oLast, ↓oMin, ↓oVret, q_set_s, q_set_n, sp_0, spO_len, q_up_a, spO_0, sp_a0, sps_a0, z_clamp, z_ltI, z_leI, z_eqI, z_lt0, z_ge0, z_eq0I, z_gt0I, z_le0I, z_m1lt, z_m1ge, z_m1eq, z_m1eq', z_inT, z_add, z_sub, z_mul, z_div, z_rem, n_ltT, n_ltF, n_leT, n_leF, n_eqT, n_eqF, z_11, q_tl_i, q_tl_n, q_ap_n, q_ap_c]
  refine q_X.lv2 _ ?_ h'
  exact ⟨rfl, rfl, rfl, rfl, trivial⟩
end
