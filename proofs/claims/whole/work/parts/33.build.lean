/-! the automaton of the class: built, and run over a row -/
/-- the words of a tree's top, whose rows begin at b and leaves at a -/
def au_t (A : Nat → Nat → Int32) (t : qT) (b a : Nat) : Prop := au_w A (b + t_nodes t - 1) (g_e t) (g_f t a) (g_l t a)
/-- behind the rows of a tree -/
def au_T (s : Nat → Int32) (A : Nat → Nat → Int32) (b a : Nat) (fo tk : Nat → Nat) (t : qT) (s' : Nat → Int32) (A' : Nat → Nat → Int32) (fo' tk' : Nat → Nat) : Prop :=
  (∀ c, c ≠ 6 → s' c = s c) ∧ s' 6 = nI (a + g_n t) ∧ au_t A' t b a ∧ (∀ c q, c < 3 → q < b → A' c q = A c q) ∧ A' 5 = A 5 ∧
  (∀ q, q < 6 → A' 3 q = nI (fo' q) ∧ fo' q = fo q ||| g_w t a q) ∧ (∀ c, c < 3 → A' 4 c = nI (tk' c)) ∧
  (∀ acc, g_ok acc t a → ∀ c q, c < 3 → ((tk' c).testBit q = true ↔ (tk c).testBit q = true ∨ (a ≤ q ∧ q < a + g_n t ∧ (acc q).testBit c = true)))
theorem g_n_pos : ∀ t : qT, 1 ≤ g_n t
  | .num _ => Nat.le_refl _
  | .var _ => Nat.le_refl _
  | .add x y => by
    have := g_n_pos x
    unfold g_n
    omega
  | .sub x y => by
    have := g_n_pos x
    unfold g_n
    omega
  | .neg x => g_n_pos x
  | .mulL _ x => g_n_pos x
  | .mulR x _ => g_n_pos x
theorem g_l64 {t : qT} {a : Nat} (h : a + g_n t ≤ 6) : g_l t a < 64 := Nat.lt_of_lt_of_le (g_l_lt t a) (Nat.pow_le_pow_right (n := 2) (j := 6) (by decide) h)
theorem g_f64 {t : qT} {a : Nat} (h : a + g_n t ≤ 6) : g_f t a < 64 := Nat.lt_of_lt_of_le (g_f_lt t a) (Nat.pow_le_pow_right (n := 2) (j := 6) (by decide) h)
section
variable {G : qC} {L : Launch} {d : Nat} {Q : Option Value → qM → Prop} {M0 : qM} {i j n sz : Nat} {k l r : Nat → Int32}
/-- the loop over the rows, at row b -/
def au_L (G : qC) (L : Launch) (d : Nat) (Q : Option Value → qM → Prop) (M0 : qM) (i j sz b : Nat) (s : Nat → Int32) (A : Nat → Nat → Int32) : Prop := q_X G L d mX0_build 0 0 Q 33 [(0, .ref i), (1, .ref j), (2, .int (nI sz)), (3, .int (nI b))] [] (q_au M0 i s A) 0 0
set_option maxRecDepth 100000 in
set_option maxHeartbeats 8000000 in
theorem c0_rows (hN : q_isN M0 j n k l r sz) (hs : sz ≤ n) (hn : n < 100000) (h12 : sz ≤ 12) (hdj : j + 4 ≤ i ∨ i + 7 ≤ j) (hd : 2 ≤ d) : ∀ (t : qT) (b a : Nat) (s : Nat → Int32) (A : Nat → Nat → Int32) (fo tk : Nat → Nat), t_no k l r t b → b + t_nodes t ≤ sz → a + g_n t ≤ 6 → s 6 = nI a → (∀ q, q < 6 → A 3 q = nI (fo q)) → (∀ c, c < 3 → A 4 c = nI (tk c)) → (∀ s' A' fo' tk', au_T s A b a fo tk t s' A' fo' tk' → au_L G L d Q M0 i j sz (b + t_nodes t) s' A') → au_L G L d Q M0 i j sz b s A := by
  have step : ∀ (b : Nat) (s : Nat → Int32) (A : Nat → Nat → Int32), b < sz → (∀ K : Option Value → qM → Prop, (∀ s' A', au_L G L d Q M0 i j sz (b + 1) s' A' → K none (q_au M0 i s' A')) → q_Call G L (d - 1) mX0_addNode 0 0 [.ref i, .ref j, .int (nI b)] (q_au M0 i s A) K) → au_L G L d Q M0 i j sz b s A := by
    intro b s A hb h
    unfold au_L
    refine q_X.run sX0_build [] 20 ?_
    simp (maxSteps := 10000000) (disch := omega) only [↓q_run_s, q_stop_n, q_stop_c, q_lg_c, q_ls_d, q_ld_n, q_ld_c, q_cat_i, q_cat_r, q_cat_n, q_wd_n, q_wd_c, q_bx_1, q_bx_2, q_bx_3, q_bx_4, q_bx_5, q_bx_6, q_bx_7, q_bx_8, q_pop_0, q_pop_s, ↓reduceIte, Nat.reduceEqDiff, reduceCtorEq, eq_self, Bool.false_eq_true, Nat.reduceAdd, Nat.reduceSub, Nat.reduceMul, Nat.reduceLeDiff, Nat.reduceLT, Nat.le_refl, Nat.zero_le, true_and, and_true, false_and, and_false, or_false, false_or, true_or, or_true, not_true_eq_false, not_false_eq_true, if_true, if_false, List.getElem?_cons_zero, List.getElem?_cons_succ, List.set_cons_zero, List.set_cons_succ, List.length_cons, List.length_nil, ↓tX0_build_0, ↓tX0_build_1, ↓tX0_build_2, ↓tX0_build_5, ↓tX0_build_6, ↓tX0_build_9, ↓tX0_build_10, ↓tX0_build_13, ↓tX0_build_14, ↓tX0_build_17, ↓tX0_build_18, ↓tX0_build_21, ↓tX0_build_22, ↓tX0_build_25, ↓tX0_build_27, ↓tX0_build_30, ↓tX0_build_31, ↓tX0_build_32, ↓tX0_build_33, ↓tX0_build_34, ↓tX0_build_35, ↓tX0_build_38, ↓tX0_build_39, ↓tX0_build_40, ↓tX0_build_41, ↓tX0_build_44, ↓tX0_build_47, ↓tX0_build_50, ↓tX0_build_51, ↓tX0_build_52, ↓tX0_build_53, ↓tX0_build_54, ↓tX0_build_57, ↓tX0_build_58, ↓tX0_build_59, ↓tX0_build_60, ↓tX0_build_63, ↓tX0_build_64, ↓tX0_build_65, ↓tX0_build_68, ↓tX0_build_69, ↓tX0_build_70, ↓tX0_build_73, ↓tX0_build_74, ↓tX0_build_75, ↓tX0_build_78, ↓tX0_build_79, ↓tX0_build_80, ↓tX0_build_83, ↓tX0_build_84, ↓tX0_build_85, ↓tX0_build_88, ↓oAl, ↓oCallS, ↓oCallV, ↓oGet, ↓oGo, ↓oIald, ↓oIf2ge, ↓oIl, ↓oInc, ↓oIs, ↓oK, ↓oMax, ↓oMin, ↓oPutI, ↓oPutZ, ↓oSub, ↓oVret, ↓oZald, q_set_s, q_set_n, au_0, auO_len, q_up_a, auOs_6, auO_3, au_a3, auO_4, au_a4, auO_2, au_a2, auOs_7, auO_0, au_a0, auOs_8, auO_1, au_a1, z_clamp, z_ltI, z_leI, z_eqI, z_lt0, z_ge0, z_eq0I, z_gt0I, z_le0I, z_m1lt, z_m1ge, z_m1eq, z_m1eq', z_inT, z_add, z_sub, z_mul, z_div, z_rem, n_ltT, n_ltF, n_leT, n_leF, n_eqT, n_eqF, q_tl_i, q_tl_n, q_ap_n, q_ap_c]
    refine h _ fun s' A' h' => ?_
    refine q_X.run sX0_build [33] 20 ?_
    simp (maxSteps := 10000000) (disch := omega) only [↓q_run_s, q_stop_n, q_stop_c, q_lg_c, q_ls_d, q_ld_n, q_ld_c, q_cat_i, q_cat_r, q_cat_n, q_wd_n, q_wd_c, q_bx_1, q_bx_2, q_bx_3, q_bx_4, q_bx_5, q_bx_6, q_bx_7, q_bx_8, q_pop_0, q_pop_s, ↓reduceIte, Nat.reduceEqDiff, reduceCtorEq, eq_self, Bool.false_eq_true, Nat.reduceAdd, Nat.reduceSub, Nat.reduceMul, Nat.reduceLeDiff, Nat.reduceLT, Nat.le_refl, Nat.zero_le, true_and, and_true, false_and, and_false, or_false, false_or, true_or, or_true, not_true_eq_false, not_false_eq_true, if_true, if_false, List.getElem?_cons_zero, List.getElem?_cons_succ, List.set_cons_zero, List.set_cons_succ, List.length_cons, List.length_nil, ↓tX0_build_0, ↓tX0_build_1, ↓tX0_build_2, ↓tX0_build_5, ↓tX0_build_6, ↓tX0_build_9, ↓tX0_build_10, ↓tX0_build_13, ↓tX0_build_14, ↓tX0_build_17, ↓tX0_build_18, ↓tX0_build_21, ↓tX0_build_22, ↓tX0_build_25, ↓tX0_build_27, ↓tX0_build_30, ↓tX0_build_31, ↓tX0_build_32, ↓tX0_build_33, ↓tX0_build_34, ↓tX0_build_35, ↓tX0_build_38, ↓tX0_build_39, ↓tX0_build_40, ↓tX0_build_41, ↓tX0_build_44, ↓tX0_build_47, ↓tX0_build_50, ↓tX0_build_51, ↓tX0_build_52, ↓tX0_build_53, ↓tX0_build_54, ↓tX0_build_57, ↓tX0_build_58, ↓tX0_build_59, ↓tX0_build_60, ↓tX0_build_63, ↓tX0_build_64, ↓tX0_build_65, ↓tX0_build_68, ↓tX0_build_69, ↓tX0_build_70, ↓tX0_build_73, ↓tX0_build_74, ↓tX0_build_75, ↓tX0_build_78, ↓tX0_build_79, ↓tX0_build_80, ↓tX0_build_83, ↓tX0_build_84, ↓tX0_build_85, ↓tX0_build_88, ↓oAl, ↓oCallS, ↓oCallV, ↓oGet, ↓oGo, ↓oIald, ↓oIf2ge, ↓oIl, ↓oInc, ↓oIs, ↓oK, ↓oMax, ↓oMin, ↓oPutI, ↓oPutZ, ↓oSub, ↓oVret, ↓oZald, q_set_s, q_set_n, au_0, auO_len, q_up_a, auOs_6, auO_3, au_a3, auO_4, au_a4, auO_2, au_a2, auOs_7, auO_0, au_a0, auOs_8, auO_1, au_a1, z_clamp, z_ltI, z_leI, z_eqI, z_lt0, z_ge0, z_eq0I, z_gt0I, z_le0I, z_m1lt, z_m1ge, z_m1eq, z_m1eq', z_inT, z_add, z_sub, z_mul, z_div, z_rem, n_ltT, n_ltF, n_leT, n_leF, n_eqT, n_eqF, q_tl_i, q_tl_n, q_ap_n, q_ap_c]
    refine q_X.lv2 _ ?_ h'
    exact ⟨rfl, rfl, rfl, rfl, trivial⟩
  have leaf : ∀ (t : qT) (b a v u w : Nat) (s : Nat → Int32) (A : Nat → Nat → Int32) (fo tk : Nat → Nat), (k b = nI w ∧ l b = nI v ∧ r b = nI 0) → (w = 0 ∧ v < 3 ∧ u = 2 ^ v ∨ w = 1 ∧ v < 8 ∧ u = v) → (t_nodes t = 1 ∧ g_n t = 1 ∧ g_e t = false ∧ g_f t a = 2 ^ a ∧ g_l t a = 2 ^ a ∧ ∀ q, g_w t a q = 0) → (∀ acc, g_ok acc t a → acc a = u) → b + 1 ≤ sz → a + 1 ≤ 6 → s 6 = nI a → (∀ q, q < 6 → A 3 q = nI (fo q)) → (∀ c, c < 3 → A 4 c = nI (tk c)) → (∀ s' A' fo' tk', au_T s A b a fo tk t s' A' fo' tk' → au_L G L d Q M0 i j sz (b + 1) s' A') → au_L G L d Q M0 i j sz b s A := by
    intro t b a v u w s A fo tk hm hw hg hok hb ha h6 hfo htk hk
    obtain ⟨e0, e1, e2, e3, e4, e5⟩ := hg
    refine step b s A (by omega) fun K hK => ?_
    refine c0_addN0 hN hs hn hdj (by omega) (by omega) (by omega) hm.1 hm.2.1 hm.2.2 hw h6 (by omega) htk fun f hf => ?_
    refine hK _ _ (hk _ _ fo (fun c => tk c ||| (if u.testBit c = true then 2 ^ a else 0)) ⟨fun c hc => va_up_ne _ _ hc, by rw [va_up_self, e1], ⟨?_, ?_, ?_⟩, fun c q hc hq => ?_, rfl, fun q hq => ⟨hfo q hq, by rw [e5, Nat.or_zero]⟩, fun c hc => hf c hc, fun acc hacc c q hc => ?_⟩)
    · rw [e0, Nat.add_sub_cancel, e2]
      exact q_ud_s _ _ _
    · rw [e0, Nat.add_sub_cancel, e3]
      exact q_ud_s _ _ _
    · rw [e0, Nat.add_sub_cancel, e4]
      exact q_ud_s _ _ _
    · have hc' : c = 0 ∨ c = 1 ∨ c = 2 := by omega
      rcases hc' with rfl | rfl | rfl
      · exact q_ud_n _ _ (by omega)
      · exact q_ud_n _ _ (by omega)
      · exact q_ud_n _ _ (by omega)
    · rw [e1]
      dsimp only
      rw [g_or, g_ite, g_p2]
      constructor
      · rintro (h | ⟨h1, h2⟩)
        · exact Or.inl h
        · exact Or.inr ⟨by omega, by omega, by rw [h2, hok acc hacc]; exact h1⟩
      · rintro (h | ⟨h1, h2, h3⟩)
        · exact Or.inl h
        · have e : q = a := by omega
          rw [e, hok acc hacc] at h3
          exact Or.inr ⟨h3, e⟩
  have pair : ∀ (t x y : qT) (w : Nat) (b a : Nat) (s : Nat → Int32) (A : Nat → Nat → Int32) (fo tk : Nat → Nat), (w = 2 ∧ t = .add x y ∨ w = 3 ∧ t = .sub x y) → (∀ (b a : Nat) (s : Nat → Int32) (A : Nat → Nat → Int32) (fo tk : Nat → Nat), t_no k l r x b → b + t_nodes x ≤ sz → a + g_n x ≤ 6 → s 6 = nI a → (∀ q, q < 6 → A 3 q = nI (fo q)) → (∀ c, c < 3 → A 4 c = nI (tk c)) → (∀ s' A' fo' tk', au_T s A b a fo tk x s' A' fo' tk' → au_L G L d Q M0 i j sz (b + t_nodes x) s' A') → au_L G L d Q M0 i j sz b s A) → (∀ (b a : Nat) (s : Nat → Int32) (A : Nat → Nat → Int32) (fo tk : Nat → Nat), t_no k l r y b → b + t_nodes y ≤ sz → a + g_n y ≤ 6 → s 6 = nI a → (∀ q, q < 6 → A 3 q = nI (fo q)) → (∀ c, c < 3 → A 4 c = nI (tk c)) → (∀ s' A' fo' tk', au_T s A b a fo tk y s' A' fo' tk' → au_L G L d Q M0 i j sz (b + t_nodes y) s' A') → au_L G L d Q M0 i j sz b s A) → (k (b + t_nodes x + t_nodes y) = nI w ∧ l (b + t_nodes x + t_nodes y) = nI (b + t_nodes x - 1) ∧ r (b + t_nodes x + t_nodes y) = nI (b + t_nodes x + t_nodes y - 1)) → t_no k l r x b → t_no k l r y (b + t_nodes x) → b + (1 + t_nodes x + t_nodes y) ≤ sz → a + (g_n x + g_n y) ≤ 6 → s 6 = nI a → (∀ q, q < 6 → A 3 q = nI (fo q)) → (∀ c, c < 3 → A 4 c = nI (tk c)) → (∀ s' A' fo' tk', au_T s A b a fo tk t s' A' fo' tk' → au_L G L d Q M0 i j sz (b + (1 + t_nodes x + t_nodes y)) s' A') → au_L G L d Q M0 i j sz b s A := by
    intro t x y w b a s A fo tk ht ihx ihy hm hx hy hb ha h6 hfo htk hk
    have px := t_nodes_pos x
    have py := t_nodes_pos y
    refine ihx b a s A fo tk hx (by omega) (by omega) h6 hfo htk fun s1 A1 fo1 tk1 h1 => ?_
    obtain ⟨h1a, h1b, h1c, h1d, h1e, h1f, h1g, h1h⟩ := h1
    refine ihy (b + t_nodes x) (a + g_n x) s1 A1 fo1 tk1 hy (by omega) (by omega) h1b (fun q hq => (h1f q hq).1) h1g fun s2 A2 fo2 tk2 h2 => ?_
    obtain ⟨h2a, h2b, h2c, h2d, h2e, h2f, h2g, h2h⟩ := h2
    have wx : au_w A2 (b + t_nodes x - 1) (g_e x) (g_f x a) (g_l x a) := by
      obtain ⟨q0, q1, q2⟩ := h1c
      exact ⟨(h2d 0 _ (by decide) (by omega)).trans q0, (h2d 1 _ (by decide) (by omega)).trans q1, (h2d 2 _ (by decide) (by omega)).trans q2⟩
    have wy : au_w A2 (b + t_nodes x + t_nodes y - 1) (g_e y) (g_f y (a + g_n x)) (g_l y (a + g_n x)) := h2c
    have e1 : b + (1 + t_nodes x + t_nodes y) = b + t_nodes x + t_nodes y + 1 := by omega
    have e2 : b + (1 + t_nodes x + t_nodes y) - 1 = b + t_nodes x + t_nodes y := by omega
    have fin : ∀ (e : Bool) (f lst : Nat) (fo' : Nat → Nat) (A' : Nat → Nat → Int32), au_pt A2 (b + t_nodes x + t_nodes y) e f lst fo' A' → t_nodes t = 1 + t_nodes x + t_nodes y → g_n t = g_n x + g_n y → e = g_e t → f = g_f t a → lst = g_l t a → (∀ q, q < 6 → fo' q = fo q ||| g_w t a q) → (∀ acc, g_ok acc t a → g_ok acc x a ∧ g_ok acc y (a + g_n x)) → au_T s A b a fo tk t s2 A' fo' tk2 := by
      intro e f lst fo' A' hp n1 n2 e4 e5 e6 e7 e8
      obtain ⟨p0, p1, p2, p3, p4⟩ := hp
      refine ⟨fun c hc => (h2a c hc).trans (h1a c hc), ?_, ⟨?_, ?_, ?_⟩, fun c q hc hq => ?_, ?_, fun q hq => ⟨p4 q hq, e7 q hq⟩, fun c hc => ?_, fun acc hacc c q hc => ?_⟩
      · rw [h2b, n2, Nat.add_assoc]
      · rw [n1, e2, p1, q_ud_s, e4]
      · rw [n1, e2, p2, q_ud_s, e5]
      · rw [n1, e2, p3, q_ud_s, e6]
      · have hc' : c = 0 ∨ c = 1 ∨ c = 2 := by omega
        rcases hc' with rfl | rfl | rfl
        · rw [p1, q_ud_n _ _ (by omega), h2d 0 q hc (by omega), h1d 0 q hc hq]
        · rw [p2, q_ud_n _ _ (by omega), h2d 1 q hc (by omega), h1d 1 q hc hq]
        · rw [p3, q_ud_n _ _ (by omega), h2d 2 q hc (by omega), h1d 2 q hc hq]
      · rw [p0 5 (by decide) (by decide) (by decide) (by decide), h2e, h1e]
      · rw [p0 4 (by decide) (by decide) (by decide) (by decide)]; exact h2g c hc
      · obtain ⟨o1, o2⟩ := e8 acc hacc
        rw [h2h acc o2 c q hc, h1h acc o1 c q hc, n2]
        constructor
        · rintro ((h | ⟨g1, g2, g3⟩) | ⟨g1, g2, g3⟩)
          · exact Or.inl h
          · exact Or.inr ⟨g1, by omega, g3⟩
          · exact Or.inr ⟨by omega, by omega, g3⟩
        · rintro (h | ⟨g1, g2, g3⟩)
          · exact Or.inl (Or.inl h)
          · by_cases c1 : q < a + g_n x
            · exact Or.inl (Or.inr ⟨g1, c1, g3⟩)
            · exact Or.inr ⟨by omega, by omega, g3⟩
    refine step _ s2 A2 (by omega) fun K hK => ?_
    have f12 : ∀ q, q < 6 → fo2 q = (fo q ||| g_w x a q) ||| g_w y (a + g_n x) q := fun q hq => by rw [(h2f q hq).2, (h1f q hq).2]
    rcases ht with ⟨rfl, rfl⟩ | ⟨rfl, rfl⟩
    · refine c0_addN2 hN hs hn hdj (by omega) (by omega) (by omega) hm.1 hm.2.1 hm.2.2 (by omega) (by omega) wx wy (g_l64 (by omega)) (fun q hq => (h2f q hq).1) fun A' hA' => ?_
      rw [e1] at hk
      refine hK _ _ (hk _ _ _ _ (fin _ _ _ _ _ hA' rfl rfl rfl rfl rfl (fun q hq => ?_) (fun acc h => h)))
      rw [f12 q hq]
      show _ = fo q ||| ((g_w x a q ||| g_w y (a + g_n x) q) ||| _)
      rw [Nat.or_assoc, Nat.or_assoc, Nat.or_assoc]
    · refine c0_addN3 hN hs hn hdj (by omega) (by omega) (by omega) hm.1 hm.2.1 hm.2.2 (by omega) (by omega) wx wy (fun q hq => (h2f q hq).1) fun A' hA' => ?_
      rw [e1] at hk
      refine hK _ _ (hk _ _ _ _ (fin _ _ _ _ _ hA' rfl rfl rfl rfl rfl (fun q hq => ?_) (fun acc h => h)))
      rw [f12 q hq]
      show _ = fo q ||| (g_w x a q ||| g_w y (a + g_n x) q)
      rw [Nat.or_assoc]
  have one : ∀ (t x : qT) (w : Nat) (b a : Nat) (s : Nat → Int32) (A : Nat → Nat → Int32) (fo tk : Nat → Nat), (w = 4 ∧ t = .neg x ∨ w = 5 ∧ ∃ c, t = .mulL c x) → (∀ (b a : Nat) (s : Nat → Int32) (A : Nat → Nat → Int32) (fo tk : Nat → Nat), t_no k l r x b → b + t_nodes x ≤ sz → a + g_n x ≤ 6 → s 6 = nI a → (∀ q, q < 6 → A 3 q = nI (fo q)) → (∀ c, c < 3 → A 4 c = nI (tk c)) → (∀ s' A' fo' tk', au_T s A b a fo tk x s' A' fo' tk' → au_L G L d Q M0 i j sz (b + t_nodes x) s' A') → au_L G L d Q M0 i j sz b s A) → (k (b + t_nodes x) = nI w ∧ l (b + t_nodes x) = nI (b + t_nodes x - 1) ∧ r (b + t_nodes x) = nI 0) → t_no k l r x b → b + (1 + t_nodes x) ≤ sz → a + g_n x ≤ 6 → s 6 = nI a → (∀ q, q < 6 → A 3 q = nI (fo q)) → (∀ c, c < 3 → A 4 c = nI (tk c)) → (∀ s' A' fo' tk', au_T s A b a fo tk t s' A' fo' tk' → au_L G L d Q M0 i j sz (b + (1 + t_nodes x)) s' A') → au_L G L d Q M0 i j sz b s A := by
    intro t x w b a s A fo tk ht ihx hm hx hb ha h6 hfo htk hk
    have px := t_nodes_pos x
    refine ihx b a s A fo tk hx (by omega) (by omega) h6 hfo htk fun s1 A1 fo1 tk1 h1 => ?_
    obtain ⟨h1a, h1b, h1c, h1d, h1e, h1f, h1g, h1h⟩ := h1
    have e1 : b + (1 + t_nodes x) = b + t_nodes x + 1 := by omega
    have e2 : b + (1 + t_nodes x) - 1 = b + t_nodes x := by omega
    refine step _ s1 A1 (by omega) fun K hK => ?_
    refine c0_addN1 hN hs hn hdj (by omega) (by omega) (by omega) (b := w) (by omega) hm.1 hm.2.1 hm.2.2 (by omega) h1c (g_l64 (by omega)) (fun q hq => (h1f q hq).1) fun A' hA' => ?_
    obtain ⟨p0, p1, p2, p3, p4⟩ := hA'
    rw [e1] at hk
    have hn1 : t_nodes t = 1 + t_nodes x := by rcases ht with ⟨-, rfl⟩ | ⟨-, c, rfl⟩ <;> rfl
    have hn2 : g_n t = g_n x := by rcases ht with ⟨-, rfl⟩ | ⟨-, c, rfl⟩ <;> rfl
    have hn3 : (g_e x || decide (w = 5)) = g_e t := by
      rcases ht with ⟨rfl, rfl⟩ | ⟨rfl, c, rfl⟩
      · show (g_e x || false) = g_e x
        rw [Bool.or_false]
      · show (g_e x || true) = true
        rw [Bool.or_true]
    have hn4 : g_f t a = g_f x a := by rcases ht with ⟨-, rfl⟩ | ⟨-, c, rfl⟩ <;> rfl
    have hn5 : g_l t a = g_l x a := by rcases ht with ⟨-, rfl⟩ | ⟨-, c, rfl⟩ <;> rfl
    have hn6 : ∀ acc, g_ok acc t a → g_ok acc x a := by
      rcases ht with ⟨-, rfl⟩ | ⟨-, c, rfl⟩
      · exact fun _ h => h
      · exact fun _ h => h
    have hn7 : ∀ q, g_w t a q = g_w x a q ||| (if w = 4 ∧ (g_l x a).testBit q = true then g_f x a else 0) := by
      intro q
      rcases ht with ⟨rfl, rfl⟩ | ⟨rfl, c, rfl⟩
      · show g_w x a q ||| (if (g_l x a).testBit q = true then g_f x a else 0) = _
        by_cases h : (g_l x a).testBit q = true
        · rw [if_pos h, if_pos ⟨rfl, h⟩]
        · rw [if_neg h, if_neg (fun g => h g.2)]
      · show g_w x a q = _
        rw [if_neg (fun g => absurd g.1 (by decide)), Nat.or_zero]
    refine hK _ _ (hk _ _ _ tk1 ⟨h1a, by rw [h1b, hn2], ⟨?_, ?_, ?_⟩, fun c q hc hq => ?_, ?_, fun q hq => ⟨p4 q hq, ?_⟩, fun c hc => ?_, fun acc hacc c q hc => ?_⟩)
    · rw [hn1, e2, p1, q_ud_s, hn3]
    · rw [hn1, e2, p2, q_ud_s, hn4]
    · rw [hn1, e2, p3, q_ud_s, hn5]
    · have hc' : c = 0 ∨ c = 1 ∨ c = 2 := by omega
      rcases hc' with rfl | rfl | rfl
      · rw [p1, q_ud_n _ _ (by omega), h1d 0 q hc hq]
      · rw [p2, q_ud_n _ _ (by omega), h1d 1 q hc hq]
      · rw [p3, q_ud_n _ _ (by omega), h1d 2 q hc hq]
    · rw [p0 5 (by decide) (by decide) (by decide) (by decide), h1e]
    · rw [(h1f q hq).2, hn7, Nat.or_assoc]
    · rw [p0 4 (by decide) (by decide) (by decide) (by decide)]; exact h1g c hc
    · rw [h1h acc (hn6 acc hacc) c q hc, hn2]
  intro t
  induction t with
  | num v =>
    intro b a s A fo tk ht hb ha h6 hfo htk hk
    exact leaf (.num v) b a _ _ 0 s A fo tk ht.1 (Or.inl ⟨rfl, ht.2.2, rfl⟩) ⟨rfl, rfl, rfl, rfl, rfl, fun _ => rfl⟩ (fun _ h => h) hb ha h6 hfo htk hk
  | var v =>
    intro b a s A fo tk ht hb ha h6 hfo htk hk
    exact leaf (.var v) b a _ _ 1 s A fo tk ht.1 (Or.inr ⟨rfl, ht.2.2, rfl⟩) ⟨rfl, rfl, rfl, rfl, rfl, fun _ => rfl⟩ (fun _ h => h) hb ha h6 hfo htk hk
  | add x y ihx ihy =>
    intro b a s A fo tk ht hb ha h6 hfo htk hk
    exact pair _ x y 2 b a s A fo tk (Or.inl ⟨rfl, rfl⟩) ihx ihy ht.1 ht.2.1 ht.2.2 hb ha h6 hfo htk hk
  | sub x y ihx ihy =>
    intro b a s A fo tk ht hb ha h6 hfo htk hk
    exact pair _ x y 3 b a s A fo tk (Or.inr ⟨rfl, rfl⟩) ihx ihy ht.1 ht.2.1 ht.2.2 hb ha h6 hfo htk hk
  | neg x ihx =>
    intro b a s A fo tk ht hb ha h6 hfo htk hk
    exact one _ x 4 b a s A fo tk (Or.inl ⟨rfl, rfl⟩) ihx ht.1 ht.2 hb ha h6 hfo htk hk
  | mulL c x ihx =>
    intro b a s A fo tk ht hb ha h6 hfo htk hk
    exact one _ x 5 b a s A fo tk (Or.inr ⟨rfl, c, rfl⟩) ihx ht.1 ht.2.2 hb ha h6 hfo htk hk
  | mulR x c ihx =>
    intro b a s A fo tk ht
    exact ht.elim
end
