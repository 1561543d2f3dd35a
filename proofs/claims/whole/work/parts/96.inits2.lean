/-! constructors: what a memory holds, point by point; Reader -/
def q_hs (g : Nat → Option qE) (i : Nat) (E : Nat → Option qE) : Prop := ∀ k e, E k = some e → g (i + k) = some e
theorem q_hs.og {m i : Nat} {g : Nat → Option qE} {E : Nat → Option qE} (h : q_hs g i E) : q_og (m, g) i E = (m, g) := q_og_self h
theorem q_hs_of {m i : Nat} {f : Nat → Option qE} {E : Nat → Option qE} : q_hs (q_og (m, f) i E).2 i E := fun k e h => q_og_k h
theorem q_hs.up {g : Nat → Option qE} {i n a : Nat} {E : Nat → Option qE} {x : Option qE} (h : q_hs g i E) (hE : ∀ k, n ≤ k → E k = none) (ha : a < i ∨ i + n ≤ a) : q_hs (va_up g a x) i E := fun k e hk => by
  have hkn : k < n := Nat.lt_of_not_le fun g => by rw [hE k g] at hk; cases hk
  rw [va_up_ne _ _ (by omega)]
  exact h k e hk
theorem q_hs.cg {g g' : Nat → Option qE} {i n : Nat} {E : Nat → Option qE} (h : q_hs g i E) (hE : ∀ k, n ≤ k → E k = none) (hg : ∀ a, i ≤ a → a < i + n → g' a = g a) : q_hs g' i E := fun k e hk => by
  have hkn : k < n := Nat.lt_of_not_le fun g => by rw [hE k g] at hk; cases hk
  rw [hg _ (by omega) (by omega)]
  exact h k e hk
theorem ndE_none {i n : Nat} {k l r : Nat → Int32} {sz q : Nat} (h : 4 ≤ q) : ndE i n k l r sz q = none := by
  obtain ⟨q, rfl⟩ : ∃ k, q = k + 4 := ⟨q - 4, by omega⟩
  rfl
theorem rdE_none {i : Nat} {s : Nat → Int32} {A : Nat → Nat → Int32} {q : Nat} (h : 7 ≤ q) : rdE i s A q = none := by
  obtain ⟨q, rfl⟩ : ∃ k, q = k + 7 := ⟨q - 7, by omega⟩
  rfl
section
variable {G : qC} {L : Launch} {d : Nat} {Q : Option Value → qM → Prop} {i : Nat}
theorem h4_init {n : Nat} {f : Nat → Option qE} (hd : 1 ≤ d) (hf : f i = some (.inr (4, [.null, .null, .null, .int 0]))) (hn : n ≤ 1000000) (hQ : ∀ g, q_hs g i (ndE i n (fun _ => 0) (fun _ => 0) (fun _ => 0) 0) → (∀ a, a < i ∨ i + 4 ≤ a → g a = f a) → Q none (i + 4, g)) : q_Call G L d mX4_init 3 (3 * n) [.ref i, .int (nI n)] (i + 1, f) Q := by
  refine c4_init hd hf hn ?_
  rw [q_nd_og]
  exact hQ _ q_hs_of fun a ha => q_og_out (M0 := (i + 4, f)) (by
    rcases ha with h | h
    · exact Or.inl h
    · exact Or.inr (ndE_none (by omega)))
theorem h3_init {f : Nat → Option qE} (hd : 1 ≤ d) (hf : f i = some (.inr (3, [.null, .null, .null, .null, .null, .int 0]))) (hQ : ∀ g, q_hs g i (meE i (fun _ => 0) (fun _ _ => 0)) → (∀ a, a < i ∨ i + 6 ≤ a → g a = f a) → Q none (i + 6, g)) : q_Call G L d mX3_init 5 10531 [.ref i] (i + 1, f) Q := by
  refine c3_init hd hf ?_
  exact hQ _ (q_hs_of (m := i + 6) (f := f)) fun a ha => q_og_out (M0 := (i + 6, f)) (by
    rcases ha with h | h
    · exact Or.inl h
    · exact Or.inr (meE_none (by omega)))
theorem h8_init {n : Nat} {f : Nat → Option qE} (hd : 1 ≤ d) (hf : f i = some (.inr (8, [.null, .null]))) (hn : n ≤ 1000000) (hQ : ∀ g, q_hs g i (spE i n (fun _ _ => 0)) → (∀ a, a < i ∨ i + 3 ≤ a → g a = f a) → Q none (i + 3, g)) : q_Call G L d mX8_init 2 (3 + n) [.ref i, .int (nI n)] (i + 1, f) Q := by
  refine c8_init hd hf hn ?_
  exact hQ _ (q_hs_of (m := i + 3) (f := f)) fun a ha => q_og_out (M0 := (i + 3, f)) (by
    rcases ha with h | h
    · exact Or.inl h
    · exact Or.inr (spE_none (by omega)))
theorem h0_init {f : Nat → Option qE} (hd : 1 ≤ d) (hf : f i = some (.inr (0, [.null, .null, .null, .null, .null, .null, .int 0, .int 0, .int 0]))) (hQ : ∀ g, q_hs g i (auE i (fun _ => 0) (fun _ _ => 0)) → (∀ a, a < i ∨ i + 7 ≤ a → g a = f a) → Q none (i + 7, g)) : q_Call G L d mX0_init 6 240 [.ref i] (i + 1, f) Q := by
  refine c0_init hd hf ?_
  exact hQ _ (q_hs_of (m := i + 7) (f := f)) fun a ha => q_og_out (M0 := (i + 7, f)) (by
    rcases ha with h | h
    · exact Or.inl h
    · exact Or.inr (auE_none (by omega)))
theorem h5_init {f : Nat → Option qE} (hd : 1 ≤ d) (hf : f i = some (.inr (5, [.null, .null, .int 0]))) (hQ : ∀ g, q_hs g i (paE i (fun _ => 0) (fun _ _ => 0)) → (∀ a, a < i ∨ i + 3 ≤ a → g a = f a) → Q none (i + 3, g)) : q_Call G L d mX5_init 2 8450 [.ref i] (i + 1, f) Q := by
  refine c5_init hd hf ?_
  exact hQ _ (q_hs_of (m := i + 3) (f := f)) fun a ha => q_og_out (M0 := (i + 3, f)) (by
    rcases ha with h | h
    · exact Or.inl h
    · exact Or.inr (paE_none (by omega)))
theorem h7_init {f : Nat → Option qE} (hd : 1 ≤ d) (hf : f i = some (.inr (7, [.null, .null, .null, .null, .int 0, .int 0]))) (hQ : ∀ g, q_hs g i (shE i (fun _ => 0) (fun _ _ => 0)) → (∀ a, a < i ∨ i + 5 ≤ a → g a = f a) → Q none (i + 5, g)) : q_Call G L d mX7_init 4 80 [.ref i] (i + 1, f) Q := by
  refine c7_init hd hf ?_
  exact hQ _ (q_hs_of (m := i + 5) (f := f)) fun a ha => q_og_out (M0 := (i + 5, f)) (by
    rcases ha with h | h
    · exact Or.inl h
    · exact Or.inr (shE_none (by omega)))
theorem h9_init {f : Nat → Option qE} (hd : 1 ≤ d) (hf : f i = some (.inr (9, [.null]))) (hQ : ∀ g, q_hs g i (waE i (fun _ _ => 0)) → (∀ a, a < i ∨ i + 2 ≤ a → g a = f a) → Q none (i + 2, g)) : q_Call G L d mX9_init 1 845 [.ref i] (i + 1, f) Q := by
  refine c9_init hd hf ?_
  exact hQ _ (q_hs_of (m := i + 2) (f := f)) fun a ha => q_og_out (M0 := (i + 2, f)) (by
    rcases ha with h | h
    · exact Or.inl h
    · exact Or.inr (waE_none (by omega)))
theorem h10_init {f : Nat → Option qE} (hd : 1 ≤ d) (hf : f i = some (.inr (10, [.null, .int 0]))) (hQ : ∀ g, q_hs g i (wrE i (fun _ => 0) (fun _ _ => 0)) → (∀ a, a < i ∨ i + 2 ≤ a → g a = f a) → Q none (i + 2, g)) : q_Call G L d mX10_init 1 128 [.ref i] (i + 1, f) Q := by
  refine c10_init hd hf ?_
  exact hQ _ (q_hs_of (m := i + 2) (f := f)) fun a ha => q_og_out (M0 := (i + 2, f)) (by
    rcases ha with h | h
    · exact Or.inl h
    · exact Or.inr (wrE_none (by omega)))
set_option maxRecDepth 100000 in
set_option maxHeartbeats 8000000 in
theorem h6_init {f : Nat → Option qE} (hd : 2 ≤ d) (hf : f i = some (.inr (6, [.null, .int 0, .null, .null, .int 0, .int 0, .int 0]))) (hQ : ∀ g, q_hs g i (rdE i (fun _ => 0) (fun _ _ => 0)) → q_hs g (i + 2) (ndE (i + 2) 120 (fun _ => 0) (fun _ => 0) (fun _ => 0) 0) → (∀ a, a < i ∨ i + 7 ≤ a → g a = f a) → Q none (i + 7, g)) : q_Call G L d mX6_init 6 484 [.ref i] (i + 1, f) Q := by
  refine q_Call.of [(0, .ref i)] rfl ?_
  refine q_X.run sX6_init [] 60 ?_
  simp (maxSteps := 10000000) (disch := omega) only [↓q_run_s, q_stop_n, q_stop_c, q_lg_c, q_ls_d, q_ld_n, q_ld_c, q_cat_i, q_cat_r, q_cat_n, q_wd_n, q_wd_c, q_bx_1, q_bx_2, q_bx_3, q_bx_4, q_bx_5, q_bx_6, q_bx_7, q_bx_8, q_pop_0, q_pop_s, ↓reduceIte, Nat.reduceEqDiff, reduceCtorEq, eq_self, Bool.false_eq_true, Nat.reduceAdd, Nat.reduceSub, Nat.reduceMul, Nat.reduceLeDiff, Nat.reduceLT, Nat.le_refl, Nat.zero_le, true_and, and_true, false_and, and_false, or_false, false_or, true_or, or_true, not_true_eq_false, not_false_eq_true, if_true, if_false, List.getElem?_cons_zero, List.getElem?_cons_succ, List.set_cons_zero, List.set_cons_succ, List.length_cons, List.length_nil, ↓tX6_init_0, ↓tX6_init_1, ↓tX6_init_4, ↓tX6_init_5, ↓tX6_init_7, ↓tX6_init_9, ↓tX6_init_12, ↓tX6_init_13, ↓tX6_init_16, ↓tX6_init_17, ↓tX6_init_19, ↓tX6_init_22, ↓tX6_init_25, ↓tX6_init_26, ↓tX6_init_28, ↓tX6_init_30, ↓tX6_init_33, ↓oAl, ↓oCallI, ↓oDup, ↓oK, ↓oNew, ↓oNewa, ↓oObj, ↓oPutR, ↓oVret, q_set_s, q_set_n, z_clamp, z_ltI, z_leI, z_eqI, z_lt0, z_ge0, z_eq0I, z_gt0I, z_le0I, z_m1lt, z_m1ge, z_m1eq, z_m1eq', z_inT, z_add, z_sub, z_mul, z_div, z_rem, n_ltT, n_ltF, n_leT, n_leF, n_eqT, n_eqF, z_11, q_tl_i, q_tl_n, q_ap_n, q_ap_c, q_newP, q_setP, va_up_ne, va_up_self, hf]
  refine ⟨3, 3 * 120, by decide, by decide, ?_⟩
  refine h4_init (by omega) (va_up_self _ _ _) (by decide) fun g hg ho => ?_
  have gi : g i = some (.inr (6, [.ref (i + 1), .int 0, .null, .null, .int 0, .int 0, .int 0])) := by
    rw [ho i (by omega)]
    simp (disch := omega) only [va_up_ne, va_up_self]
  have g1 : g (i + 1) = some (.inl (1, 60, .inl (fun _ => 0))) := by
    rw [ho (i + 1) (by omega)]
    simp (disch := omega) only [va_up_ne, va_up_self]
    rfl
  have go : ∀ a, a < i ∨ i + 6 ≤ a → g a = f a := fun a ha => by
    rw [ho a (by omega)]
    simp (disch := omega) only [va_up_ne]
  clear ho
  refine q_X.run sX6_init [] 60 ?_
  simp (maxSteps := 10000000) (disch := omega) only [↓q_run_s, q_stop_n, q_stop_c, q_lg_c, q_ls_d, q_ld_n, q_ld_c, q_cat_i, q_cat_r, q_cat_n, q_wd_n, q_wd_c, q_bx_1, q_bx_2, q_bx_3, q_bx_4, q_bx_5, q_bx_6, q_bx_7, q_bx_8, q_pop_0, q_pop_s, ↓reduceIte, Nat.reduceEqDiff, reduceCtorEq, eq_self, Bool.false_eq_true, Nat.reduceAdd, Nat.reduceSub, Nat.reduceMul, Nat.reduceLeDiff, Nat.reduceLT, Nat.le_refl, Nat.zero_le, true_and, and_true, false_and, and_false, or_false, false_or, true_or, or_true, not_true_eq_false, not_false_eq_true, if_true, if_false, List.getElem?_cons_zero, List.getElem?_cons_succ, List.set_cons_zero, List.set_cons_succ, List.length_cons, List.length_nil, ↓tX6_init_0, ↓tX6_init_1, ↓tX6_init_4, ↓tX6_init_5, ↓tX6_init_7, ↓tX6_init_9, ↓tX6_init_12, ↓tX6_init_13, ↓tX6_init_16, ↓tX6_init_17, ↓tX6_init_19, ↓tX6_init_22, ↓tX6_init_25, ↓tX6_init_26, ↓tX6_init_28, ↓tX6_init_30, ↓tX6_init_33, ↓oAl, ↓oCallI, ↓oDup, ↓oK, ↓oNew, ↓oNewa, ↓oObj, ↓oPutR, ↓oVret, q_set_s, q_set_n, z_clamp, z_ltI, z_leI, z_eqI, z_lt0, z_ge0, z_eq0I, z_gt0I, z_le0I, z_m1lt, z_m1ge, z_m1eq, z_m1eq', z_inT, z_add, z_sub, z_mul, z_div, z_rem, n_ltT, n_ltF, n_leT, n_leF, n_eqT, n_eqF, z_11, q_tl_i, q_tl_n, q_ap_n, q_ap_c, q_newP, q_setP, va_up_ne, va_up_self, gi]
  refine hQ _ ?_ ?_ fun a ha => ?_
  · intro k e hk
    rcases (show k = 0 ∨ k = 1 ∨ k = 2 ∨ k = 3 ∨ k = 4 ∨ k = 5 ∨ k = 6 ∨ 7 ≤ k by omega) with h | h | h | h | h | h | h | h
    · subst h; cases hk
      simp (disch := omega) only [va_up_ne, va_up_self, Nat.add_zero]
      rfl
    · subst h; cases hk
      simp (disch := omega) only [va_up_ne, va_up_self]
      exact g1
    · subst h; cases hk
    · subst h; cases hk
    · subst h; cases hk
    · subst h; cases hk
    · subst h; cases hk
      simp (disch := omega) only [va_up_ne, va_up_self]
      rfl
    · rw [rdE_none h] at hk; cases hk
  · refine q_hs.cg (n := 4) hg (fun k h => ndE_none h) fun a h1 h2 => ?_
    simp (disch := omega) only [va_up_ne]
  · simp (disch := omega) only [va_up_ne]
    exact go a (by omega)
end
