/-! the class: alike, parted, inside, about, nth -/
theorem e_0 {p : Nat} (hp : p < 4937) {c : Int} {x : qT} (e : e_t p = .mulL c x) : c = 0 := by
  obtain ⟨a, b, he⟩ := e_at hp
  obtain ⟨-, hE, -⟩ := k_E_11 he
  have hE : k_E _ _ a b (e_t p) := hE
  rw [e] at hE
  exact hE.1
theorem t_nr_e {k l r U : Nat → Int32} (h : k_hC k l r U (k_T 11)) : ∀ n p, p < n → p < 4937 → t_nr k l r 0 4937 (e_t p) p := by
  intro n
  induction n with
  | zero => intro p hp; exact absurd hp (by omega)
  | succ n ih =>
    intro p hpn hp
    have hl : t_loc k l r e_t 0 p (e_t p) := k_hC_lc h hp
    have h0 := fun c x => e_0 hp (c := c) (x := x)
    generalize e_t p = t at hl h0
    cases t with
    | num v => exact ⟨⟨⟨Nat.zero_le _, hp⟩, hl.1⟩, hl.2⟩
    | var v => exact ⟨⟨⟨Nat.zero_le _, hp⟩, hl.1⟩, hl.2⟩
    | add x y =>
      obtain ⟨a, b, -, ha, -, hb, hk, t1, t2⟩ := hl
      exact ⟨a, b, ⟨⟨Nat.zero_le _, hp⟩, hk⟩, t1 ▸ ih a (by omega) (by omega), t2 ▸ ih b (by omega) (by omega)⟩
    | sub x y =>
      obtain ⟨a, b, -, ha, -, hb, hk, t1, t2⟩ := hl
      exact ⟨a, b, ⟨⟨Nat.zero_le _, hp⟩, hk⟩, t1 ▸ ih a (by omega) (by omega), t2 ▸ ih b (by omega) (by omega)⟩
    | neg x =>
      obtain ⟨a, -, ha, hk, t1⟩ := hl
      exact ⟨a, ⟨⟨Nat.zero_le _, hp⟩, hk⟩, t1 ▸ ih a (by omega) (by omega)⟩
    | mulL c x =>
      obtain ⟨a, -, ha, hk, t1⟩ := hl
      exact ⟨h0 c x rfl, a, ⟨⟨Nat.zero_le _, hp⟩, hk⟩, t1 ▸ ih a (by omega) (by omega)⟩
    | mulR x c => exact hl.elim
theorem q_sum_add (f : Nat → Nat) (m : Nat) : ∀ n, q_sum f (m + n) = q_sum f m + q_sum (fun j => f (m + j)) n
  | 0 => rfl
  | n + 1 => by
    have ih := q_sum_add f m n
    show q_sum f (m + n) + f (m + n) = q_sum f m + (q_sum (fun j => f (m + j)) n + f (m + n))
    omega
theorem q_sum_cg' {f g : Nat → Nat} : ∀ n, (∀ j, j < n → f j = g j) → q_sum f n = q_sum g n
  | 0, _ => rfl
  | n + 1, h => by
    show q_sum f n + f n = q_sum g n + g n
    rw [q_sum_cg' n fun j hj => h j (by omega), h n (by omega)]
theorem t_no_cost {k l r : Nat → Int32} : ∀ (t : qT) (b : Nat), t_no k l r t b → ∃ f : Nat → Nat, (∀ j, j < t_nodes t → k (b + j) = nI (f j) ∧ f j < 6) ∧ q_sum (fun j => m_pr (f j)) (t_nodes t) = t_cost t := by
  have two : ∀ (x y : qT) (kd b : Nat) (f1 f2 : Nat → Nat), kd < 6 → k (b + t_nodes x + t_nodes y) = nI kd → (∀ j, j < t_nodes x → k (b + j) = nI (f1 j) ∧ f1 j < 6) → (∀ j, j < t_nodes y → k (b + t_nodes x + j) = nI (f2 j) ∧ f2 j < 6) → q_sum (fun j => m_pr (f1 j)) (t_nodes x) = t_cost x → q_sum (fun j => m_pr (f2 j)) (t_nodes y) = t_cost y → ∃ f : Nat → Nat, (∀ j, j < t_nodes x + t_nodes y + 1 → k (b + j) = nI (f j) ∧ f j < 6) ∧ q_sum (fun j => m_pr (f j)) (t_nodes x + t_nodes y + 1) = m_pr kd + t_cost x + t_cost y := by
    intro x y kd b f1 f2 hkd hk h1 h2 s1 s2
    refine ⟨fun j => if j < t_nodes x then f1 j else if j < t_nodes x + t_nodes y then f2 (j - t_nodes x) else kd, fun j hj => ?_, ?_⟩
    · show k (b + j) = nI (if j < t_nodes x then f1 j else if j < t_nodes x + t_nodes y then f2 (j - t_nodes x) else kd) ∧ (if j < t_nodes x then f1 j else if j < t_nodes x + t_nodes y then f2 (j - t_nodes x) else kd) < 6
      by_cases c1 : j < t_nodes x
      · rw [if_pos c1]
        exact h1 j c1
      · rw [if_neg c1]
        by_cases c2 : j < t_nodes x + t_nodes y
        · rw [if_pos c2]
          have := h2 (j - t_nodes x) (by omega)
          rw [show b + t_nodes x + (j - t_nodes x) = b + j by omega] at this
          exact this
        · rw [if_neg c2]
          rw [show b + j = b + t_nodes x + t_nodes y by omega]
          exact ⟨hk, hkd⟩
    · rw [q_sum_add _ (t_nodes x + t_nodes y) 1, q_sum_add _ (t_nodes x) (t_nodes y)]
      have e1 := q_sum_cg' (f := fun j => m_pr (if j < t_nodes x then f1 j else if j < t_nodes x + t_nodes y then f2 (j - t_nodes x) else kd)) (g := fun j => m_pr (f1 j)) (t_nodes x) fun j hj => by
        show m_pr (if j < t_nodes x then f1 j else if j < t_nodes x + t_nodes y then f2 (j - t_nodes x) else kd) = m_pr (f1 j)
        rw [if_pos hj]
      have e2 := q_sum_cg' (f := fun j => m_pr (if t_nodes x + j < t_nodes x then f1 (t_nodes x + j) else if t_nodes x + j < t_nodes x + t_nodes y then f2 (t_nodes x + j - t_nodes x) else kd)) (g := fun j => m_pr (f2 j)) (t_nodes y) fun j hj => by
        show m_pr (if t_nodes x + j < t_nodes x then f1 (t_nodes x + j) else if t_nodes x + j < t_nodes x + t_nodes y then f2 (t_nodes x + j - t_nodes x) else kd) = m_pr (f2 j)
        rw [if_neg (by omega), if_pos (by omega), Nat.add_sub_cancel_left]
      have e3 : q_sum (fun j => m_pr (if t_nodes x + t_nodes y + j < t_nodes x then f1 (t_nodes x + t_nodes y + j) else if t_nodes x + t_nodes y + j < t_nodes x + t_nodes y then f2 (t_nodes x + t_nodes y + j - t_nodes x) else kd)) 1 = m_pr kd := by
        show 0 + m_pr (if t_nodes x + t_nodes y + 0 < t_nodes x then f1 (t_nodes x + t_nodes y + 0) else if t_nodes x + t_nodes y + 0 < t_nodes x + t_nodes y then f2 (t_nodes x + t_nodes y + 0 - t_nodes x) else kd) = m_pr kd
        rw [if_neg (by omega), if_neg (by omega), Nat.zero_add]
      dsimp only
      omega
  have one : ∀ (x : qT) (kd b : Nat) (f1 : Nat → Nat), kd < 6 → k (b + t_nodes x) = nI kd → (∀ j, j < t_nodes x → k (b + j) = nI (f1 j) ∧ f1 j < 6) → q_sum (fun j => m_pr (f1 j)) (t_nodes x) = t_cost x → ∃ f : Nat → Nat, (∀ j, j < t_nodes x + 1 → k (b + j) = nI (f j) ∧ f j < 6) ∧ q_sum (fun j => m_pr (f j)) (t_nodes x + 1) = m_pr kd + t_cost x := by
    intro x kd b f1 hkd hk h1 s1
    refine ⟨fun j => if j < t_nodes x then f1 j else kd, fun j hj => ?_, ?_⟩
    · show k (b + j) = nI (if j < t_nodes x then f1 j else kd) ∧ (if j < t_nodes x then f1 j else kd) < 6
      by_cases c1 : j < t_nodes x
      · rw [if_pos c1]
        exact h1 j c1
      · rw [if_neg c1, show b + j = b + t_nodes x by omega]
        exact ⟨hk, hkd⟩
    · rw [q_sum_add _ (t_nodes x) 1]
      have e1 := q_sum_cg' (f := fun j => m_pr (if j < t_nodes x then f1 j else kd)) (g := fun j => m_pr (f1 j)) (t_nodes x) fun j hj => by
        show m_pr (if j < t_nodes x then f1 j else kd) = m_pr (f1 j)
        rw [if_pos hj]
      have e3 : q_sum (fun j => m_pr (if t_nodes x + j < t_nodes x then f1 (t_nodes x + j) else kd)) 1 = m_pr kd := by
        show 0 + m_pr (if t_nodes x + 0 < t_nodes x then f1 (t_nodes x + 0) else kd) = m_pr kd
        rw [if_neg (by omega), Nat.zero_add]
      dsimp only
      omega
  intro t
  induction t with
  | num v => intro b h; exact ⟨fun _ => 0, fun j hj => ⟨by rw [show j = 0 by unfold t_nodes at hj; omega]; exact h.1.1, (show (0 : Nat) < 6 by decide)⟩, rfl⟩
  | var v => intro b h; exact ⟨fun _ => 1, fun j hj => ⟨by rw [show j = 0 by unfold t_nodes at hj; omega]; exact h.1.1, (show (1 : Nat) < 6 by decide)⟩, rfl⟩
  | add x y ihx ihy =>
    intro b h
    obtain ⟨f1, a1, a2⟩ := ihx b h.2.1
    obtain ⟨f2, b1, b2⟩ := ihy _ h.2.2
    have := two x y 2 b f1 f2 (by decide) h.1.1 a1 b1 a2 b2
    rw [show t_nodes x + t_nodes y + 1 = t_nodes (.add x y) by simp only [t_nodes]; omega] at this
    exact this
  | sub x y ihx ihy =>
    intro b h
    obtain ⟨f1, a1, a2⟩ := ihx b h.2.1
    obtain ⟨f2, b1, b2⟩ := ihy _ h.2.2
    have := two x y 3 b f1 f2 (by decide) h.1.1 a1 b1 a2 b2
    rw [show t_nodes x + t_nodes y + 1 = t_nodes (.sub x y) by simp only [t_nodes]; omega] at this
    exact this
  | neg x ihx =>
    intro b h
    obtain ⟨f1, a1, a2⟩ := ihx b h.2
    have := one x 4 b f1 (by decide) h.1.1 a1 a2
    rw [show t_nodes x + 1 = t_nodes (.neg x) by simp only [t_nodes]; omega] at this
    exact this
  | mulL c x ihx =>
    intro b h
    obtain ⟨f1, a1, a2⟩ := ihx b h.2.2
    have := one x 5 b f1 (by decide) h.1.1 a1 a2
    rw [show t_nodes x + 1 = t_nodes (.mulL c x) by simp only [t_nodes]; omega] at this
    exact this
  | mulR x c ihx => intro b h; exact h.elim
theorem b_rec_b {S : bS} {R : Nat → Option Nat} (hR : b_rec S R) (hf : ∀ j, 1 ≤ j → j < S.2.2 → S.2.1 j / 3 < j) : ∀ n j, j < n → j < S.2.2 → ∀ r, R j = some r → 1 ≤ r ∧ r < 1594323 := by
  intro n
  induction n with
  | zero => intro j hj; exact absurd hj (by omega)
  | succ n ih =>
    intro j hj hjS r hr
    by_cases c : j = 0
    · subst c
      rw [hR.1] at hr
      cases hr
      omega
    · have h1 := hf j (by omega) hjS
      rw [hR.2 j (by omega) hjS] at hr
      exact b_lg_b (Nat.mod_lt _ (by decide)) (fun r' hr' => ih _ (by omega) (by omega) r' hr') hr
theorem p_out_b {nx : Nat → Nat → Nat} {C : Nat → Prop} {o : Option Nat} {R : Nat → Option Nat} (ho : b_res nx 4224 C o) (hR : ∀ k, o = some k → b_rec (b_st nx 4224 k) R) : p_out R o ≠ -1 ∧ (p_out R o = -2 ↔ o = none) := by
  cases o with
  | none => exact ⟨by show (-2 : Int32) ≠ -1; decide, fun _ => rfl, fun _ => rfl⟩
  | some k =>
    have hIv := b_Iv_st (V := fun _ => True) (nx := nx) (P0 := 4224) trivial (fun _ _ _ _ => trivial) k (fun j hj => ho.1 j (by omega))
    have hb := b_rec_b (hR k rfl) hIv.2.2.2 (k + 1) k (by omega) (ho.1 k (Nat.le_refl _))
    show b_rI (R k) ≠ -1 ∧ (b_rI (R k) = -2 ↔ some k = none)
    cases hk : R k with
    | none => exact ⟨by show (-3 : Int32) ≠ -1; decide, fun g => absurd g (by show (-3 : Int32) ≠ -2; decide), fun g => (by cases g)⟩
    | some x =>
      have hx := hb x hk
      have h0 : (0 : Int32) ≤ nI x := nI_pos' (by omega)
      show nI x ≠ -1 ∧ (nI x = -2 ↔ some k = none)
      exact ⟨fun g => by rw [g] at h0; exact absurd h0 (by decide), fun g => (by rw [g] at h0; exact absurd h0 (by decide)), fun g => (by cases g)⟩
section
variable {G : qC} {L : Launch} {d : Nat} {Q : Option Value → qM → Prop} {M : qM} {mc ms : Nat} {io r b : Nat} {zp : Option Nat} {zc : Option Nat} {zf : Option (Nat × Nat)} {T : Nat} {tp : Nat → Nat} {P : Nat → Option qT} {S : Nat} {D : Nat → yD} {tb : Nat} {k : Nat} {σ : fS} {as : Nat} {s : Nat → Int32} {A : Nat → Nat → Int32} {B : Nat → Nat → Int64}
theorem d4_cost' {i : Nat} {t : qT} {k l r : Nat → Int32} (hN : q_isN M i 12 k l r (t_nodes t)) (ht : t_no k l r t 0) (h12 : t_nodes t ≤ 12) (hd : 1 ≤ d) (hQ : Q (some (.int (nI (t_cost t)))) M) : q_Call G L d mX4_cost 0 0 [.ref i] M Q := by
  obtain ⟨f, f1, f2⟩ := t_no_cost t 0 ht
  refine d4_cost hN (f := f) hd h12 (by decide) (fun j hj => ?_) ?_
  · have := f1 j hj
    rw [Nat.zero_add] at this
    exact this
  · rw [f2]
    exact hQ
set_option maxRecDepth 100000 in
set_option maxHeartbeats 8000000 in
theorem v11_parted {v u : Int32} (h : w_All M io r b zp zc zf T tp P S D tb k σ as s A B) (hd : 12 ≤ d) (hroom : (∃ p p' ta tc, m_two P v u p p' ta tc) → zp = none → 3 ≤ mc ∧ 8453 ≤ ms) (hT : ∀ p p' ta tc ka kb o R z M', m_two P v u p p' ta tc → t_nodes ta ≤ 12 → t_nodes tc ≤ 12 → g_ok ka ta 0 → g_ok kb tc 0 → b_res (p_nx ta tc ka kb) 4224 (p_C ta tc 0) o → (∀ k, o = some k → b_rec (b_st (p_nx ta tc ka kb) 4224 k) R) → w_All M' io r b (some z) zc zf T tp P S D tb k σ as s A B → Q (some (.int (p_out R o))) M') (hF : (∀ p p' ta tc, ¬ m_two P v u p p' ta tc) → Q (some (.int (-1))) M) : q_Call G L d mX11_parted mc ms [.ref io, .int v, .int u] M Q := by
  have hob := h.2.1.1
  refine q_Call.of [(0, .ref io), (1, .int v), (2, .int u)] rfl ?_
  refine q_X.run sX11_parted [] 40 ?_
  simp (maxSteps := 10000000) (disch := omega) only [↓q_run_s, q_stop_n, q_stop_c, q_lg_c, q_ls_d, q_ld_n, q_ld_c, q_cat_i, q_cat_r, q_cat_n, q_wd_n, q_wd_c, q_bx_1, q_bx_2, q_bx_3, q_bx_4, q_bx_5, q_bx_6, q_bx_7, q_bx_8, q_pop_0, q_pop_s, ↓reduceIte, Nat.reduceEqDiff, reduceCtorEq, eq_self, Bool.false_eq_true, Nat.reduceAdd, Nat.reduceSub, Nat.reduceMul, Nat.reduceLeDiff, Nat.reduceLT, Nat.le_refl, Nat.zero_le, true_and, and_true, false_and, and_false, or_false, false_or, true_or, or_true, not_true_eq_false, not_false_eq_true, if_true, if_false, List.getElem?_cons_zero, List.getElem?_cons_succ, List.set_cons_zero, List.set_cons_succ, List.length_cons, List.length_nil, ↓tX11_parted_0, ↓tX11_parted_1, ↓tX11_parted_2, ↓tX11_parted_3, ↓tX11_parted_4, ↓tX11_parted_7, ↓oAl, ↓oCallVA, ↓oIl, ↓oIret, ↓oK, q_set_s, q_set_n, z_clamp, z_ltI, z_leI, z_eqI, z_lt0, z_ge0, z_eq0I, z_gt0I, z_le0I, z_m1lt, z_m1ge, z_m1eq, z_m1eq', z_inT, z_add, z_sub, z_mul, z_div, z_rem, n_ltT, n_ltF, n_leT, n_leF, n_eqT, n_eqF, z_11, q_tl_i, q_tl_n, q_ap_n, q_ap_c, hob]
  refine ⟨mc, ms, by omega, by omega, ?_⟩
  refine v11_partingRow h (Or.inl rfl) (by omega) hroom (fun p p' ta tc ka kb o R z M' h1 h2 h3 h4 h5 h6 h7 h8 => ?_) (fun hno => ?_)
  · have h' := hT p p' ta tc ka kb o R z M' h1 h2 h3 h4 h5 h6 h7 h8
    generalize p_out R o = ans at *
    refine q_X.run sX11_parted [] 40 ?_
    simp (maxSteps := 10000000) (disch := omega) only [↓q_run_s, q_stop_n, q_stop_c, q_lg_c, q_ls_d, q_ld_n, q_ld_c, q_cat_i, q_cat_r, q_cat_n, q_wd_n, q_wd_c, q_bx_1, q_bx_2, q_bx_3, q_bx_4, q_bx_5, q_bx_6, q_bx_7, q_bx_8, q_pop_0, q_pop_s, ↓reduceIte, Nat.reduceEqDiff, reduceCtorEq, eq_self, Bool.false_eq_true, Nat.reduceAdd, Nat.reduceSub, Nat.reduceMul, Nat.reduceLeDiff, Nat.reduceLT, Nat.le_refl, Nat.zero_le, true_and, and_true, false_and, and_false, or_false, false_or, true_or, or_true, not_true_eq_false, not_false_eq_true, if_true, if_false, List.getElem?_cons_zero, List.getElem?_cons_succ, List.set_cons_zero, List.set_cons_succ, List.length_cons, List.length_nil, ↓tX11_parted_0, ↓tX11_parted_1, ↓tX11_parted_2, ↓tX11_parted_3, ↓tX11_parted_4, ↓tX11_parted_7, ↓oAl, ↓oCallVA, ↓oIl, ↓oIret, ↓oK, q_set_s, q_set_n, z_clamp, z_ltI, z_leI, z_eqI, z_lt0, z_ge0, z_eq0I, z_gt0I, z_le0I, z_m1lt, z_m1ge, z_m1eq, z_m1eq', z_inT, z_add, z_sub, z_mul, z_div, z_rem, n_ltT, n_ltF, n_leT, n_leF, n_eqT, n_eqF, z_11, q_tl_i, q_tl_n, q_ap_n, q_ap_c]
    exact h'
  · have h' := hF hno
    refine q_X.run sX11_parted [] 40 ?_
    simp (maxSteps := 10000000) (disch := omega) only [↓q_run_s, q_stop_n, q_stop_c, q_lg_c, q_ls_d, q_ld_n, q_ld_c, q_cat_i, q_cat_r, q_cat_n, q_wd_n, q_wd_c, q_bx_1, q_bx_2, q_bx_3, q_bx_4, q_bx_5, q_bx_6, q_bx_7, q_bx_8, q_pop_0, q_pop_s, ↓reduceIte, Nat.reduceEqDiff, reduceCtorEq, eq_self, Bool.false_eq_true, Nat.reduceAdd, Nat.reduceSub, Nat.reduceMul, Nat.reduceLeDiff, Nat.reduceLT, Nat.le_refl, Nat.zero_le, true_and, and_true, false_and, and_false, or_false, false_or, true_or, or_true, not_true_eq_false, not_false_eq_true, if_true, if_false, List.getElem?_cons_zero, List.getElem?_cons_succ, List.set_cons_zero, List.set_cons_succ, List.length_cons, List.length_nil, ↓tX11_parted_0, ↓tX11_parted_1, ↓tX11_parted_2, ↓tX11_parted_3, ↓tX11_parted_4, ↓tX11_parted_7, ↓oAl, ↓oCallVA, ↓oIl, ↓oIret, ↓oK, q_set_s, q_set_n, z_clamp, z_ltI, z_leI, z_eqI, z_lt0, z_ge0, z_eq0I, z_gt0I, z_le0I, z_m1lt, z_m1ge, z_m1eq, z_m1eq', z_inT, z_add, z_sub, z_mul, z_div, z_rem, n_ltT, n_ltF, n_leT, n_leF, n_eqT, n_eqF, z_11, q_tl_i, q_tl_n, q_ap_n, q_ap_c]
    exact h'
set_option maxRecDepth 100000 in
set_option maxHeartbeats 8000000 in
theorem v11_alike {v u : Int32} (h : w_All M io r b zp zc zf T tp P S D tb k σ as s A B) (hd : 12 ≤ d) (hroom : (∃ p p' ta tc, m_two P v u p p' ta tc) → zp = none → 3 ≤ mc ∧ 8453 ≤ ms) (hT : ∀ p p' ta tc ka kb o z M', m_two P v u p p' ta tc → t_nodes ta ≤ 12 → t_nodes tc ≤ 12 → g_ok ka ta 0 → g_ok kb tc 0 → b_res (p_nx ta tc ka kb) 4224 (p_C ta tc 0) o → w_All M' io r b (some z) zc zf T tp P S D tb k σ as s A B → Q (some (.int (nI (if o = none then 1 else 0)))) M') (hF : (∀ p p' ta tc, ¬ m_two P v u p p' ta tc) → Q (some (.int (-1))) M) : q_Call G L d mX11_alike mc ms [.ref io, .int v, .int u] M Q := by
  have hob := h.2.1.1
  refine q_Call.of [(0, .ref io), (1, .int v), (2, .int u)] rfl ?_
  refine q_X.run sX11_alike [] 40 ?_
  simp (maxSteps := 10000000) (disch := omega) only [↓q_run_s, q_stop_n, q_stop_c, q_lg_c, q_ls_d, q_ld_n, q_ld_c, q_cat_i, q_cat_r, q_cat_n, q_wd_n, q_wd_c, q_bx_1, q_bx_2, q_bx_3, q_bx_4, q_bx_5, q_bx_6, q_bx_7, q_bx_8, q_pop_0, q_pop_s, ↓reduceIte, Nat.reduceEqDiff, reduceCtorEq, eq_self, Bool.false_eq_true, Nat.reduceAdd, Nat.reduceSub, Nat.reduceMul, Nat.reduceLeDiff, Nat.reduceLT, Nat.le_refl, Nat.zero_le, true_and, and_true, false_and, and_false, or_false, false_or, true_or, or_true, not_true_eq_false, not_false_eq_true, if_true, if_false, List.getElem?_cons_zero, List.getElem?_cons_succ, List.set_cons_zero, List.set_cons_succ, List.length_cons, List.length_nil, ↓tX11_alike_0, ↓tX11_alike_1, ↓tX11_alike_2, ↓tX11_alike_3, ↓tX11_alike_4, ↓tX11_alike_7, ↓tX11_alike_8, ↓tX11_alike_9, ↓tX11_alike_10, ↓tX11_alike_13, ↓tX11_alike_14, ↓tX11_alike_15, ↓tX11_alike_16, ↓tX11_alike_18, ↓tX11_alike_21, ↓tX11_alike_22, ↓tX11_alike_25, ↓tX11_alike_26, ↓oAl, ↓oCallVA, ↓oGo, ↓oIf2ne, ↓oIl, ↓oIret, ↓oIs, ↓oK, q_set_s, q_set_n, z_clamp, z_ltI, z_leI, z_eqI, z_lt0, z_ge0, z_eq0I, z_gt0I, z_le0I, z_m1lt, z_m1ge, z_m1eq, z_m1eq', z_inT, z_add, z_sub, z_mul, z_div, z_rem, n_ltT, n_ltF, n_leT, n_leF, n_eqT, n_eqF, z_11, q_tl_i, q_tl_n, q_ap_n, q_ap_c, hob]
  refine ⟨mc, ms, by omega, by omega, ?_⟩
  refine v11_partingRow h (Or.inl rfl) (by omega) hroom (fun p p' ta tc ka kb o R z M' h1 h2 h3 h4 h5 h6 h7 h8 => ?_) (fun hno => ?_)
  · have h' := hT p p' ta tc ka kb o z M' h1 h2 h3 h4 h5 h6 h8
    obtain ⟨n1, n2⟩ := p_out_b h6 h7
    generalize p_out R o = ans at *
    by_cases c : o = none
    · rw [if_pos c] at h'
      have ea := n2.mpr c
      subst ea
      refine q_X.run sX11_alike [] 40 ?_
      simp (maxSteps := 10000000) (disch := omega) only [↓q_run_s, q_stop_n, q_stop_c, q_lg_c, q_ls_d, q_ld_n, q_ld_c, q_cat_i, q_cat_r, q_cat_n, q_wd_n, q_wd_c, q_bx_1, q_bx_2, q_bx_3, q_bx_4, q_bx_5, q_bx_6, q_bx_7, q_bx_8, q_pop_0, q_pop_s, ↓reduceIte, Nat.reduceEqDiff, reduceCtorEq, eq_self, Bool.false_eq_true, Nat.reduceAdd, Nat.reduceSub, Nat.reduceMul, Nat.reduceLeDiff, Nat.reduceLT, Nat.le_refl, Nat.zero_le, true_and, and_true, false_and, and_false, or_false, false_or, true_or, or_true, not_true_eq_false, not_false_eq_true, if_true, if_false, List.getElem?_cons_zero, List.getElem?_cons_succ, List.set_cons_zero, List.set_cons_succ, List.length_cons, List.length_nil, ↓tX11_alike_0, ↓tX11_alike_1, ↓tX11_alike_2, ↓tX11_alike_3, ↓tX11_alike_4, ↓tX11_alike_7, ↓tX11_alike_8, ↓tX11_alike_9, ↓tX11_alike_10, ↓tX11_alike_13, ↓tX11_alike_14, ↓tX11_alike_15, ↓tX11_alike_16, ↓tX11_alike_18, ↓tX11_alike_21, ↓tX11_alike_22, ↓tX11_alike_25, ↓tX11_alike_26, ↓oAl, ↓oCallVA, ↓oGo, ↓oIf2ne, ↓oIl, ↓oIret, ↓oIs, ↓oK, q_set_s, q_set_n, z_clamp, z_ltI, z_leI, z_eqI, z_lt0, z_ge0, z_eq0I, z_gt0I, z_le0I, z_m1lt, z_m1ge, z_m1eq, z_m1eq', z_inT, z_add, z_sub, z_mul, z_div, z_rem, n_ltT, n_ltF, n_leT, n_leF, n_eqT, n_eqF, z_11, q_tl_i, q_tl_n, q_ap_n, q_ap_c, n1]
      exact h'
    · rw [if_neg c] at h'
      have n2' : ¬ ans = -2 := fun g => c (n2.mp g)
      refine q_X.run sX11_alike [] 40 ?_
      simp (maxSteps := 10000000) (disch := omega) only [↓q_run_s, q_stop_n, q_stop_c, q_lg_c, q_ls_d, q_ld_n, q_ld_c, q_cat_i, q_cat_r, q_cat_n, q_wd_n, q_wd_c, q_bx_1, q_bx_2, q_bx_3, q_bx_4, q_bx_5, q_bx_6, q_bx_7, q_bx_8, q_pop_0, q_pop_s, ↓reduceIte, Nat.reduceEqDiff, reduceCtorEq, eq_self, Bool.false_eq_true, Nat.reduceAdd, Nat.reduceSub, Nat.reduceMul, Nat.reduceLeDiff, Nat.reduceLT, Nat.le_refl, Nat.zero_le, true_and, and_true, false_and, and_false, or_false, false_or, true_or, or_true, not_true_eq_false, not_false_eq_true, if_true, if_false, List.getElem?_cons_zero, List.getElem?_cons_succ, List.set_cons_zero, List.set_cons_succ, List.length_cons, List.length_nil, ↓tX11_alike_0, ↓tX11_alike_1, ↓tX11_alike_2, ↓tX11_alike_3, ↓tX11_alike_4, ↓tX11_alike_7, ↓tX11_alike_8, ↓tX11_alike_9, ↓tX11_alike_10, ↓tX11_alike_13, ↓tX11_alike_14, ↓tX11_alike_15, ↓tX11_alike_16, ↓tX11_alike_18, ↓tX11_alike_21, ↓tX11_alike_22, ↓tX11_alike_25, ↓tX11_alike_26, ↓oAl, ↓oCallVA, ↓oGo, ↓oIf2ne, ↓oIl, ↓oIret, ↓oIs, ↓oK, q_set_s, q_set_n, z_clamp, z_ltI, z_leI, z_eqI, z_lt0, z_ge0, z_eq0I, z_gt0I, z_le0I, z_m1lt, z_m1ge, z_m1eq, z_m1eq', z_inT, z_add, z_sub, z_mul, z_div, z_rem, n_ltT, n_ltF, n_leT, n_leF, n_eqT, n_eqF, z_11, q_tl_i, q_tl_n, q_ap_n, q_ap_c, n1, n2']
      exact h'
  · have h' := hF hno
    refine q_X.run sX11_alike [] 40 ?_
    simp (maxSteps := 10000000) (disch := omega) only [↓q_run_s, q_stop_n, q_stop_c, q_lg_c, q_ls_d, q_ld_n, q_ld_c, q_cat_i, q_cat_r, q_cat_n, q_wd_n, q_wd_c, q_bx_1, q_bx_2, q_bx_3, q_bx_4, q_bx_5, q_bx_6, q_bx_7, q_bx_8, q_pop_0, q_pop_s, ↓reduceIte, Nat.reduceEqDiff, reduceCtorEq, eq_self, Bool.false_eq_true, Nat.reduceAdd, Nat.reduceSub, Nat.reduceMul, Nat.reduceLeDiff, Nat.reduceLT, Nat.le_refl, Nat.zero_le, true_and, and_true, false_and, and_false, or_false, false_or, true_or, or_true, not_true_eq_false, not_false_eq_true, if_true, if_false, List.getElem?_cons_zero, List.getElem?_cons_succ, List.set_cons_zero, List.set_cons_succ, List.length_cons, List.length_nil, ↓tX11_alike_0, ↓tX11_alike_1, ↓tX11_alike_2, ↓tX11_alike_3, ↓tX11_alike_4, ↓tX11_alike_7, ↓tX11_alike_8, ↓tX11_alike_9, ↓tX11_alike_10, ↓tX11_alike_13, ↓tX11_alike_14, ↓tX11_alike_15, ↓tX11_alike_16, ↓tX11_alike_18, ↓tX11_alike_21, ↓tX11_alike_22, ↓tX11_alike_25, ↓tX11_alike_26, ↓oAl, ↓oCallVA, ↓oGo, ↓oIf2ne, ↓oIl, ↓oIret, ↓oIs, ↓oK, q_set_s, q_set_n, z_clamp, z_ltI, z_leI, z_eqI, z_lt0, z_ge0, z_eq0I, z_gt0I, z_le0I, z_m1lt, z_m1ge, z_m1eq, z_m1eq', z_inT, z_add, z_sub, z_mul, z_div, z_rem, n_ltT, n_ltF, n_leT, n_leF, n_eqT, n_eqF, z_11, q_tl_i, q_tl_n, q_ap_n, q_ap_c]
    exact h'
set_option maxRecDepth 100000 in
set_option maxHeartbeats 8000000 in
theorem v11_inside {v u : Int32} (h : w_All M io r b zp zc zf T tp P S D tb k σ as s A B) (hd : 12 ≤ d) (hroom : (∃ p p' ta tc, m_two P v u p p' ta tc) → zp = none → 3 ≤ mc ∧ 8453 ≤ ms) (hT : ∀ p p' ta tc ka kb o z M', m_two P v u p p' ta tc → t_nodes ta ≤ 12 → t_nodes tc ≤ 12 → g_ok ka ta 0 → g_ok kb tc 0 → b_res (p_nx ta tc ka kb) 4224 (p_C ta tc 1) o → w_All M' io r b (some z) zc zf T tp P S D tb k σ as s A B → Q (some (.int (nI (if o = none then 1 else 0)))) M') (hF : (∀ p p' ta tc, ¬ m_two P v u p p' ta tc) → Q (some (.int (-1))) M) : q_Call G L d mX11_inside mc ms [.ref io, .int v, .int u] M Q := by
  have hob := h.2.1.1
  refine q_Call.of [(0, .ref io), (1, .int v), (2, .int u)] rfl ?_
  refine q_X.run sX11_inside [] 40 ?_
  simp (maxSteps := 10000000) (disch := omega) only [↓q_run_s, q_stop_n, q_stop_c, q_lg_c, q_ls_d, q_ld_n, q_ld_c, q_cat_i, q_cat_r, q_cat_n, q_wd_n, q_wd_c, q_bx_1, q_bx_2, q_bx_3, q_bx_4, q_bx_5, q_bx_6, q_bx_7, q_bx_8, q_pop_0, q_pop_s, ↓reduceIte, Nat.reduceEqDiff, reduceCtorEq, eq_self, Bool.false_eq_true, Nat.reduceAdd, Nat.reduceSub, Nat.reduceMul, Nat.reduceLeDiff, Nat.reduceLT, Nat.le_refl, Nat.zero_le, true_and, and_true, false_and, and_false, or_false, false_or, true_or, or_true, not_true_eq_false, not_false_eq_true, if_true, if_false, List.getElem?_cons_zero, List.getElem?_cons_succ, List.set_cons_zero, List.set_cons_succ, List.length_cons, List.length_nil, ↓tX11_inside_0, ↓tX11_inside_1, ↓tX11_inside_2, ↓tX11_inside_3, ↓tX11_inside_4, ↓tX11_inside_7, ↓tX11_inside_8, ↓tX11_inside_9, ↓tX11_inside_10, ↓tX11_inside_13, ↓tX11_inside_14, ↓tX11_inside_15, ↓tX11_inside_16, ↓tX11_inside_18, ↓tX11_inside_21, ↓tX11_inside_22, ↓tX11_inside_25, ↓tX11_inside_26, ↓oAl, ↓oCallVA, ↓oGo, ↓oIf2ne, ↓oIl, ↓oIret, ↓oIs, ↓oK, q_set_s, q_set_n, z_clamp, z_ltI, z_leI, z_eqI, z_lt0, z_ge0, z_eq0I, z_gt0I, z_le0I, z_m1lt, z_m1ge, z_m1eq, z_m1eq', z_inT, z_add, z_sub, z_mul, z_div, z_rem, n_ltT, n_ltF, n_leT, n_leF, n_eqT, n_eqF, z_11, q_tl_i, q_tl_n, q_ap_n, q_ap_c, hob]
  refine ⟨mc, ms, by omega, by omega, ?_⟩
  refine v11_partingRow h (Or.inr rfl) (by omega) hroom (fun p p' ta tc ka kb o R z M' h1 h2 h3 h4 h5 h6 h7 h8 => ?_) (fun hno => ?_)
  · have h' := hT p p' ta tc ka kb o z M' h1 h2 h3 h4 h5 h6 h8
    obtain ⟨n1, n2⟩ := p_out_b h6 h7
    generalize p_out R o = ans at *
    by_cases c : o = none
    · rw [if_pos c] at h'
      have ea := n2.mpr c
      subst ea
      refine q_X.run sX11_inside [] 40 ?_
      simp (maxSteps := 10000000) (disch := omega) only [↓q_run_s, q_stop_n, q_stop_c, q_lg_c, q_ls_d, q_ld_n, q_ld_c, q_cat_i, q_cat_r, q_cat_n, q_wd_n, q_wd_c, q_bx_1, q_bx_2, q_bx_3, q_bx_4, q_bx_5, q_bx_6, q_bx_7, q_bx_8, q_pop_0, q_pop_s, ↓reduceIte, Nat.reduceEqDiff, reduceCtorEq, eq_self, Bool.false_eq_true, Nat.reduceAdd, Nat.reduceSub, Nat.reduceMul, Nat.reduceLeDiff, Nat.reduceLT, Nat.le_refl, Nat.zero_le, true_and, and_true, false_and, and_false, or_false, false_or, true_or, or_true, not_true_eq_false, not_false_eq_true, if_true, if_false, List.getElem?_cons_zero, List.getElem?_cons_succ, List.set_cons_zero, List.set_cons_succ, List.length_cons, List.length_nil, ↓tX11_inside_0, ↓tX11_inside_1, ↓tX11_inside_2, ↓tX11_inside_3, ↓tX11_inside_4, ↓tX11_inside_7, ↓tX11_inside_8, ↓tX11_inside_9, ↓tX11_inside_10, ↓tX11_inside_13, ↓tX11_inside_14, ↓tX11_inside_15, ↓tX11_inside_16, ↓tX11_inside_18, ↓tX11_inside_21, ↓tX11_inside_22, ↓tX11_inside_25, ↓tX11_inside_26, ↓oAl, ↓oCallVA, ↓oGo, ↓oIf2ne, ↓oIl, ↓oIret, ↓oIs, ↓oK, q_set_s, q_set_n, z_clamp, z_ltI, z_leI, z_eqI, z_lt0, z_ge0, z_eq0I, z_gt0I, z_le0I, z_m1lt, z_m1ge, z_m1eq, z_m1eq', z_inT, z_add, z_sub, z_mul, z_div, z_rem, n_ltT, n_ltF, n_leT, n_leF, n_eqT, n_eqF, z_11, q_tl_i, q_tl_n, q_ap_n, q_ap_c, n1]
      exact h'
    · rw [if_neg c] at h'
      have n2' : ¬ ans = -2 := fun g => c (n2.mp g)
      refine q_X.run sX11_inside [] 40 ?_
      simp (maxSteps := 10000000) (disch := omega) only [↓q_run_s, q_stop_n, q_stop_c, q_lg_c, q_ls_d, q_ld_n, q_ld_c, q_cat_i, q_cat_r, q_cat_n, q_wd_n, q_wd_c, q_bx_1, q_bx_2, q_bx_3, q_bx_4, q_bx_5, q_bx_6, q_bx_7, q_bx_8, q_pop_0, q_pop_s, ↓reduceIte, Nat.reduceEqDiff, reduceCtorEq, eq_self, Bool.false_eq_true, Nat.reduceAdd, Nat.reduceSub, Nat.reduceMul, Nat.reduceLeDiff, Nat.reduceLT, Nat.le_refl, Nat.zero_le, true_and, and_true, false_and, and_false, or_false, false_or, true_or, or_true, not_true_eq_false, not_false_eq_true, if_true, if_false, List.getElem?_cons_zero, List.getElem?_cons_succ, List.set_cons_zero, List.set_cons_succ, List.length_cons, List.length_nil, ↓tX11_inside_0, ↓tX11_inside_1, ↓tX11_inside_2, ↓tX11_inside_3, ↓tX11_inside_4, ↓tX11_inside_7, ↓tX11_inside_8, ↓tX11_inside_9, ↓tX11_inside_10, ↓tX11_inside_13, ↓tX11_inside_14, ↓tX11_inside_15, ↓tX11_inside_16, ↓tX11_inside_18, ↓tX11_inside_21, ↓tX11_inside_22, ↓tX11_inside_25, ↓tX11_inside_26, ↓oAl, ↓oCallVA, ↓oGo, ↓oIf2ne, ↓oIl, ↓oIret, ↓oIs, ↓oK, q_set_s, q_set_n, z_clamp, z_ltI, z_leI, z_eqI, z_lt0, z_ge0, z_eq0I, z_gt0I, z_le0I, z_m1lt, z_m1ge, z_m1eq, z_m1eq', z_inT, z_add, z_sub, z_mul, z_div, z_rem, n_ltT, n_ltF, n_leT, n_leF, n_eqT, n_eqF, z_11, q_tl_i, q_tl_n, q_ap_n, q_ap_c, n1, n2']
      exact h'
  · have h' := hF hno
    refine q_X.run sX11_inside [] 40 ?_
    simp (maxSteps := 10000000) (disch := omega) only [↓q_run_s, q_stop_n, q_stop_c, q_lg_c, q_ls_d, q_ld_n, q_ld_c, q_cat_i, q_cat_r, q_cat_n, q_wd_n, q_wd_c, q_bx_1, q_bx_2, q_bx_3, q_bx_4, q_bx_5, q_bx_6, q_bx_7, q_bx_8, q_pop_0, q_pop_s, ↓reduceIte, Nat.reduceEqDiff, reduceCtorEq, eq_self, Bool.false_eq_true, Nat.reduceAdd, Nat.reduceSub, Nat.reduceMul, Nat.reduceLeDiff, Nat.reduceLT, Nat.le_refl, Nat.zero_le, true_and, and_true, false_and, and_false, or_false, false_or, true_or, or_true, not_true_eq_false, not_false_eq_true, if_true, if_false, List.getElem?_cons_zero, List.getElem?_cons_succ, List.set_cons_zero, List.set_cons_succ, List.length_cons, List.length_nil, ↓tX11_inside_0, ↓tX11_inside_1, ↓tX11_inside_2, ↓tX11_inside_3, ↓tX11_inside_4, ↓tX11_inside_7, ↓tX11_inside_8, ↓tX11_inside_9, ↓tX11_inside_10, ↓tX11_inside_13, ↓tX11_inside_14, ↓tX11_inside_15, ↓tX11_inside_16, ↓tX11_inside_18, ↓tX11_inside_21, ↓tX11_inside_22, ↓tX11_inside_25, ↓tX11_inside_26, ↓oAl, ↓oCallVA, ↓oGo, ↓oIf2ne, ↓oIl, ↓oIret, ↓oIs, ↓oK, q_set_s, q_set_n, z_clamp, z_ltI, z_leI, z_eqI, z_lt0, z_ge0, z_eq0I, z_gt0I, z_le0I, z_m1lt, z_m1ge, z_m1eq, z_m1eq', z_inT, z_add, z_sub, z_mul, z_div, z_rem, n_ltT, n_ltF, n_leT, n_leF, n_eqT, n_eqF, z_11, q_tl_i, q_tl_n, q_ap_n, q_ap_c]
    exact h'
end
