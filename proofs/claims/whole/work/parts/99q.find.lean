/-! the class: find, next, found, open, ask, asked, noise -/
section
variable {G : qC} {L : Launch} {d : Nat} {Q : Option Value → qM → Prop} {M : qM} {mc ms : Nat} {io r b : Nat} {zp : Option Nat} {zc : Option Nat} {zf : Option (Nat × Nat)} {T : Nat} {tp : Nat → Nat} {P : Nat → Option qT} {S : Nat} {D : Nat → yD} {tb : Nat} {k : Nat} {σ : fS} {as : Nat} {s : Nat → Int32} {A : Nat → Nat → Int32} {B : Nat → Nat → Int64}
theorem w_All.get {f g c : Nat} (h : w_All M io r b zp (some c) (some (f, g)) T tp P S D tb k σ as s A B) : ∃ X s1 A1 B1 sm Am μ z Ac kc lc rc sh Ah, (X 0 = c ∧ X 1 = io + 30 ∧ X 2 = g) ∧ q_fj (q_sp M (f + X 2 + 9) 4937 B1) f X s1 A1 = M ∧ M.2 f = some (.inr (2, fjO f X s1)) ∧ f_On M f X Ac kc lc rc sh Ah sm Am ∧ k_Cat Ac kc lc rc ∧ w_Shw sh Ah S D tb ∧ f_Mu (A1 3) sm Am μ z ∧ f_St s1 A1 μ S D k σ as ∧ q_hs M.2 (f + g + 1) (meE (f + g + 1) sm Am) ∧ b ≤ f := by
  have hn := h.1
  obtain ⟨f1, f2, c', f3, f4, X, s1, A1, B1, sm, Am, μ, z, hX, q1, q2, q3, q4, q5⟩ := h.2.2.2.2.2.2.2.2.2.2.2.2.2.1.2 f g rfl
  cases f3
  obtain ⟨-, -, Ac, kc, lc, rc, c1, c2, c3⟩ := h.2.2.2.2.2.2.2.2.2.2.2.2.1 c rfl
  obtain ⟨sh, Ah, w1, w2⟩ := h.2.2.2.2.2.2.2.2.1
  obtain ⟨rfl, hX1, rfl⟩ := hX
  have e1 : q_sp M (f + X 2 + 9) 4937 B1 = M := q3.og
  have e2 : q_fj M f X s1 A1 = M := q1.og
  refine ⟨X, s1, A1, B1, sm, Am, μ, z, Ac, kc, lc, rc, sh, Ah, ⟨rfl, hX1, rfl⟩, by rw [e1, e2], q1 0 _ fjE_0, ⟨c1.og, c2, ?_, q2.og, f4, by omega⟩, c3, w2, q4, q5, q2, f1⟩
  rw [hX1]
  exact w1.og
theorem w_All.fin {f g c k' as' : Nat} {σ' : fS} {X : Nat → Nat} {s1 : Nat → Int32} {A1 : Nat → Nat → Int32} {B1 : Nat → Nat → Int64} {sm : Nat → Int32} {Am : Nat → Nat → Int32} {μ : Nat → Nat} {z : Nat} (h : w_All M io r b zp (some c) (some (f, g)) T tp P S D tb k σ as s A B) (hX : X 0 = c ∧ X 1 = io + 30 ∧ X 2 = g) (hme : q_hs M.2 (f + g + 1) (meE (f + g + 1) sm Am)) (hMu : f_Mu (A1 3) sm Am μ z) (hSt : f_St s1 A1 μ S D k' σ' as') : w_All (q_fj (q_sp M (f + X 2 + 9) 4937 B1) f X s1 A1) io r b zp (some c) (some (f, g)) T tp P S D tb k' σ' as' s A B := by
  obtain ⟨rfl, hX1, rfl⟩ := hX
  refine h.fi rfl (fun c' e => ?_) (Nat.le_refl _) (fun x h0 h1 => ?_)
  · cases e
    refine ⟨X, s1, A1, B1, sm, Am, μ, z, ⟨rfl, hX1, rfl⟩, og_hs, ?_, ?_, hMu, hSt⟩
    · exact hme.cg (n := 6) (fun k h => meE_none h) fun x h1 h2 => by rw [fj_out (by omega) (by omega), sp_out (by omega)]
    · have q1 : q_hs (q_sp M (f + X 2 + 9) 4937 B1).2 (f + X 2 + 9) (spE (f + X 2 + 9) 4937 B1) := og_hs
      exact q1.cg (n := 3) (fun k h => spE_none h) fun x h1 h2 => fj_out (by omega) (by omega)
  · rw [fj_out h0 (by omega), sp_out (by omega)]
theorem f_St_0P {s : Nat → Int32} {A : Nat → Nat → Int32} {μ : Nat → Nat} (h : f_St s A μ S D k σ as) : ∃ sr P, s 12 = nI sr ∧ sr ≤ k ∧ f_Met (A 11) μ sr P := by
  obtain ⟨-, -, -, sr, s1, s2, s3⟩ := h
  cases σ with
  | none => obtain ⟨-, -, P, hP⟩ := s3; exact ⟨sr, P, s1, s2, hP⟩
  | some x => obtain ⟨-, -, -, -, -, -, -, -, -, -, -, hP⟩ := s3; exact ⟨sr, _, s1, s2, hP⟩
set_option maxRecDepth 100000 in
set_option maxHeartbeats 8000000 in
theorem v2_begin {f g c K c0 : Nat} (h : w_All M io r b zp (some c) (some (f, g)) T tp P S D tb k σ as s A B) (hk : k ≤ 600) (hK : K < 64) (hc2 : 2 ≤ c0) (hc : c0 ≤ 10) (hd : 4 ≤ d) (hQ : ∀ M', w_All M' io r b zp (some c) (some (f, g)) T tp P S D tb (k + 1) (some (K, c0, 0, 0, fun _ => 0)) as s A B → Q none M') : q_Call G L d mX2_begin 0 0 [.ref f, .int (nI K), .int (nI c0)] M Q := by
  obtain ⟨X, s1, A1, B1, sm, Am, μ, z, Ac, kc, lc, rc, sh, Ah, hX, eM, pf, hO, hC, hS, hMu, hSt, hme, hbf⟩ := h.get
  obtain ⟨sr, P0, s12, hsr, hMet⟩ := f_St_0P hSt
  have key := fun Q => c2_begin (G := G) (L := L) (d := d) (Q := Q) (M0 := M) (i := f) (X := X) (s := s1) (A := A1) (B := B1) (K := K) (c := c0) hO hC s12 (by omega) hc2 hc (by omega)
  rw [eM] at key
  refine key _ ?_
  refine hQ _ (h.fin hX hme hMu ?_)
  obtain ⟨j1, ⟨n, P1, n1, n2, n3⟩, j3, -⟩ := hSt
  have hF := k_F_1 hc
  refine ⟨?_, ⟨n, P1, ?_, by omega, n3⟩, ?_, sr + 1, ?_, by omega, by omega, hK, hc2, hc, ?_, ?_, ?_, ?_, Nat.le_refl _, by omega, fun j hj => absurd hj (by omega), ?_⟩
  · obtain ⟨J, a1, a2, a3⟩ := j1
    exact ⟨J, by simp (disch := decide) only [va_up_ne]; exact a1, a2, a3⟩
  · simp (disch := decide) only [va_up_ne]; exact n1
  · simp (disch := decide) only [va_up_ne]; exact j3
  · simp (disch := decide) only [va_up_ne, va_up_self]
  · simp (disch := decide) only [va_up_ne, va_up_self]
  · simp (disch := decide) only [va_up_ne, va_up_self]; rw [Nat.zero_min]
  · simp (disch := decide) only [va_up_ne, va_up_self]
  · simp (disch := decide) only [va_up_ne, va_up_self]
  · exact f_Met_cg (f_Met_next hMet (by omega)) fun y => ⟨fun ⟨j, hj, _⟩ => absurd hj (by omega), fun g => g.elim⟩
set_option maxRecDepth 100000 in
set_option maxHeartbeats 8000000 in
theorem v2_goOn {f g c K c0 a m : Nat} {fnd : Nat → Nat} (h : w_All M io r b zp (some c) (some (f, g)) T tp P S D tb k (some (K, c0, a, m, fnd)) as s A B) (hk : k ≤ 600) (hd : 8 ≤ d) (hN : ∀ M', (∀ q, a ≤ q → q < 4937 → ¬ e_can K c0 D (fun j => tb.testBit j) S m fnd q) → w_All M' io r b zp (some c) (some (f, g)) T tp P S D tb k (some (K, c0, 4937, m, fnd)) as s A B → Q (some (.int (-1))) M') (hT : ∀ q M', a ≤ q → q < 4937 → e_can K c0 D (fun j => tb.testBit j) S m fnd q → (∀ q', a ≤ q' → q' < q → ¬ e_can K c0 D (fun j => tb.testBit j) S m fnd q') → w_All M' io r b zp (some c) (some (f, g)) T tp P S D tb k (some (K, c0, q + 1, m + 1, fun j => if j = m then q else fnd j)) as s A B → Q (some (.int (nI q))) M') : q_Call G L d mX2_goOn 0 0 [.ref f] M Q := by
  obtain ⟨X, s1, A1, B1, sm, Am, μ, z, Ac, kc, lc, rc, sh, Ah, hX, eM, pf, hO, hC, hS, hMu, hSt, hme, hbf⟩ := h.get
  obtain ⟨⟨J, a1, a2, a3⟩, ⟨n, P1, n1, n2, n3⟩, j3, sr, s12, hsr, sr1, hK, hc2, hc, s13, s14, s15, s16, hma, ha, hfnd, hMet⟩ := hSt
  have hF := k_F_1 hc
  have hlt : ∀ q, q < 4937 → e_can K c0 D (fun j => tb.testBit j) S m fnd q → q < k_F (c0 + 1) := fun q hq he => (e_lt hq hc).mp he.1.2
  have key := fun Q => c2_goOn (G := G) (L := L) (d := d) (Q := Q) (M0 := M) (i := f) (X := X) (s := s1) (A := A1) (B := B1) (K := K) (c := c0) hO hC hS a1 a2 a3 hMu s12 (by omega) s13 hK hc s14 s15 (Nat.min_le_right _ _) s16 (by omega) hfnd hMet (by omega)
  rw [eM] at key
  refine key _ (fun s' A' B' hno es hA' hAg => ?_) (fun q s' A' B' h1 h2 h3 h4 es hA' hA11 hAg => ?_)
  · refine hN _ (fun q h1 h2 h3 => hno q (by omega) (hlt q h2 h3) h3) (h.fin hX hme (by rw [hA' 3 (by decide)]; exact hMu) ?_)
    subst es
    refine ⟨⟨S, ?_, Nat.le_refl _, hAg⟩, ⟨n, P1, ?_, n2, by rw [hA' 7 (by decide)]; exact n3⟩, ?_, sr, ?_, hsr, sr1, hK, hc2, hc, ?_, ?_, ?_, ?_, by omega, Nat.le_refl _, hfnd, by rw [hA' 11 (by decide)]; exact hMet⟩
    · simp (disch := decide) only [va_up_ne, va_up_self]
    · simp (disch := decide) only [va_up_ne]; exact n1
    · simp (disch := decide) only [va_up_ne]; exact j3
    · simp (disch := decide) only [va_up_ne]; exact s12
    · simp (disch := decide) only [va_up_ne]; exact s13
    · rw [va_up_self, Nat.min_eq_right hF]
    · simp (disch := decide) only [va_up_ne]; exact s15
    · simp (disch := decide) only [va_up_ne]; exact s16
  · have haq : a ≤ q := by omega
    refine hT q _ haq (by omega) h3 (fun q' g1 g2 => h4 q' (by omega) g2) (h.fin hX hme (by rw [hA' 3 (by decide) (by decide)]; exact hMu) ?_)
    subst es
    refine ⟨⟨S, ?_, Nat.le_refl _, hAg⟩, ⟨n, P1, ?_, n2, by rw [hA' 7 (by decide) (by decide)]; exact n3⟩, ?_, sr, ?_, hsr, sr1, hK, hc2, hc, ?_, ?_, ?_, ?_, by omega, by omega, fun j hj => ?_, ?_⟩
    · simp (disch := decide) only [va_up_ne, va_up_self]
    · simp (disch := decide) only [va_up_ne]; exact n1
    · simp (disch := decide) only [va_up_ne]; exact j3
    · simp (disch := decide) only [va_up_ne]; exact s12
    · simp (disch := decide) only [va_up_ne]; exact s13
    · rw [va_up_ne _ _ (by decide), va_up_self, Nat.min_eq_left (by omega)]
    · simp (disch := decide) only [va_up_ne]; exact s15
    · rw [va_up_self]
    · show (if j = m then q else fnd j) < 4937
      by_cases cj : j = m
      · rw [if_pos cj]; omega
      · rw [if_neg cj]; exact hfnd j (by omega)
    · rw [hA11]
      refine f_Met_step hMet fun y => ⟨fun ⟨j, hj, e⟩ => ?_, fun g => ?_⟩
      · have e : (if j = m then q else fnd j) = y := e
        by_cases cj : j = m
        · rw [if_pos cj] at e; exact Or.inr e.symm
        · rw [if_neg cj] at e; exact Or.inl ⟨j, by omega, e⟩
      · rcases g with ⟨j, hj, e⟩ | e
        · exact ⟨j, by omega, by show (if j = m then q else fnd j) = y; rw [if_neg (by omega)]; exact e⟩
        · exact ⟨m, by omega, by show (if m = m then q else fnd m) = y; rw [if_pos rfl]; exact e.symm⟩
set_option maxRecDepth 100000 in
set_option maxHeartbeats 8000000 in
theorem v11_find {v u w : Int32} (h : w_All M io r b zp zc zf T tp P S D tb k σ as s A B) (hk : k ≤ 550) (hd : 24 ≤ d) (hroom : (∃ pl K c0, pl < 10 ∧ v = nI pl ∧ e_ask u w K c0) → zf = none → (zc = none → 24 ≤ mc ∧ 47771 ≤ ms) ∧ 15 ≤ mc ∧ 27978 ≤ ms) (hN : ∀ pl K c0 f g c M', pl < 10 → v = nI pl → e_ask u w K c0 → (∀ q, 0 ≤ q → q < 4937 → ¬ e_can K c0 D (fun j => tb.testBit j) S 0 (fun _ => 0) q) → w_All M' io r b zp (some c) (some (f, g)) T tp P S D tb (k + 1) (some (K, c0, 4937, 0, fun _ => 0)) as s A B → Q (some (.int (-2))) M') (hT : ∀ pl K c0 q f g c M', pl < 10 → v = nI pl → e_ask u w K c0 → 0 ≤ q → q < 4937 → e_can K c0 D (fun j => tb.testBit j) S 0 (fun _ => 0) q → (∀ q', 0 ≤ q' → q' < q → ¬ e_can K c0 D (fun j => tb.testBit j) S 0 (fun _ => 0) q') → w_All M' io r b zp (some c) (some (f, g)) T tp (va_up P pl (some (e_t q))) S D tb (k + 1) (some (K, c0, q + 1, 0 + 1, fun j => if j = 0 then q else (fun _ => 0) j)) as s A B → Q (some (.int (nI (t_cost (e_t q))))) M') (hF : (∀ pl K c0, pl < 10 → v = nI pl → ¬ e_ask u w K c0) → Q (some (.int (-1))) M) : q_Call G L d mX11_find mc ms [.ref io, .int v, .int u, .int w] M Q := by
  have hob := h.2.1.1
  refine q_Call.of [(0, .ref io), (1, .int v), (2, .int u), (3, .int w)] rfl ?_
  refine q_X.run sX11_find [] 40 ?_
  simp (maxSteps := 10000000) (disch := omega) only [↓q_run_s, q_stop_n, q_stop_c, q_lg_c, q_ls_d, q_ld_n, q_ld_c, q_cat_i, q_cat_r, q_cat_n, q_wd_n, q_wd_c, q_bx_1, q_bx_2, q_bx_3, q_bx_4, q_bx_5, q_bx_6, q_bx_7, q_bx_8, q_pop_0, q_pop_s, ↓reduceIte, Nat.reduceEqDiff, reduceCtorEq, eq_self, Bool.false_eq_true, Nat.reduceAdd, Nat.reduceSub, Nat.reduceMul, Nat.reduceLeDiff, Nat.reduceLT, Nat.le_refl, Nat.zero_le, true_and, and_true, false_and, and_false, or_false, false_or, true_or, or_true, not_true_eq_false, not_false_eq_true, if_true, if_false, List.getElem?_cons_zero, List.getElem?_cons_succ, List.set_cons_zero, List.set_cons_succ, List.length_cons, List.length_nil, ↓tX11_find_0, ↓tX11_find_1, ↓tX11_find_2, ↓tX11_find_5, ↓tX11_find_7, ↓tX11_find_9, ↓tX11_find_12, ↓tX11_find_13, ↓tX11_find_16, ↓tX11_find_19, ↓tX11_find_20, ↓tX11_find_23, ↓tX11_find_26, ↓tX11_find_27, ↓tX11_find_28, ↓tX11_find_29, ↓tX11_find_32, ↓tX11_find_34, ↓tX11_find_36, ↓tX11_find_37, ↓tX11_find_38, ↓tX11_find_41, ↓tX11_find_42, ↓tX11_find_44, ↓tX11_find_46, ↓tX11_find_49, ↓tX11_find_52, ↓oAl, ↓oAs, ↓oCallS, ↓oCallV, ↓oCallVA, ↓oIf1eq, ↓oIf1ne, ↓oIfn, ↓oIl, ↓oIret, ↓oK, q_set_s, q_set_n, fj_0, fjO_len, q_up_a, z_clamp, z_ltI, z_leI, z_eqI, z_lt0, z_ge0, z_eq0I, z_gt0I, z_le0I, z_m1lt, z_m1ge, z_m1eq, z_m1eq', z_inT, z_add, z_sub, z_mul, z_div, z_rem, n_ltT, n_ltF, n_leT, n_leF, n_eqT, n_eqF, z_11, q_tl_i, q_tl_n, q_ap_n, q_ap_c, hob]
  refine c11_placeAt h.2.1 (fun pl hpl e1 => ?_) (fun hno => ?_)
  · refine q_X.run sX11_find [] 40 ?_
    simp (maxSteps := 10000000) (disch := omega) only [↓q_run_s, q_stop_n, q_stop_c, q_lg_c, q_ls_d, q_ld_n, q_ld_c, q_cat_i, q_cat_r, q_cat_n, q_wd_n, q_wd_c, q_bx_1, q_bx_2, q_bx_3, q_bx_4, q_bx_5, q_bx_6, q_bx_7, q_bx_8, q_pop_0, q_pop_s, ↓reduceIte, Nat.reduceEqDiff, reduceCtorEq, eq_self, Bool.false_eq_true, Nat.reduceAdd, Nat.reduceSub, Nat.reduceMul, Nat.reduceLeDiff, Nat.reduceLT, Nat.le_refl, Nat.zero_le, true_and, and_true, false_and, and_false, or_false, false_or, true_or, or_true, not_true_eq_false, not_false_eq_true, if_true, if_false, List.getElem?_cons_zero, List.getElem?_cons_succ, List.set_cons_zero, List.set_cons_succ, List.length_cons, List.length_nil, ↓tX11_find_0, ↓tX11_find_1, ↓tX11_find_2, ↓tX11_find_5, ↓tX11_find_7, ↓tX11_find_9, ↓tX11_find_12, ↓tX11_find_13, ↓tX11_find_16, ↓tX11_find_19, ↓tX11_find_20, ↓tX11_find_23, ↓tX11_find_26, ↓tX11_find_27, ↓tX11_find_28, ↓tX11_find_29, ↓tX11_find_32, ↓tX11_find_34, ↓tX11_find_36, ↓tX11_find_37, ↓tX11_find_38, ↓tX11_find_41, ↓tX11_find_42, ↓tX11_find_44, ↓tX11_find_46, ↓tX11_find_49, ↓tX11_find_52, ↓oAl, ↓oAs, ↓oCallS, ↓oCallV, ↓oCallVA, ↓oIf1eq, ↓oIf1ne, ↓oIfn, ↓oIl, ↓oIret, ↓oK, q_set_s, q_set_n, fj_0, fjO_len, q_up_a, z_clamp, z_ltI, z_leI, z_eqI, z_lt0, z_ge0, z_eq0I, z_gt0I, z_le0I, z_m1lt, z_m1ge, z_m1eq, z_m1eq', z_inT, z_add, z_sub, z_mul, z_div, z_rem, n_ltT, n_ltF, n_leT, n_leF, n_eqT, n_eqF, z_11, q_tl_i, q_tl_n, q_ap_n, q_ap_c]
    refine c11_isKinds (fun K e2 k1 k2 => ?_) (fun hno => ?_)
    · refine q_X.run sX11_find [] 40 ?_
      simp (maxSteps := 10000000) (disch := omega) only [↓q_run_s, q_stop_n, q_stop_c, q_lg_c, q_ls_d, q_ld_n, q_ld_c, q_cat_i, q_cat_r, q_cat_n, q_wd_n, q_wd_c, q_bx_1, q_bx_2, q_bx_3, q_bx_4, q_bx_5, q_bx_6, q_bx_7, q_bx_8, q_pop_0, q_pop_s, ↓reduceIte, Nat.reduceEqDiff, reduceCtorEq, eq_self, Bool.false_eq_true, Nat.reduceAdd, Nat.reduceSub, Nat.reduceMul, Nat.reduceLeDiff, Nat.reduceLT, Nat.le_refl, Nat.zero_le, true_and, and_true, false_and, and_false, or_false, false_or, true_or, or_true, not_true_eq_false, not_false_eq_true, if_true, if_false, List.getElem?_cons_zero, List.getElem?_cons_succ, List.set_cons_zero, List.set_cons_succ, List.length_cons, List.length_nil, ↓tX11_find_0, ↓tX11_find_1, ↓tX11_find_2, ↓tX11_find_5, ↓tX11_find_7, ↓tX11_find_9, ↓tX11_find_12, ↓tX11_find_13, ↓tX11_find_16, ↓tX11_find_19, ↓tX11_find_20, ↓tX11_find_23, ↓tX11_find_26, ↓tX11_find_27, ↓tX11_find_28, ↓tX11_find_29, ↓tX11_find_32, ↓tX11_find_34, ↓tX11_find_36, ↓tX11_find_37, ↓tX11_find_38, ↓tX11_find_41, ↓tX11_find_42, ↓tX11_find_44, ↓tX11_find_46, ↓tX11_find_49, ↓tX11_find_52, ↓oAl, ↓oAs, ↓oCallS, ↓oCallV, ↓oCallVA, ↓oIf1eq, ↓oIf1ne, ↓oIfn, ↓oIl, ↓oIret, ↓oK, q_set_s, q_set_n, fj_0, fjO_len, q_up_a, z_clamp, z_ltI, z_leI, z_eqI, z_lt0, z_ge0, z_eq0I, z_gt0I, z_le0I, z_m1lt, z_m1ge, z_m1eq, z_m1eq', z_inT, z_add, z_sub, z_mul, z_div, z_rem, n_ltT, n_ltF, n_leT, n_leF, n_eqT, n_eqF, z_11, q_tl_i, q_tl_n, q_ap_n, q_ap_c]
      refine c11_isCost (fun c0 e3 c2 c10 => ?_) (fun hno => ?_)
      · have hask : e_ask u w K c0 := ⟨e2, k1, k2, e3, c2, c10⟩
        have hroom' := hroom ⟨pl, K, c0, hpl, e1, hask⟩
        have hN' := fun f g c M' => hN pl K c0 f g c M' hpl e1 hask
        have hT' := fun q f g c M' => hT pl K c0 q f g c M' hpl e1 hask
        subst e2 e3
        refine q_X.run sX11_find [] 40 ?_
        simp (maxSteps := 10000000) (disch := omega) only [↓q_run_s, q_stop_n, q_stop_c, q_lg_c, q_ls_d, q_ld_n, q_ld_c, q_cat_i, q_cat_r, q_cat_n, q_wd_n, q_wd_c, q_bx_1, q_bx_2, q_bx_3, q_bx_4, q_bx_5, q_bx_6, q_bx_7, q_bx_8, q_pop_0, q_pop_s, ↓reduceIte, Nat.reduceEqDiff, reduceCtorEq, eq_self, Bool.false_eq_true, Nat.reduceAdd, Nat.reduceSub, Nat.reduceMul, Nat.reduceLeDiff, Nat.reduceLT, Nat.le_refl, Nat.zero_le, true_and, and_true, false_and, and_false, or_false, false_or, true_or, or_true, not_true_eq_false, not_false_eq_true, if_true, if_false, List.getElem?_cons_zero, List.getElem?_cons_succ, List.set_cons_zero, List.set_cons_succ, List.length_cons, List.length_nil, ↓tX11_find_0, ↓tX11_find_1, ↓tX11_find_2, ↓tX11_find_5, ↓tX11_find_7, ↓tX11_find_9, ↓tX11_find_12, ↓tX11_find_13, ↓tX11_find_16, ↓tX11_find_19, ↓tX11_find_20, ↓tX11_find_23, ↓tX11_find_26, ↓tX11_find_27, ↓tX11_find_28, ↓tX11_find_29, ↓tX11_find_32, ↓tX11_find_34, ↓tX11_find_36, ↓tX11_find_37, ↓tX11_find_38, ↓tX11_find_41, ↓tX11_find_42, ↓tX11_find_44, ↓tX11_find_46, ↓tX11_find_49, ↓tX11_find_52, ↓oAl, ↓oAs, ↓oCallS, ↓oCallV, ↓oCallVA, ↓oIf1eq, ↓oIf1ne, ↓oIfn, ↓oIl, ↓oIret, ↓oK, q_set_s, q_set_n, fj_0, fjO_len, q_up_a, z_clamp, z_ltI, z_leI, z_eqI, z_lt0, z_ge0, z_eq0I, z_gt0I, z_le0I, z_m1lt, z_m1ge, z_m1eq, z_m1eq', z_inT, z_add, z_sub, z_mul, z_div, z_rem, n_ltT, n_ltF, n_leT, n_leF, n_eqT, n_eqF, z_11, q_tl_i, q_tl_n, q_ap_n, q_ap_c, hob]
        refine ⟨mc, ms, by omega, by omega, ?_⟩
        refine v11_theFinder h (by omega) hroom' fun f g c M1 h1 => ?_
        obtain ⟨X, s1, A1, B1, sm, Am, μ, z, Ac, kc, lc, rc, sh, Ah, hX, eM, pf, -⟩ := h1.get
        refine q_X.run sX11_find [] 40 ?_
        simp (maxSteps := 10000000) (disch := omega) only [↓q_run_s, q_stop_n, q_stop_c, q_lg_c, q_ls_d, q_ld_n, q_ld_c, q_cat_i, q_cat_r, q_cat_n, q_wd_n, q_wd_c, q_bx_1, q_bx_2, q_bx_3, q_bx_4, q_bx_5, q_bx_6, q_bx_7, q_bx_8, q_pop_0, q_pop_s, ↓reduceIte, Nat.reduceEqDiff, reduceCtorEq, eq_self, Bool.false_eq_true, Nat.reduceAdd, Nat.reduceSub, Nat.reduceMul, Nat.reduceLeDiff, Nat.reduceLT, Nat.le_refl, Nat.zero_le, true_and, and_true, false_and, and_false, or_false, false_or, true_or, or_true, not_true_eq_false, not_false_eq_true, if_true, if_false, List.getElem?_cons_zero, List.getElem?_cons_succ, List.set_cons_zero, List.set_cons_succ, List.length_cons, List.length_nil, ↓tX11_find_0, ↓tX11_find_1, ↓tX11_find_2, ↓tX11_find_5, ↓tX11_find_7, ↓tX11_find_9, ↓tX11_find_12, ↓tX11_find_13, ↓tX11_find_16, ↓tX11_find_19, ↓tX11_find_20, ↓tX11_find_23, ↓tX11_find_26, ↓tX11_find_27, ↓tX11_find_28, ↓tX11_find_29, ↓tX11_find_32, ↓tX11_find_34, ↓tX11_find_36, ↓tX11_find_37, ↓tX11_find_38, ↓tX11_find_41, ↓tX11_find_42, ↓tX11_find_44, ↓tX11_find_46, ↓tX11_find_49, ↓tX11_find_52, ↓oAl, ↓oAs, ↓oCallS, ↓oCallV, ↓oCallVA, ↓oIf1eq, ↓oIf1ne, ↓oIfn, ↓oIl, ↓oIret, ↓oK, q_set_s, q_set_n, fj_0, fjO_len, q_up_a, z_clamp, z_ltI, z_leI, z_eqI, z_lt0, z_ge0, z_eq0I, z_gt0I, z_le0I, z_m1lt, z_m1ge, z_m1eq, z_m1eq', z_inT, z_add, z_sub, z_mul, z_div, z_rem, n_ltT, n_ltF, n_leT, n_leF, n_eqT, n_eqF, z_11, q_tl_i, q_tl_n, q_ap_n, q_ap_c, pf]
        refine v2_begin h1 (by omega) k2 c2 c10 (by omega) fun M2 h2 => ?_
        have hob2 := h2.2.1.1
        obtain ⟨X2, s2, A2, B2, sm2, Am2, μ2, z2, Ac2, kc2, lc2, rc2, sh2, Ah2, hX2, eM2, pf2, -⟩ := h2.get
        refine q_X.run sX11_find [] 40 ?_
        simp (maxSteps := 10000000) (disch := omega) only [↓q_run_s, q_stop_n, q_stop_c, q_lg_c, q_ls_d, q_ld_n, q_ld_c, q_cat_i, q_cat_r, q_cat_n, q_wd_n, q_wd_c, q_bx_1, q_bx_2, q_bx_3, q_bx_4, q_bx_5, q_bx_6, q_bx_7, q_bx_8, q_pop_0, q_pop_s, ↓reduceIte, Nat.reduceEqDiff, reduceCtorEq, eq_self, Bool.false_eq_true, Nat.reduceAdd, Nat.reduceSub, Nat.reduceMul, Nat.reduceLeDiff, Nat.reduceLT, Nat.le_refl, Nat.zero_le, true_and, and_true, false_and, and_false, or_false, false_or, true_or, or_true, not_true_eq_false, not_false_eq_true, if_true, if_false, List.getElem?_cons_zero, List.getElem?_cons_succ, List.set_cons_zero, List.set_cons_succ, List.length_cons, List.length_nil, ↓tX11_find_0, ↓tX11_find_1, ↓tX11_find_2, ↓tX11_find_5, ↓tX11_find_7, ↓tX11_find_9, ↓tX11_find_12, ↓tX11_find_13, ↓tX11_find_16, ↓tX11_find_19, ↓tX11_find_20, ↓tX11_find_23, ↓tX11_find_26, ↓tX11_find_27, ↓tX11_find_28, ↓tX11_find_29, ↓tX11_find_32, ↓tX11_find_34, ↓tX11_find_36, ↓tX11_find_37, ↓tX11_find_38, ↓tX11_find_41, ↓tX11_find_42, ↓tX11_find_44, ↓tX11_find_46, ↓tX11_find_49, ↓tX11_find_52, ↓oAl, ↓oAs, ↓oCallS, ↓oCallV, ↓oCallVA, ↓oIf1eq, ↓oIf1ne, ↓oIfn, ↓oIl, ↓oIret, ↓oK, q_set_s, q_set_n, fj_0, fjO_len, q_up_a, z_clamp, z_ltI, z_leI, z_eqI, z_lt0, z_ge0, z_eq0I, z_gt0I, z_le0I, z_m1lt, z_m1ge, z_m1eq, z_m1eq', z_inT, z_add, z_sub, z_mul, z_div, z_rem, n_ltT, n_ltF, n_leT, n_leF, n_eqT, n_eqF, z_11, q_tl_i, q_tl_n, q_ap_n, q_ap_c, pf2]
        refine v2_goOn h2 (by omega) (by omega) (fun M3 hno h3 => ?_) (fun q M3 q1 q2 q3 q4 h3 => ?_)
        · have h' := hN' f g c M3 hno h3
          have hob3 := h3.2.1.1
          refine q_X.run sX11_find [] 40 ?_
          simp (maxSteps := 10000000) (disch := omega) only [↓q_run_s, q_stop_n, q_stop_c, q_lg_c, q_ls_d, q_ld_n, q_ld_c, q_cat_i, q_cat_r, q_cat_n, q_wd_n, q_wd_c, q_bx_1, q_bx_2, q_bx_3, q_bx_4, q_bx_5, q_bx_6, q_bx_7, q_bx_8, q_pop_0, q_pop_s, ↓reduceIte, Nat.reduceEqDiff, reduceCtorEq, eq_self, Bool.false_eq_true, Nat.reduceAdd, Nat.reduceSub, Nat.reduceMul, Nat.reduceLeDiff, Nat.reduceLT, Nat.le_refl, Nat.zero_le, true_and, and_true, false_and, and_false, or_false, false_or, true_or, or_true, not_true_eq_false, not_false_eq_true, if_true, if_false, List.getElem?_cons_zero, List.getElem?_cons_succ, List.set_cons_zero, List.set_cons_succ, List.length_cons, List.length_nil, ↓tX11_find_0, ↓tX11_find_1, ↓tX11_find_2, ↓tX11_find_5, ↓tX11_find_7, ↓tX11_find_9, ↓tX11_find_12, ↓tX11_find_13, ↓tX11_find_16, ↓tX11_find_19, ↓tX11_find_20, ↓tX11_find_23, ↓tX11_find_26, ↓tX11_find_27, ↓tX11_find_28, ↓tX11_find_29, ↓tX11_find_32, ↓tX11_find_34, ↓tX11_find_36, ↓tX11_find_37, ↓tX11_find_38, ↓tX11_find_41, ↓tX11_find_42, ↓tX11_find_44, ↓tX11_find_46, ↓tX11_find_49, ↓tX11_find_52, ↓oAl, ↓oAs, ↓oCallS, ↓oCallV, ↓oCallVA, ↓oIf1eq, ↓oIf1ne, ↓oIfn, ↓oIl, ↓oIret, ↓oK, q_set_s, q_set_n, fj_0, fjO_len, q_up_a, z_clamp, z_ltI, z_leI, z_eqI, z_lt0, z_ge0, z_eq0I, z_gt0I, z_le0I, z_m1lt, z_m1ge, z_m1eq, z_m1eq', z_inT, z_add, z_sub, z_mul, z_div, z_rem, n_ltT, n_ltF, n_leT, n_leF, n_eqT, n_eqF, z_11, q_tl_i, q_tl_n, q_ap_n, q_ap_c, hob3]
          refine ⟨0, 0, by omega, by omega, ?_⟩
          refine q_Call.of [(0, .ref io), (1, .ref (io + 35 + 4 * pl)), (2, .int (-1))] rfl ?_
          refine q_X.run sX11_putFound [] 40 ?_
          simp (maxSteps := 10000000) (disch := omega) only [↓q_run_s, q_stop_n, q_stop_c, q_lg_c, q_ls_d, q_ld_n, q_ld_c, q_cat_i, q_cat_r, q_cat_n, q_wd_n, q_wd_c, q_bx_1, q_bx_2, q_bx_3, q_bx_4, q_bx_5, q_bx_6, q_bx_7, q_bx_8, q_pop_0, q_pop_s, ↓reduceIte, Nat.reduceEqDiff, reduceCtorEq, eq_self, Bool.false_eq_true, Nat.reduceAdd, Nat.reduceSub, Nat.reduceMul, Nat.reduceLeDiff, Nat.reduceLT, Nat.le_refl, Nat.zero_le, true_and, and_true, false_and, and_false, or_false, false_or, true_or, or_true, not_true_eq_false, not_false_eq_true, if_true, if_false, List.getElem?_cons_zero, List.getElem?_cons_succ, List.set_cons_zero, List.set_cons_succ, List.length_cons, List.length_nil, ↓tX11_putFound_0, ↓tX11_putFound_1, ↓tX11_putFound_4, ↓tX11_putFound_6, ↓tX11_putFound_7, ↓tX11_putFound_8, ↓tX11_putFound_9, ↓tX11_putFound_12, ↓tX11_putFound_15, ↓tX11_putFound_16, ↓tX11_putFound_19, ↓tX11_putFound_20, ↓tX11_putFound_23, ↓oAl, ↓oCallV, ↓oCallVA, ↓oIf1ge, ↓oIl, ↓oIret, ↓oK, q_set_s, q_set_n, ca_0, caO_len, q_up_a, z_clamp, z_ltI, z_leI, z_eqI, z_lt0, z_ge0, z_eq0I, z_gt0I, z_le0I, z_m1lt, z_m1ge, z_m1eq, z_m1eq', z_inT, z_add, z_sub, z_mul, z_div, z_rem, n_ltT, n_ltF, n_leT, n_leF, n_eqT, n_eqF, z_11, q_tl_i, q_tl_n, q_ap_n, q_ap_c]
          refine q_X.run sX11_find [] 40 ?_
          simp (maxSteps := 10000000) (disch := omega) only [↓q_run_s, q_stop_n, q_stop_c, q_lg_c, q_ls_d, q_ld_n, q_ld_c, q_cat_i, q_cat_r, q_cat_n, q_wd_n, q_wd_c, q_bx_1, q_bx_2, q_bx_3, q_bx_4, q_bx_5, q_bx_6, q_bx_7, q_bx_8, q_pop_0, q_pop_s, ↓reduceIte, Nat.reduceEqDiff, reduceCtorEq, eq_self, Bool.false_eq_true, Nat.reduceAdd, Nat.reduceSub, Nat.reduceMul, Nat.reduceLeDiff, Nat.reduceLT, Nat.le_refl, Nat.zero_le, true_and, and_true, false_and, and_false, or_false, false_or, true_or, or_true, not_true_eq_false, not_false_eq_true, if_true, if_false, List.getElem?_cons_zero, List.getElem?_cons_succ, List.set_cons_zero, List.set_cons_succ, List.length_cons, List.length_nil, ↓tX11_find_0, ↓tX11_find_1, ↓tX11_find_2, ↓tX11_find_5, ↓tX11_find_7, ↓tX11_find_9, ↓tX11_find_12, ↓tX11_find_13, ↓tX11_find_16, ↓tX11_find_19, ↓tX11_find_20, ↓tX11_find_23, ↓tX11_find_26, ↓tX11_find_27, ↓tX11_find_28, ↓tX11_find_29, ↓tX11_find_32, ↓tX11_find_34, ↓tX11_find_36, ↓tX11_find_37, ↓tX11_find_38, ↓tX11_find_41, ↓tX11_find_42, ↓tX11_find_44, ↓tX11_find_46, ↓tX11_find_49, ↓tX11_find_52, ↓oAl, ↓oAs, ↓oCallS, ↓oCallV, ↓oCallVA, ↓oIf1eq, ↓oIf1ne, ↓oIfn, ↓oIl, ↓oIret, ↓oK, q_set_s, q_set_n, fj_0, fjO_len, q_up_a, z_clamp, z_ltI, z_leI, z_eqI, z_lt0, z_ge0, z_eq0I, z_gt0I, z_le0I, z_m1lt, z_m1ge, z_m1eq, z_m1eq', z_inT, z_add, z_sub, z_mul, z_div, z_rem, n_ltT, n_ltF, n_leT, n_leF, n_eqT, n_eqF, z_11, q_tl_i, q_tl_n, q_ap_n, q_ap_c]
          exact h'
        · have hob3 := h3.2.1.1
          refine q_X.run sX11_find [] 40 ?_
          simp (maxSteps := 10000000) (disch := omega) only [↓q_run_s, q_stop_n, q_stop_c, q_lg_c, q_ls_d, q_ld_n, q_ld_c, q_cat_i, q_cat_r, q_cat_n, q_wd_n, q_wd_c, q_bx_1, q_bx_2, q_bx_3, q_bx_4, q_bx_5, q_bx_6, q_bx_7, q_bx_8, q_pop_0, q_pop_s, ↓reduceIte, Nat.reduceEqDiff, reduceCtorEq, eq_self, Bool.false_eq_true, Nat.reduceAdd, Nat.reduceSub, Nat.reduceMul, Nat.reduceLeDiff, Nat.reduceLT, Nat.le_refl, Nat.zero_le, true_and, and_true, false_and, and_false, or_false, false_or, true_or, or_true, not_true_eq_false, not_false_eq_true, if_true, if_false, List.getElem?_cons_zero, List.getElem?_cons_succ, List.set_cons_zero, List.set_cons_succ, List.length_cons, List.length_nil, ↓tX11_find_0, ↓tX11_find_1, ↓tX11_find_2, ↓tX11_find_5, ↓tX11_find_7, ↓tX11_find_9, ↓tX11_find_12, ↓tX11_find_13, ↓tX11_find_16, ↓tX11_find_19, ↓tX11_find_20, ↓tX11_find_23, ↓tX11_find_26, ↓tX11_find_27, ↓tX11_find_28, ↓tX11_find_29, ↓tX11_find_32, ↓tX11_find_34, ↓tX11_find_36, ↓tX11_find_37, ↓tX11_find_38, ↓tX11_find_41, ↓tX11_find_42, ↓tX11_find_44, ↓tX11_find_46, ↓tX11_find_49, ↓tX11_find_52, ↓oAl, ↓oAs, ↓oCallS, ↓oCallV, ↓oCallVA, ↓oIf1eq, ↓oIf1ne, ↓oIfn, ↓oIl, ↓oIret, ↓oK, q_set_s, q_set_n, fj_0, fjO_len, q_up_a, z_clamp, z_ltI, z_leI, z_eqI, z_lt0, z_ge0, z_eq0I, z_gt0I, z_le0I, z_m1lt, z_m1ge, z_m1eq, z_m1eq', z_inT, z_add, z_sub, z_mul, z_div, z_rem, n_ltT, n_ltF, n_leT, n_leF, n_eqT, n_eqF, z_11, q_tl_i, q_tl_n, q_ap_n, q_ap_c, hob3]
          refine ⟨0, 0, by omega, by omega, ?_⟩
          refine v11_putFound h3 hpl q2 (by omega) fun M4 hfr h4 => ?_
          have h' := hT' q f g c M4 q1 q2 q3 q4 h4
          generalize t_cost (e_t q) = tc at *
          refine q_X.run sX11_find [] 40 ?_
          simp (maxSteps := 10000000) (disch := omega) only [↓q_run_s, q_stop_n, q_stop_c, q_lg_c, q_ls_d, q_ld_n, q_ld_c, q_cat_i, q_cat_r, q_cat_n, q_wd_n, q_wd_c, q_bx_1, q_bx_2, q_bx_3, q_bx_4, q_bx_5, q_bx_6, q_bx_7, q_bx_8, q_pop_0, q_pop_s, ↓reduceIte, Nat.reduceEqDiff, reduceCtorEq, eq_self, Bool.false_eq_true, Nat.reduceAdd, Nat.reduceSub, Nat.reduceMul, Nat.reduceLeDiff, Nat.reduceLT, Nat.le_refl, Nat.zero_le, true_and, and_true, false_and, and_false, or_false, false_or, true_or, or_true, not_true_eq_false, not_false_eq_true, if_true, if_false, List.getElem?_cons_zero, List.getElem?_cons_succ, List.set_cons_zero, List.set_cons_succ, List.length_cons, List.length_nil, ↓tX11_find_0, ↓tX11_find_1, ↓tX11_find_2, ↓tX11_find_5, ↓tX11_find_7, ↓tX11_find_9, ↓tX11_find_12, ↓tX11_find_13, ↓tX11_find_16, ↓tX11_find_19, ↓tX11_find_20, ↓tX11_find_23, ↓tX11_find_26, ↓tX11_find_27, ↓tX11_find_28, ↓tX11_find_29, ↓tX11_find_32, ↓tX11_find_34, ↓tX11_find_36, ↓tX11_find_37, ↓tX11_find_38, ↓tX11_find_41, ↓tX11_find_42, ↓tX11_find_44, ↓tX11_find_46, ↓tX11_find_49, ↓tX11_find_52, ↓oAl, ↓oAs, ↓oCallS, ↓oCallV, ↓oCallVA, ↓oIf1eq, ↓oIf1ne, ↓oIfn, ↓oIl, ↓oIret, ↓oK, q_set_s, q_set_n, fj_0, fjO_len, q_up_a, z_clamp, z_ltI, z_leI, z_eqI, z_lt0, z_ge0, z_eq0I, z_gt0I, z_le0I, z_m1lt, z_m1ge, z_m1eq, z_m1eq', z_inT, z_add, z_sub, z_mul, z_div, z_rem, n_ltT, n_ltF, n_leT, n_leF, n_eqT, n_eqF, z_11, q_tl_i, q_tl_n, q_ap_n, q_ap_c]
          exact h'
      · have h' := hF fun pl' K' c0 _ _ ha => absurd ha.2.2.2.2.2 (hno c0 ha.2.2.2.1 ha.2.2.2.2.1)
        refine q_X.run sX11_find [] 40 ?_
        simp (maxSteps := 10000000) (disch := omega) only [↓q_run_s, q_stop_n, q_stop_c, q_lg_c, q_ls_d, q_ld_n, q_ld_c, q_cat_i, q_cat_r, q_cat_n, q_wd_n, q_wd_c, q_bx_1, q_bx_2, q_bx_3, q_bx_4, q_bx_5, q_bx_6, q_bx_7, q_bx_8, q_pop_0, q_pop_s, ↓reduceIte, Nat.reduceEqDiff, reduceCtorEq, eq_self, Bool.false_eq_true, Nat.reduceAdd, Nat.reduceSub, Nat.reduceMul, Nat.reduceLeDiff, Nat.reduceLT, Nat.le_refl, Nat.zero_le, true_and, and_true, false_and, and_false, or_false, false_or, true_or, or_true, not_true_eq_false, not_false_eq_true, if_true, if_false, List.getElem?_cons_zero, List.getElem?_cons_succ, List.set_cons_zero, List.set_cons_succ, List.length_cons, List.length_nil, ↓tX11_find_0, ↓tX11_find_1, ↓tX11_find_2, ↓tX11_find_5, ↓tX11_find_7, ↓tX11_find_9, ↓tX11_find_12, ↓tX11_find_13, ↓tX11_find_16, ↓tX11_find_19, ↓tX11_find_20, ↓tX11_find_23, ↓tX11_find_26, ↓tX11_find_27, ↓tX11_find_28, ↓tX11_find_29, ↓tX11_find_32, ↓tX11_find_34, ↓tX11_find_36, ↓tX11_find_37, ↓tX11_find_38, ↓tX11_find_41, ↓tX11_find_42, ↓tX11_find_44, ↓tX11_find_46, ↓tX11_find_49, ↓tX11_find_52, ↓oAl, ↓oAs, ↓oCallS, ↓oCallV, ↓oCallVA, ↓oIf1eq, ↓oIf1ne, ↓oIfn, ↓oIl, ↓oIret, ↓oK, q_set_s, q_set_n, fj_0, fjO_len, q_up_a, z_clamp, z_ltI, z_leI, z_eqI, z_lt0, z_ge0, z_eq0I, z_gt0I, z_le0I, z_m1lt, z_m1ge, z_m1eq, z_m1eq', z_inT, z_add, z_sub, z_mul, z_div, z_rem, n_ltT, n_ltF, n_leT, n_leF, n_eqT, n_eqF, z_11, q_tl_i, q_tl_n, q_ap_n, q_ap_c]
        exact h'
    · have h' := hF fun pl' K' c0 _ _ ha => absurd ha.2.2.1 (hno K' ha.1 ha.2.1)
      refine q_X.run sX11_find [] 40 ?_
      simp (maxSteps := 10000000) (disch := omega) only [↓q_run_s, q_stop_n, q_stop_c, q_lg_c, q_ls_d, q_ld_n, q_ld_c, q_cat_i, q_cat_r, q_cat_n, q_wd_n, q_wd_c, q_bx_1, q_bx_2, q_bx_3, q_bx_4, q_bx_5, q_bx_6, q_bx_7, q_bx_8, q_pop_0, q_pop_s, ↓reduceIte, Nat.reduceEqDiff, reduceCtorEq, eq_self, Bool.false_eq_true, Nat.reduceAdd, Nat.reduceSub, Nat.reduceMul, Nat.reduceLeDiff, Nat.reduceLT, Nat.le_refl, Nat.zero_le, true_and, and_true, false_and, and_false, or_false, false_or, true_or, or_true, not_true_eq_false, not_false_eq_true, if_true, if_false, List.getElem?_cons_zero, List.getElem?_cons_succ, List.set_cons_zero, List.set_cons_succ, List.length_cons, List.length_nil, ↓tX11_find_0, ↓tX11_find_1, ↓tX11_find_2, ↓tX11_find_5, ↓tX11_find_7, ↓tX11_find_9, ↓tX11_find_12, ↓tX11_find_13, ↓tX11_find_16, ↓tX11_find_19, ↓tX11_find_20, ↓tX11_find_23, ↓tX11_find_26, ↓tX11_find_27, ↓tX11_find_28, ↓tX11_find_29, ↓tX11_find_32, ↓tX11_find_34, ↓tX11_find_36, ↓tX11_find_37, ↓tX11_find_38, ↓tX11_find_41, ↓tX11_find_42, ↓tX11_find_44, ↓tX11_find_46, ↓tX11_find_49, ↓tX11_find_52, ↓oAl, ↓oAs, ↓oCallS, ↓oCallV, ↓oCallVA, ↓oIf1eq, ↓oIf1ne, ↓oIfn, ↓oIl, ↓oIret, ↓oK, q_set_s, q_set_n, fj_0, fjO_len, q_up_a, z_clamp, z_ltI, z_leI, z_eqI, z_lt0, z_ge0, z_eq0I, z_gt0I, z_le0I, z_m1lt, z_m1ge, z_m1eq, z_m1eq', z_inT, z_add, z_sub, z_mul, z_div, z_rem, n_ltT, n_ltF, n_leT, n_leF, n_eqT, n_eqF, z_11, q_tl_i, q_tl_n, q_ap_n, q_ap_c]
      exact h'
  · have h' := hF fun pl K c0 hpl e _ => absurd e (hno pl hpl)
    refine q_X.run sX11_find [] 40 ?_
    simp (maxSteps := 10000000) (disch := omega) only [↓q_run_s, q_stop_n, q_stop_c, q_lg_c, q_ls_d, q_ld_n, q_ld_c, q_cat_i, q_cat_r, q_cat_n, q_wd_n, q_wd_c, q_bx_1, q_bx_2, q_bx_3, q_bx_4, q_bx_5, q_bx_6, q_bx_7, q_bx_8, q_pop_0, q_pop_s, ↓reduceIte, Nat.reduceEqDiff, reduceCtorEq, eq_self, Bool.false_eq_true, Nat.reduceAdd, Nat.reduceSub, Nat.reduceMul, Nat.reduceLeDiff, Nat.reduceLT, Nat.le_refl, Nat.zero_le, true_and, and_true, false_and, and_false, or_false, false_or, true_or, or_true, not_true_eq_false, not_false_eq_true, if_true, if_false, List.getElem?_cons_zero, List.getElem?_cons_succ, List.set_cons_zero, List.set_cons_succ, List.length_cons, List.length_nil, ↓tX11_find_0, ↓tX11_find_1, ↓tX11_find_2, ↓tX11_find_5, ↓tX11_find_7, ↓tX11_find_9, ↓tX11_find_12, ↓tX11_find_13, ↓tX11_find_16, ↓tX11_find_19, ↓tX11_find_20, ↓tX11_find_23, ↓tX11_find_26, ↓tX11_find_27, ↓tX11_find_28, ↓tX11_find_29, ↓tX11_find_32, ↓tX11_find_34, ↓tX11_find_36, ↓tX11_find_37, ↓tX11_find_38, ↓tX11_find_41, ↓tX11_find_42, ↓tX11_find_44, ↓tX11_find_46, ↓tX11_find_49, ↓tX11_find_52, ↓oAl, ↓oAs, ↓oCallS, ↓oCallV, ↓oCallVA, ↓oIf1eq, ↓oIf1ne, ↓oIfn, ↓oIl, ↓oIret, ↓oK, q_set_s, q_set_n, fj_0, fjO_len, q_up_a, z_clamp, z_ltI, z_leI, z_eqI, z_lt0, z_ge0, z_eq0I, z_gt0I, z_le0I, z_m1lt, z_m1ge, z_m1eq, z_m1eq', z_inT, z_add, z_sub, z_mul, z_div, z_rem, n_ltT, n_ltF, n_leT, n_leF, n_eqT, n_eqF, z_11, q_tl_i, q_tl_n, q_ap_n, q_ap_c]
    exact h'
end
