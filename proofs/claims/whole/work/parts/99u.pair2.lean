/-! pairs of calls: drop, back, show, say, fits, out, many, row, agrees, paid, count, found, asked -/
section
variable {G : qC} {L : Launch} {d : Nat} {Q : Option Value → qM → Prop} {M M1 : qM} {cs ss : Nat} {io r b : Nat} {zp : Option Nat} {zc : Option Nat} {zf : Option (Nat × Nat)} {T : Nat} {tp : Nat → Nat} {P : Nat → Option qT} {S : Nat} {D : Nat → yD} {tb : Nat} {k : Nat} {σ : fS} {as : Nat} {s : Nat → Int32} {A : Nat → Nat → Int32} {B : Nat → Nat → Int64}
theorem z_p {v : Int32} {p p' : Nat} (h : p < 10) (h' : p' < 10) (e : v = nI p) (e' : v = nI p') : p' = p := (nI_eq (by omega) (by omega)).mp (e'.symm.trans e)
theorem m_J.drop {p : Nat} (h : m_J T tp P S D tb σ as s A B) : m_J T tp (va_up P p none) S D tb σ as s (va_up A 13 (upd (A 13) p (nI 0))) B := by
  have ha : ∀ k, k ≠ 13 → va_up A 13 (upd (A 13) p (nI 0)) k = A k := fun k hk => va_up_ne _ _ hk
  have hl : k_Laid s A → k_Laid s (va_up A 13 (upd (A 13) p (nI 0))) := fun g => k_Laid_fr g rfl (fun f _ _ => ha f (by omega)) (ha 12 (by decide))
  refine h.fr ?_ (fun q t hq => ?_) (Or.inl ⟨rfl, ha 17 (by decide), rfl⟩) rfl rfl rfl rfl rfl h.2.2.2.2.2.2.2.2.2.2 (ha 39 (by decide)) (ha 40 (by decide)) (ha 41 (by decide)) (ha 42 (by decide)) (ha 43 (by decide)) hl (h.2.2.2.2.2.1.imp id hl) (m_Kw_cg h.2.2.2.2.2.2.1 (ha 44 (by decide)) (ha 47 (by decide)) rfl rfl) rfl rfl (h.2.2.2.2.2.2.2.1.imp fun fo g => g.imp fun ac g => m_blk_cg g (ha 25 (by decide)) (ha 26 (by decide))) (h.2.2.2.2.2.2.2.2.1.imp fun fo g => g.imp fun ac g => m_blk_cg g (ha 25 (by decide)) (ha 26 (by decide)))
  · intro q hq
    rw [ha 14 (by decide), ha 15 (by decide), va_up_self]
    by_cases c : q = p
    · subst c
      rw [va_up_self, q_ud_s]
    · rw [va_up_ne _ _ c, q_ud_n _ _ c]
      exact h.1 q hq
  · by_cases c : q = p
    · subst c
      rw [va_up_self] at hq
      cases hq
    · rw [va_up_ne _ _ c] at hq
      exact h.2.1 q t hq
theorem m_P_pos {p : Nat} {t : qT} (h : m_P A P) (hp : p < 10) (e : P p = some t) : 0 < A 13 p := by
  have g := h p hp
  rw [e] at g
  rw [g.1]
  have := t_nodes_1 t
  have := g.2.1
  have h0 : nI 0 < nI (t_nodes t) := (nI_ltI (by decide) (by omega)).mpr (by omega)
  exact h0
theorem y_drop {v : Int32} (h : y_I M io r b k cs ss) (hd : 402 ≤ d) (hQ : ∀ ww M1, y_M G L mX12_drop r [.int v] M1 ww (fun M2 => y_I M2 io r b (k + 1) cs ss) → Q (some (.int ww)) M1) : q_Call G L d mX11_drop 0 0 [.ref io, .int v] M Q := by
  obtain ⟨zp, zc, zf, T, tp, P, S, D, tb, σ, as, s, A, B, h, hJ, hb⟩ := h
  refine v11_drop h (by omega) (fun p t M1 hp e hP h1 => ?_) (fun hno => ?_)
  · refine hQ _ _ (y_M_of h1 fun d2 Q2 hd2 hK => ?_)
    refine c12_drop (by omega) (fun p' hp' e' _ => ?_) (fun hn => absurd (m_P_pos hJ.1 hp hP) (hn p hp e))
    have := z_p hp hp' e e'
    subst this
    exact hK _ (y_in h1.next hJ.drop hb)
  · refine hQ _ _ (y_M_of h fun d2 Q2 hd2 hK => ?_)
    refine c12_drop (by omega) (fun p hp e h0 => ?_) (fun _ => hK _ (y_in h.next hJ hb))
    obtain ⟨t, ht, -⟩ := m_P_s hJ.1 hp h0
    rw [hno p hp e] at ht
    cases ht
theorem y_back {v u : Int32} (h : y_I M io r b k cs ss) (hd : 402 ≤ d) (hQ : ∀ ww M1, y_M G L mX12_back r [.int v, .int u] M1 ww (fun M2 => y_I M2 io r b (k + 1) cs ss) → Q (some (.int ww)) M1) : q_Call G L d mX11_back 0 0 [.ref io, .int v, .int u] M Q := by
  obtain ⟨zp, zc, zf, T, tp, P, S, D, tb, σ, as, s, A, B, h, hJ, hb⟩ := h
  obtain ⟨q1, q2, q3⟩ := hJ.2.2.1
  obtain ⟨q4, q5⟩ := hJ.2.2.2.1
  have htb : tb < 1048576 := Nat.lt_of_lt_of_le q4 (Nat.pow_le_pow_right (n := 2) (j := 20) (by decide) q2)
  have h43 : ∀ j, j < S → A 43 j = 0 ∨ A 43 j = 1 := fun j hj => by
    have z : A 43 j = b_I (tb.testBit j) := (q3 j hj).2.2.2.2.2
    rw [z]
    cases tb.testBit j with
    | false => exact Or.inl rfl
    | true => exact Or.inr rfl
  refine v11_back h (by omega) (fun j w M1 hj ev eu hw h1 => ?_) (fun hno => ?_)
  · refine hQ _ _ (y_M_of h1 fun d2 Q2 hd2 hK => ?_)
    refine c12_back (by omega) q1 q2 h43 (fun j' w' hj' ev' eu' hw' => ?_) (fun hn => absurd ⟨ev, eu⟩ (hn j w hj hw))
    have e1 : j' = j := (nI_eq (by omega) (by omega)).mp (ev'.symm.trans ev)
    have e2 : w' = w := (nI_eq (by omega) (by omega)).mp (eu'.symm.trans eu)
    subst e1 e2
    have ea : A 43 j' = nI (z_tn tb j') := by
      rw [(q3 j' hj).2.2.2.2.2]
      show b_I (tb.testBit j') = nI (if tb.testBit j' = true then 1 else 0)
      cases tb.testBit j' with
      | false => rfl
      | true => rfl
    rw [ea]
    refine hK _ (y_in h1.next (hJ.sh (fun _ _ _ => rfl) (fun f _ _ _ _ _ h43 => va_up_ne _ _ h43) ⟨q1, q2, fun i hi => ?_⟩ ⟨Nat.lt_pow_two_of_testBit _ fun i hi => ?_, fun i g1 g2 => ?_⟩) hb)
    · obtain ⟨z1, z2, z3, z4, z5, z6⟩ := q3 i hi
      rw [va_up_self]
      refine ⟨z1, z2, z3, z4, z5, ?_⟩
      show upd (A 43) j' (nI w') i = b_I ((x_tb tb j' w').testBit i)
      rw [x_tb_bit (by omega) hw htb]
      by_cases c : i = j'
      · subst c
        rw [q_ud_s, if_pos rfl]
        rcases (show w' = 0 ∨ w' = 1 by omega) with g | g <;> subst g <;> rfl
      · rw [q_ud_n _ _ c, if_neg c]
        exact z6
    · rw [x_tb_bit (by omega) hw htb, if_neg (by omega)]
      exact Nat.testBit_lt_two_pow (Nat.lt_of_lt_of_le q4 (Nat.pow_le_pow_right (by decide) hi))
    · rw [va_up_self, q_ud_n _ _ (by omega)]
      exact q5 i g1 g2
  · refine hQ _ _ (y_M_of h fun d2 Q2 hd2 hK => ?_)
    exact c12_back (by omega) q1 q2 h43 (fun j' w' hj' ev' eu' hw' => absurd ⟨ev', eu'⟩ (hno j' w' hj' hw')) (fun _ => hK _ (y_in h.next hJ hb))
theorem y_show {v what part price : Int32} (h : y_I M io r b k cs ss) (hd : 402 ≤ d) (hQ : ∀ ww M1, y_M G L mX12_show r [.int v, .int what, .int part, .int price] M1 ww (fun M2 => y_I M2 io r b (k + 1) cs ss) → Q (some (.int ww)) M1) : q_Call G L d mX11_show 0 0 [.ref io, .int v, .int what, .int part, .int price] M Q := by
  obtain ⟨zp, zc, zf, T, tp, P, S, D, tb, σ, as, s, A, B, h, hJ, hb⟩ := h
  obtain ⟨q1, q2, q3⟩ := hJ.2.2.1
  obtain ⟨q4, q5⟩ := hJ.2.2.2.1
  have same : ∀ x f, m_J T tp P S D tb σ as (va_up s 2 x) (va_up A 1 f) B := fun x f => hJ.ft m_Ft_take
  refine v11_show h (by omega) (fun hno => ?_) (fun n N a q p hs hu => ?_) (fun n N a q p M1 hs hlt h1 => ?_)
  · refine hQ _ _ (y_M_of h fun d2 Q2 hd2 hK => ?_)
    exact c12_show (by omega) q1 q2 (fun _ x f => hK _ (y_in h.next (same x f) hb)) (fun n N a q p hs _ => absurd hs (hno n N a q p)) (fun n N a q p hs _ => absurd hs (hno n N a q p))
  · refine hQ _ _ (y_M_of h fun d2 Q2 hd2 hK => ?_)
    exact c12_show (by omega) q1 q2 (fun hn => absurd hs (hn n N a q p)) (fun n N a q p hs _ x f => hK _ (y_in h.next (same x f) hb)) (fun n N a q p hs hl => absurd hl (by omega))
  · refine hQ _ _ (y_M_of h1 fun d2 Q2 hd2 hK => ?_)
    refine c12_show (by omega) q1 q2 (fun hn => absurd hs (hn n N a q p)) (fun n N a q p _ hu => absurd hu (by omega)) (fun n' N' a' q' p' _ _ x f => ?_)
    obtain ⟨t1, t2, t3, t4, t5, t6, t7⟩ := hs
    refine hK _ (y_in h1.next (hJ.sh (fun k g1 g2 => by rw [va_up_ne _ _ g2, va_up_ne _ _ g1]) (fun f g1 g2 g3 g4 g5 g6 => by rw [va_up_ne _ _ g5, va_up_ne _ _ g4, va_up_ne _ _ g3, va_up_ne _ _ g2, va_up_ne _ _ g1]) ⟨va_up_self _ _ _, by omega, fun j hj => ?_⟩ ⟨Nat.lt_trans q4 (Nat.pow_lt_pow_right (by decide) (by omega)), fun j g1 g2 => ?_⟩) hb)
    · by_cases cj : j = S
      · subst cj
        rw [va_up_self]
        refine ⟨⟨t1.2.1, t1.2.2.1, t2, t3.2, t6, t7, t4.2.1, t4.2.2⟩, ?_, ?_, ?_, ?_, ?_⟩
        · simp (disch := decide) only [va_up_ne, va_up_self, q_ud_s]; exact t1.1
        · simp (disch := decide) only [va_up_ne, va_up_self, q_ud_s]; exact t3.1
        · simp (disch := decide) only [va_up_ne, va_up_self, q_ud_s]; exact t5.1
        · simp (disch := decide) only [va_up_ne, va_up_self, q_ud_s]; exact t4.1
        · simp (disch := decide) only [va_up_ne]
          rw [q5 j (Nat.le_refl _) hlt, Nat.testBit_lt_two_pow q4]
          rfl
      · obtain ⟨z1, z2, z3, z4, z5, z6⟩ := q3 j (by omega)
        rw [va_up_ne _ _ cj]
        refine ⟨z1, ?_, ?_, ?_, ?_, ?_⟩
        · simp (disch := decide) only [va_up_ne, va_up_self]; rw [q_ud_n _ _ cj]; exact z2
        · simp (disch := decide) only [va_up_ne, va_up_self]; rw [q_ud_n _ _ cj]; exact z3
        · simp (disch := decide) only [va_up_ne, va_up_self]; rw [q_ud_n _ _ cj]; exact z4
        · simp (disch := decide) only [va_up_ne, va_up_self]; rw [q_ud_n _ _ cj]; exact z5
        · simp (disch := decide) only [va_up_ne]; exact z6
    · simp (disch := decide) only [va_up_ne]
      exact q5 j (by omega) g2
theorem y_say {v u : Int32} (h : y_I M io r b k cs ss) (hd : 402 ≤ d) (hQ : ∀ ww M1, y_M G L mX12_say r [.int v, .int u] M1 ww (fun M2 => y_I M2 io r b (k + 1) cs ss) → Q (some (.int ww)) M1) : q_Call G L d mX11_say 0 0 [.ref io, .int v, .int u] M Q := by
  obtain ⟨zp, zc, zf, T, tp, P, S, D, tb, σ, as, s, A, B, h, hJ, hb⟩ := h
  refine v11_say h (by omega) (fun p t M1 hp e hP h1 => ?_) (fun hno => ?_)
  · refine hQ _ _ (y_M_of h1 fun d2 Q2 hd2 hK => ?_)
    refine c12_say hJ.1 (by omega) (fun p' t' s' A' hp' e' hP' _ hf => ?_) (fun hn => absurd hP (hn p t hp e))
    have := z_p hp hp' e e'
    subst this
    rw [hP] at hP'
    cases hP'
    exact hK _ (y_in h1.next (hJ.fs hf) hb)
  · refine hQ _ _ (y_M_of h fun d2 Q2 hd2 hK => ?_)
    exact c12_say hJ.1 (by omega) (fun p t s' A' hp e hP _ _ => by rw [hno p hp e] at hP; cases hP) (fun _ => hK _ (y_in h.next hJ hb))
theorem y_fits {v u : Int32} (h : y_I M io r b k cs ss) (hd : 402 ≤ d) (hQ : ∀ ww M1, y_M G L mX12_fits r [.int v, .int u] M1 ww (fun M2 => y_I M2 io r b (k + 1) cs ss) → Q (some (.int ww)) M1) : q_Call G L d mX11_fits 0 0 [.ref io, .int v, .int u] M Q := by
  obtain ⟨zp, zc, zf, T, tp, P, S, D, tb, σ, as, s, A, B, h, hJ, hb⟩ := h
  refine v11_fits h (by omega) (fun p t n N M1 hp e hP hr hS h1 => ?_) (fun p t n N M1 hp e hP hr hS h1 => ?_) (fun hno => ?_)
  · refine hQ _ _ (y_M_of h1 fun d2 Q2 hd2 hK => ?_)
    refine c12_fits hJ.1 (by omega) (fun p' t' n' N' s' A' hp' e' hP' _ hr' hf hS' => hK _ (y_in h1.next (hJ.ft hf) hb)) (fun p' t' n' N' s' A' hp' e' hP' _ hr' hf hS' => ?_) (fun s' A' hn _ => absurd hr (hn p t n N hp e hP))
    have := z_p hp hp' e e'
    subst this
    rw [hP] at hP'
    cases hP'
    obtain ⟨rfl, rfl⟩ := q_isRow_inj hr hr'
    exact absurd hS hS'
  · refine hQ _ _ (y_M_of h1 fun d2 Q2 hd2 hK => ?_)
    refine c12_fits hJ.1 (by omega) (fun p' t' n' N' s' A' hp' e' hP' _ hr' hf hS' => ?_) (fun p' t' n' N' s' A' hp' e' hP' _ hr' hf hS' => hK _ (y_in h1.next (hJ.ft hf) hb)) (fun s' A' hn _ => absurd hr (hn p t n N hp e hP))
    have := z_p hp hp' e e'
    subst this
    rw [hP] at hP'
    cases hP'
    obtain ⟨rfl, rfl⟩ := q_isRow_inj hr hr'
    exact absurd hS' hS
  · refine hQ _ _ (y_M_of h fun d2 Q2 hd2 hK => ?_)
    exact c12_fits hJ.1 (by omega) (fun p t n N s' A' hp e hP _ hr _ _ => absurd hr (hno p t n N hp e hP)) (fun p t n N s' A' hp e hP _ hr _ _ => absurd hr (hno p t n N hp e hP)) (fun s' A' _ hf => hK _ (y_in h.next (hJ.ft hf) hb))
theorem y_out {v u : Int32} (h : y_I M io r b k cs ss) (hd : 402 ≤ d) (hQ : ∀ ww M1, y_M G L mX12_out r [.int v, .int u] M1 ww (fun M2 => y_I M2 io r b (k + 1) cs ss) → Q (some (.int ww)) M1) : q_Call G L d mX11_out 0 0 [.ref io, .int v, .int u] M Q := by
  obtain ⟨zp, zc, zf, T, tp, P, S, D, tb, σ, as, s, A, B, h, hJ, hb⟩ := h
  refine v11_out h (by omega) (fun p t n N o M1 hp e hP hr ho h1 => ?_) (fun hno => ?_)
  · refine hQ _ _ (y_M_of h1 fun d2 Q2 hd2 hK => ?_)
    refine c12_out hJ.1 (by omega) (fun p' t' n' N' s' A' o' hp' e' hP' _ hr' hf ho' => ?_) (fun s' A' hn _ => absurd hr (hn p t n N hp e hP))
    have := z_p hp hp' e e'
    subst this
    rw [hP] at hP'
    cases hP'
    obtain ⟨rfl, rfl⟩ := q_isRow_inj hr hr'
    cases t_Out_u ho ho'
    exact hK _ (y_in h1.next (hJ.ft hf) hb)
  · refine hQ _ _ (y_M_of h fun d2 Q2 hd2 hK => ?_)
    exact c12_out hJ.1 (by omega) (fun p t n N s' A' o hp e hP _ hr _ _ => absurd hr (hno p t n N hp e hP)) (fun s' A' _ hf => hK _ (y_in h.next (hJ.ft hf) hb))
theorem g_n_6 {t : qT} (h : t_nodes t ≤ 12) : g_n t ≤ 6 := by
  have := g_n_le t
  omega
theorem y_many {v u : Int32} (h : y_I M io r b k cs ss) (hd : 402 ≤ d) (hQ : ∀ ww M1, y_M G L mX12_many r [.int v, .int u] M1 ww (fun M2 => y_I M2 io r b (k + 1) cs ss) → Q (some (.int ww)) M1) : q_Call G L d mX11_many 0 0 [.ref io, .int v, .int u] M Q := by
  obtain ⟨zp, zc, zf, T, tp, P, S, D, tb, σ, as, s, A, B, h, hJ, hb⟩ := h
  obtain ⟨fo0, ac0, hb0⟩ := hJ.2.2.2.2.2.2.2.1
  refine v11_many h (by omega) (fun p len t acc M1 s1 A1 W hp e hl eu hP h12 hacc h1 _ _ _ _ => ?_) (fun hno => ?_)
  · refine hQ _ _ (y_M_of h1 fun d2 Q2 hd2 hK => ?_)
    refine c12_many hJ.1 hb0 (by omega) (fun p' len' t' s' A' fo ac hp' e' hl' eu' hP' _ hf => ?_) (fun hn => by rw [hn p len hp e hl eu] at hP; cases hP)
    have := z_p hp hp' e e'
    subst this
    rw [hP] at hP'
    cases hP'
    have : len' = len := (nI_eq (by omega) (by omega)).mp (eu'.symm.trans eu)
    subst this
    have hst := hf.2.2.2.2.1
    rw [u_ways_eq (g_n_6 h12) hst.2.1 hst.2.2.1 hacc _ _ (Or.inl rfl)]
    exact hK _ (y_in h1.next (hJ.cw hf) hb)
  · refine hQ _ _ (y_M_of h fun d2 Q2 hd2 hK => ?_)
    exact c12_many hJ.1 hb0 (by omega) (fun p len t s' A' fo ac hp e hl eu hP _ _ => by rw [hno p len hp e hl eu] at hP; cases hP) (fun _ => hK _ (y_in h.next hJ hb))
theorem yy_row {v u w : Int32} (h : y_I M io r b k cs ss) (hd : 402 ≤ d) (hQ : ∀ ww M1, y_M G L mX12_row r [.int v, .int u, .int w] M1 ww (fun M2 => y_I M2 io r b (k + 1) cs ss) → Q (some (.int ww)) M1) : q_Call G L d mX11_row 0 0 [.ref io, .int v, .int u, .int w] M Q := by
  obtain ⟨zp, zc, zf, T, tp, P, S, D, tb, σ, as, s, A, B, h, hJ, hb⟩ := h
  obtain ⟨fo0, ac0, hb0⟩ := hJ.2.2.2.2.2.2.2.1
  refine v11_row h (by omega) (fun p len t acc j M1 hp e hl eu hP h12 hacc ew hj h1 => ?_) (fun p len t acc M1 hp e hl eu hP h12 hacc hn h1 => ?_) (fun hno => ?_)
  · refine hQ _ _ (y_M_of h1 fun d2 Q2 hd2 hK => ?_)
    refine c12_row hJ.1 hb0 (by omega) (fun p' len' t' s' A' fo ac j' hp' e' hl' eu' hP' _ hf ew' hj' => ?_) (fun p' len' t' s' A' fo ac hp' e' hl' eu' hP' _ hf hn' => ?_) (fun hn => by rw [hn p len hp e hl eu] at hP; cases hP)
    · have := z_p hp hp' e e'
      subst this
      rw [hP] at hP'
      cases hP'
      have : len' = len := (nI_eq (by omega) (by omega)).mp (eu'.symm.trans eu)
      subst this
      have hst := hf.2.2.2.2.1
      rw [u_ways_eq (g_n_6 h12) hst.2.1 hst.2.2.1 hacc _ _ (Or.inl rfl)] at hj'
      have hb1 := u_ways_b (step := u_step (g_f t 0) (g_w t 0) acc) (fin := u_fin (g_l t 0) (g_e t)) (S := 128) hl
      have : j' = j := (nI_eq (by omega) (by omega)).mp (ew'.symm.trans ew)
      subst this
      rw [u_row_eq (g_n_6 h12) hst.2.1 hst.2.2.1 hacc _ _ _ _ (Or.inl rfl)]
      exact hK _ (y_in h1.next (hJ.cw hf) hb)
    · have := z_p hp hp' e e'
      subst this
      rw [hP] at hP'
      cases hP'
      have : len' = len := (nI_eq (by omega) (by omega)).mp (eu'.symm.trans eu)
      subst this
      have hst := hf.2.2.2.2.1
      rw [u_ways_eq (g_n_6 h12) hst.2.1 hst.2.2.1 hacc _ _ (Or.inl rfl)] at hn'
      exact absurd ew (hn' j hj)
  · refine hQ _ _ (y_M_of h1 fun d2 Q2 hd2 hK => ?_)
    refine c12_row hJ.1 hb0 (by omega) (fun p' len' t' s' A' fo ac j' hp' e' hl' eu' hP' _ hf ew' hj' => ?_) (fun p' len' t' s' A' fo ac hp' e' hl' eu' hP' _ hf hn' => hK _ (y_in h1.next (hJ.cw hf) hb)) (fun hn => by rw [hn p len hp e hl eu] at hP; cases hP)
    have := z_p hp hp' e e'
    subst this
    rw [hP] at hP'
    cases hP'
    have : len' = len := (nI_eq (by omega) (by omega)).mp (eu'.symm.trans eu)
    subst this
    have hst := hf.2.2.2.2.1
    rw [u_ways_eq (g_n_6 h12) hst.2.1 hst.2.2.1 hacc _ _ (Or.inl rfl)] at hj'
    exact absurd ew' (hn j' hj')
  · refine hQ _ _ (y_M_of h fun d2 Q2 hd2 hK => ?_)
    exact c12_row hJ.1 hb0 (by omega) (fun p len t s' A' fo ac j hp e hl eu hP _ _ _ _ => by rw [hno p len hp e hl eu] at hP; cases hP) (fun p len t s' A' fo ac hp e hl eu hP _ _ _ => by rw [hno p len hp e hl eu] at hP; cases hP) (fun _ => hK _ (y_in h.next hJ hb))
theorem y_agrees {v u : Int32} (h : y_I M io r b k cs ss) (hd : 402 ≤ d) (hQ : ∀ ww M1, y_M G L mX12_agrees r [.int v, .int u] M1 ww (fun M2 => y_I M2 io r b (k + 1) cs ss) → Q (some (.int ww)) M1) : q_Call G L d mX11_agrees 0 0 [.ref io, .int v, .int u] M Q := by
  obtain ⟨zp, zc, zf, T, tp, P, S, D, tb, σ, as, s, A, B, h, hJ, hb⟩ := h
  have hS20 := hJ.2.2.1.2.1
  refine v11_agrees h (by omega) (fun p t j M1 hp e hP hj eu hy h1 => ?_) (fun p t j M1 hp e hP hj eu hy h1 => ?_) (fun hno => ?_)
  · refine hQ _ _ (y_M_of h1 fun d2 Q2 hd2 hK => ?_)
    refine c12_agrees hJ.1 hJ.2.2.1 (by omega) (fun p' t' j' s' A' hp' e' hP' hj' eu' hf hy' => hK _ (y_in h1.next (hJ.ft hf) hb)) (fun p' t' j' s' A' hp' e' hP' hj' eu' hf hy' => ?_) (fun hn => absurd eu (hn p t j hp e hP hj))
    have := z_p hp hp' e e'
    subst this
    rw [hP] at hP'
    cases hP'
    have : j' = j := (nI_eq (by omega) (by omega)).mp (eu'.symm.trans eu)
    subst this
    exact absurd hy hy'
  · refine hQ _ _ (y_M_of h1 fun d2 Q2 hd2 hK => ?_)
    refine c12_agrees hJ.1 hJ.2.2.1 (by omega) (fun p' t' j' s' A' hp' e' hP' hj' eu' hf hy' => ?_) (fun p' t' j' s' A' hp' e' hP' hj' eu' hf hy' => hK _ (y_in h1.next (hJ.ft hf) hb)) (fun hn => absurd eu (hn p t j hp e hP hj))
    have := z_p hp hp' e e'
    subst this
    rw [hP] at hP'
    cases hP'
    have : j' = j := (nI_eq (by omega) (by omega)).mp (eu'.symm.trans eu)
    subst this
    exact absurd hy' hy
  · refine hQ _ _ (y_M_of h fun d2 Q2 hd2 hK => ?_)
    exact c12_agrees hJ.1 hJ.2.2.1 (by omega) (fun p t j s' A' hp e hP hj eu _ _ => absurd eu (hno p t j hp e hP hj)) (fun p t j s' A' hp e hP hj eu _ _ => absurd eu (hno p t j hp e hP hj)) (fun _ => hK _ (y_in h.next hJ hb))
theorem y_paid {v : Int32} (h : y_I M io r b k cs ss) (hd : 402 ≤ d) (hQ : ∀ ww M1, y_M G L mX12_paid r [.int v] M1 ww (fun M2 => y_I M2 io r b (k + 1) cs ss) → Q (some (.int ww)) M1) : q_Call G L d mX11_paid 0 0 [.ref io, .int v] M Q := by
  obtain ⟨zp, zc, zf, T, tp, P, S, D, tb, σ, as, s, A, B, h, hJ, hb⟩ := h
  refine v11_paid h (by omega) (fun p t M1 hp e hP h1 => ?_) (fun hno => ?_)
  · refine hQ _ _ (y_M_of h1 fun d2 Q2 hd2 hK => ?_)
    refine c12_paid hJ.1 hJ.2.2.1 (by omega) (fun p' t' s' A' hp' e' hP' hf => ?_) (fun hn => absurd hP (hn p t hp e))
    have := z_p hp hp' e e'
    subst this
    rw [hP] at hP'
    cases hP'
    exact hK _ (y_in h1.next (hJ.ft hf) hb)
  · refine hQ _ _ (y_M_of h fun d2 Q2 hd2 hK => ?_)
    exact c12_paid hJ.1 hJ.2.2.1 (by omega) (fun p t s' A' hp e hP _ => absurd hP (hno p t hp e)) (fun _ => hK _ (y_in h.next hJ hb))
theorem y_count {v : Int32} (h : y_I M io r b k cs ss) (hd : 402 ≤ d) (hQ : ∀ ww M1, y_M G L mX12_count r [.int v] M1 ww (fun M2 => y_I M2 io r b (k + 1) cs ss) → Q (some (.int ww)) M1) : q_Call G L d mX11_count 0 0 [.ref io, .int v] M Q := by
  obtain ⟨zp, zc, zf, T, tp, P, S, D, tb, σ, as, s, A, B, h, hJ, hb⟩ := h
  obtain ⟨q1, q2, q3⟩ := hJ.2.2.1
  have hTp := hJ.2.2.2.2.1
  have hP1 : ∀ p, p < 10 → ((P p).isSome = true ↔ 0 < A 13 p) := fun p hp => ⟨fun g => by
      cases e : P p with
      | none => rw [e] at g; cases g
      | some t => exact m_P_pos hJ.1 hp e, fun g => by
      obtain ⟨t, ht, -⟩ := m_P_s hJ.1 hp g
      rw [ht]
      rfl⟩
  have hP2 : ∀ p, p < S → (tb.testBit p = true ↔ A 43 p ≠ 0) := fun p hp => by
    rw [(q3 p hp).2.2.2.2.2]
    show _ ↔ b_I (tb.testBit p) ≠ 0
    cases tb.testBit p with
    | false => exact ⟨fun g => (by cases g), fun g => absurd rfl g⟩
    | true => exact ⟨fun _ => by decide, fun _ => rfl⟩
  have mod : ∀ (d2 : Nat) (Q2 : Option Value → qM → Prop) (M1 : qM) (w : Int32), (v = nI 0 → w = nI (q_cnt (fun p => (P p).isSome) 10)) → (v = nI 1 → w = nI S) → (v = nI 2 → w = nI (q_cnt (fun j => tb.testBit j) S)) → (v = nI 3 → w = nI T) → ((∀ k, k < 4 → v ≠ nI k) → w = -1) → Q2 (some (.int w)) (q_md M1 r s A B) → q_Call G L d2 mX12_count 0 0 [.ref r, .int v] (q_md M1 r s A B) Q2 := fun d2 Q2 M1 w w0 w1 w2 w3 w4 hK => c12_count (P := fun p => (P p).isSome) (P2 := fun j => tb.testBit j) q1 q2 hP1 hP2 (fun e => w0 e ▸ hK) (fun e => w1 e ▸ hK) (fun e => w2 e ▸ hK) (fun e => by rw [hTp.1]; exact w3 e ▸ hK) (fun e => w4 e ▸ hK)
  have ne : ∀ a c : Nat, a < 4 → c < 4 → a ≠ c → v = nI a → v ≠ nI c := fun a c ha hc hac e e' => hac ((nI_eq (by omega) (by omega)).mp (e.symm.trans e'))
  refine v11_count h (by omega) (fun e => ?_) (fun e => ?_) (fun e => ?_) (fun e => ?_) (fun e => ?_)
  · refine hQ _ _ (y_M_of h fun d2 Q2 hd2 hK => mod d2 Q2 M _ (fun _ => rfl) (fun g => absurd g (ne 0 1 (by decide) (by decide) (by decide) e)) (fun g => absurd g (ne 0 2 (by decide) (by decide) (by decide) e)) (fun g => absurd g (ne 0 3 (by decide) (by decide) (by decide) e)) (fun g => absurd e (g 0 (by decide))) (hK _ (y_in h.next hJ hb)))
  · refine hQ _ _ (y_M_of h fun d2 Q2 hd2 hK => mod d2 Q2 M _ (fun g => absurd g (ne 1 0 (by decide) (by decide) (by decide) e)) (fun _ => rfl) (fun g => absurd g (ne 1 2 (by decide) (by decide) (by decide) e)) (fun g => absurd g (ne 1 3 (by decide) (by decide) (by decide) e)) (fun g => absurd e (g 1 (by decide))) (hK _ (y_in h.next hJ hb)))
  · refine hQ _ _ (y_M_of h fun d2 Q2 hd2 hK => mod d2 Q2 M _ (fun g => absurd g (ne 2 0 (by decide) (by decide) (by decide) e)) (fun g => absurd g (ne 2 1 (by decide) (by decide) (by decide) e)) (fun _ => rfl) (fun g => absurd g (ne 2 3 (by decide) (by decide) (by decide) e)) (fun g => absurd e (g 2 (by decide))) (hK _ (y_in h.next hJ hb)))
  · refine hQ _ _ (y_M_of h fun d2 Q2 hd2 hK => mod d2 Q2 M _ (fun g => absurd g (ne 3 0 (by decide) (by decide) (by decide) e)) (fun g => absurd g (ne 3 1 (by decide) (by decide) (by decide) e)) (fun g => absurd g (ne 3 2 (by decide) (by decide) (by decide) e)) (fun _ => rfl) (fun g => absurd e (g 3 (by decide))) (hK _ (y_in h.next hJ hb)))
  · refine hQ _ _ (y_M_of h fun d2 Q2 hd2 hK => mod d2 Q2 M _ (fun g => absurd g (e 0 (by decide))) (fun g => absurd g (e 1 (by decide))) (fun g => absurd g (e 2 (by decide))) (fun g => absurd g (e 3 (by decide))) (fun _ => rfl) (hK _ (y_in h.next hJ hb)))
theorem y_found (h : y_I M io r b k cs ss) (hd : 402 ≤ d) (hQ : ∀ ww M1, y_M G L mX12_found r [] M1 ww (fun M2 => y_I M2 io r b (k + 1) cs ss) → Q (some (.int ww)) M1) : q_Call G L d mX11_found 0 0 [.ref io] M Q := by
  obtain ⟨zp, zc, zf, T, tp, P, S, D, tb, σ, as, s, A, B, h, hJ, hb⟩ := h
  have e51 : s 51 = nI (f_fd σ) := by
    have g := hJ.2.2.2.2.2.2.2.2.2.1
    cases σ with
    | none => exact g.2
    | some x => obtain ⟨K, c, a, m, fnd⟩ := x; exact g.2.2.2.2.2.1
  refine v11_found h (by omega) (hQ _ _ (y_M_of h fun d2 Q2 hd2 hK => c12_found ?_))
  rw [e51]
  exact hK _ (y_in h.next hJ hb)
theorem y_asked (h : y_I M io r b k cs ss) (hd : 402 ≤ d) (hQ : ∀ ww M1, y_M G L mX12_asked r [] M1 ww (fun M2 => y_I M2 io r b (k + 1) cs ss) → Q (some (.int ww)) M1) : q_Call G L d mX11_asked 0 0 [.ref io] M Q := by
  obtain ⟨zp, zc, zf, T, tp, P, S, D, tb, σ, as, s, A, B, h, hJ, hb⟩ := h
  refine v11_asked h (by omega) (hQ _ _ (y_M_of h fun d2 Q2 hd2 hK => c12_asked ?_))
  rw [hJ.2.2.2.2.2.2.2.2.2.2]
  exact hK _ (y_in h.next hJ hb)
end
