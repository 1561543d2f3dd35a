/-! the reference's invariant: places, searches; what class and reference have in common of pairs -/
section
variable {T : Nat} {tp : Nat → Nat} {P : Nat → Option qT} {S : Nat} {D : Nat → yD} {tb : Nat} {σ : fS} {as : Nat} {s s' s1 : Nat → Int32} {A A' A1 : Nat → Nat → Int32} {B B' : Nat → Nat → Int64}
theorem w_wf {p : Nat} {t : qT} (hW : ∀ p t, P p = some t → t_wf t) (hw : t_wf t) : ∀ q u, va_up P p (some t) q = some u → t_wf u := fun q u hq => by
  by_cases c : q = p
  · subst c
    rw [va_up_self] at hq
    cases hq
    exact hw
  · rw [va_up_ne _ _ c] at hq
    exact hW q u hq
theorem m_J.pu {p : Nat} {t : qT} (h : m_J T tp P S D tb σ as s A B) (hu : m_Pu s A p t s' A') (hw : t_wf t) (h12 : t_nodes t ≤ 12) : m_J T tp (va_up P p (some t)) S D tb σ as s' A' B := by
  obtain ⟨u1, u2, u3, u4, u5⟩ := hu
  have ha : ∀ f, f < 13 ∨ 15 < f → A' f = A f := fun f hf => u2 f (by omega) (by omega) (by omega)
  have hl : k_Laid s A → k_Laid s' A' := fun g => k_Laid_fr g (u1 11 (by decide)) (fun f _ _ => ha f (by omega)) (ha 12 (by decide))
  exact h.fr (m_P_up h.1 h12 ⟨u3, u4, u5⟩) (w_wf h.2.1 hw) (Or.inl ⟨u1 18 (by decide), ha 17 (by decide), rfl⟩) (u1 38 (by decide)) (u1 48 (by decide)) (u1 49 (by decide)) (u1 50 (by decide)) (u1 51 (by decide)) ((u1 57 (by decide)).trans h.2.2.2.2.2.2.2.2.2.2) (ha 39 (by decide)) (ha 40 (by decide)) (ha 41 (by decide)) (ha 42 (by decide)) (ha 43 (by decide)) hl (h.2.2.2.2.2.1.imp (fun g => (u1 11 (by decide)).trans g) hl) (m_Kw_cg h.2.2.2.2.2.2.1 (ha 44 (by decide)) (ha 47 (by decide)) rfl rfl) rfl rfl (h.2.2.2.2.2.2.2.1.imp fun fo g => g.imp fun ac g => m_blk_cg g (ha 25 (by decide)) (ha 26 (by decide))) (h.2.2.2.2.2.2.2.2.1.imp fun fo g => g.imp fun ac g => m_blk_cg g (ha 25 (by decide)) (ha 26 (by decide)))
theorem m_J.rd {P' : Nat → Option qT} (h : m_J T tp P S D tb σ as s A B) (hf : m_Rd s A s' A') (hP : m_P A' P') (hW : ∀ p t, P' p = some t → t_wf t) : m_J 0 tp P' S D tb σ as s' A' B := by
  obtain ⟨f1, f2, f3, f4⟩ := hf
  have hs : ∀ k, k = 11 ∨ 21 < k → s' k = s k := fun k hk => f1 k (by omega) (by omega) (by omega) (by omega) (by omega) (by omega)
  have ha : ∀ f, f = 12 ∨ 15 < f → A' f = A f := fun f hf => f3 f (by omega) (by omega) (by omega) (by omega)
  have hl : k_Laid s A → k_Laid s' A' := fun g => k_Laid_m g (hs 11 (by decide)) f4 (by decide) (ha 12 (by decide))
  exact h.fr hP hW (Or.inr ⟨f2, rfl⟩) (hs 38 (by decide)) (hs 48 (by decide)) (hs 49 (by decide)) (hs 50 (by decide)) (hs 51 (by decide)) ((hs 57 (by decide)).trans h.2.2.2.2.2.2.2.2.2.2) (ha 39 (by decide)) (ha 40 (by decide)) (ha 41 (by decide)) (ha 42 (by decide)) (ha 43 (by decide)) hl (h.2.2.2.2.2.1.imp (fun g => (hs 11 (by decide)).trans g) hl) (m_Kw_cg h.2.2.2.2.2.2.1 (ha 44 (by decide)) (ha 47 (by decide)) rfl rfl) rfl rfl (h.2.2.2.2.2.2.2.1.imp fun fo g => g.imp fun ac g => m_blk_cg g (ha 25 (by decide)) (ha 26 (by decide))) (h.2.2.2.2.2.2.2.2.1.imp fun fo g => g.imp fun ac g => m_blk_cg g (ha 25 (by decide)) (ha 26 (by decide)))
theorem m_J.fq (h : m_J T tp P S D tb σ as s A B) (hf : m_Fq s A B s' A' B') : m_J T tp P S D tb σ as s' A' B' := by
  obtain ⟨f1, f2, f3, f4⟩ := hf
  have hs : ∀ k, k ≠ 2 → k ≠ 54 → s' k = s k := f1
  have ha : ∀ f, f ≠ 1 → f ≠ 44 → f ≠ 47 → A' f = A f := f2
  have hl : k_Laid s A → k_Laid s' A' := fun g => k_Laid_fr g (hs 11 (by decide) (by decide)) (fun f _ _ => ha f (by omega) (by omega) (by omega)) (ha 12 (by decide) (by decide) (by decide))
  exact h.fr (m_P_cg h.1 (ha 13 (by decide) (by decide) (by decide)) (ha 14 (by decide) (by decide) (by decide)) (ha 15 (by decide) (by decide) (by decide))) h.2.1 (Or.inl ⟨hs 18 (by decide) (by decide), ha 17 (by decide) (by decide) (by decide), rfl⟩) (hs 38 (by decide) (by decide)) (hs 48 (by decide) (by decide)) (hs 49 (by decide) (by decide)) (hs 50 (by decide) (by decide)) (hs 51 (by decide) (by decide)) ((hs 57 (by decide) (by decide)).trans h.2.2.2.2.2.2.2.2.2.2) (ha 39 (by decide) (by decide) (by decide)) (ha 40 (by decide) (by decide) (by decide)) (ha 41 (by decide) (by decide) (by decide)) (ha 42 (by decide) (by decide) (by decide)) (ha 43 (by decide) (by decide) (by decide)) hl (h.2.2.2.2.2.1.imp (fun g => (hs 11 (by decide) (by decide)).trans g) hl) f4 (f3 52 (by decide) (by decide) (by decide) (by decide)) (f3 53 (by decide) (by decide) (by decide) (by decide)) (h.2.2.2.2.2.2.2.1.imp fun fo g => g.imp fun ac g => m_blk_cg g (ha 25 (by decide) (by decide) (by decide)) (ha 26 (by decide) (by decide) (by decide))) (h.2.2.2.2.2.2.2.2.1.imp fun fo g => g.imp fun ac g => m_blk_cg g (ha 25 (by decide) (by decide) (by decide)) (ha 26 (by decide) (by decide) (by decide)))
theorem m_J.ask {g : Nat → Int32} {as' : Nat} (h : m_J T tp P S D tb σ as s A B) (hn : m_Num (va_up A 47 g)) : m_J T tp P S D tb σ as' (va_up s 57 (nI as')) (va_up A 47 g) B := by
  have hs : ∀ k, k ≠ 57 → va_up s 57 (nI as') k = s k := fun k hk => va_up_ne _ _ hk
  have ha : ∀ f, f ≠ 47 → va_up A 47 g f = A f := fun f hf => va_up_ne _ _ hf
  have hl : k_Laid s A → k_Laid (va_up s 57 (nI as')) (va_up A 47 g) := fun g => k_Laid_fr g (hs 11 (by decide)) (fun f _ _ => ha f (by omega)) (ha 12 (by decide))
  exact h.fr (m_P_cg h.1 (ha 13 (by decide)) (ha 14 (by decide)) (ha 15 (by decide))) h.2.1 (Or.inl ⟨hs 18 (by decide), ha 17 (by decide), rfl⟩) (hs 38 (by decide)) (hs 48 (by decide)) (hs 49 (by decide)) (hs 50 (by decide)) (hs 51 (by decide)) (va_up_self _ _ _) (ha 39 (by decide)) (ha 40 (by decide)) (ha 41 (by decide)) (ha 42 (by decide)) (ha 43 (by decide)) hl (h.2.2.2.2.2.1.imp (fun g => (hs 11 (by decide)).trans g) hl) ⟨Or.inr hn, fun p hp => by rw [ha 44 (by decide)]; exact h.2.2.2.2.2.2.1.2 p hp⟩ rfl rfl (h.2.2.2.2.2.2.2.1.imp fun fo g => g.imp fun ac g => m_blk_cg g (ha 25 (by decide)) (ha 26 (by decide))) (h.2.2.2.2.2.2.2.2.1.imp fun fo g => g.imp fun ac g => m_blk_cg g (ha 25 (by decide)) (ha 26 (by decide)))
theorem m_J.go {pl K c a m : Nat} {fnd : Nat → Nat} {bk : Nat → Bool} {ans : Int32} (h : m_J T tp P S D tb σ as s A B) (hl : k_Laid s A) (h1 : ∀ k, k < 48 ∨ 51 < k → s1 k = s k) (e48 : s1 48 = nI K) (e49 : s1 49 = nI c) (hK : K < 64) (hc : c ≤ 10) (hma : m ≤ a) (ha4 : a ≤ 4937) (hG : m_GO s1 A B pl K c a m fnd D bk S ans s' A' B') : (ans = -2 ∧ (∀ q, a ≤ q → q < 4937 → ¬ e_can K c D bk S m fnd q) ∧ m_J T tp P S D tb (some (K, c, 4937, m, fnd)) as s' A' B') ∨ ∃ q, a ≤ q ∧ q < 4937 ∧ e_can K c D bk S m fnd q ∧ (∀ q', a ≤ q' → q' < q → ¬ e_can K c D bk S m fnd q') ∧ ans = nI (t_cost (e_t q)) ∧ m_J T tp (va_up P pl (some (e_t q))) S D tb (some (K, c, q + 1, m + 1, fun j => if j = m then q else fnd j)) as s' A' B' := by
  obtain ⟨g1, g2, g3, g4, g5⟩ := hG
  obtain ⟨j1, j2, j3, j4, j5, j6, j7, j8, j9, j10, j11⟩ := h
  have hs : ∀ k, k ≠ 2 → k ≠ 16 → k < 48 ∨ 51 < k → s' k = s k := fun k h2 h16 hk => (g1 k h2 h16 (by omega) (by omega)).trans (h1 k hk)
  have ha : ∀ f, f ≠ 1 → f < 13 ∨ 15 < f → f ≠ 44 → f ≠ 47 → A' f = A f := fun f h1 h2 h3 h4 => g2 f h1 (by omega) (by omega) (by omega) h3 h4
  have hl' : k_Laid s' A' := k_Laid_fr hl (hs 11 (by decide) (by decide) (by decide)) (fun f _ _ => ha f (by omega) (by omega) (by omega) (by omega)) (ha 12 (by decide) (by decide) (by decide) (by decide))
  have k48 : s' 48 = nI K := (g1 48 (by decide) (by decide) (by decide) (by decide)).trans e48
  have k49 : s' 49 = nI c := (g1 49 (by decide) (by decide) (by decide) (by decide)).trans e49
  have q3 : m_Shw s' A' S D (fun j => tb.testBit j) := ⟨(hs 38 (by decide) (by decide) (by decide)).trans j3.1, j3.2.1, fun j hj => by
    rw [ha 39 (by decide) (by decide) (by decide) (by decide), ha 40 (by decide) (by decide) (by decide) (by decide), ha 41 (by decide) (by decide) (by decide) (by decide), ha 42 (by decide) (by decide) (by decide) (by decide), ha 43 (by decide) (by decide) (by decide) (by decide)]
    exact j3.2.2 j hj⟩
  have q4 : tb < 2 ^ S ∧ ∀ j, S ≤ j → j < 20 → A' 43 j = nI 0 := ⟨j4.1, fun j a1 a2 => by rw [ha 43 (by decide) (by decide) (by decide) (by decide)]; exact j4.2 j a1 a2⟩
  have q5 : m_Tp s' A' tp T := ⟨(hs 18 (by decide) (by decide) (by decide)).trans j5.1, j5.2.1, fun j hj => by rw [ha 17 (by decide) (by decide) (by decide) (by decide)]; exact j5.2.2 j hj⟩
  have q8 : ∃ fo ac, m_blk A' 0 fo ac := j8.imp fun fo g => g.imp fun ac g => m_blk_cg g (ha 25 (by decide) (by decide) (by decide) (by decide)) (ha 26 (by decide) (by decide) (by decide) (by decide))
  have q9 : ∃ fo ac, m_blk A' 1 fo ac := j9.imp fun fo g => g.imp fun ac g => m_blk_cg g (ha 25 (by decide) (by decide) (by decide) (by decide)) (ha 26 (by decide) (by decide) (by decide) (by decide))
  have q11 : s' 57 = nI as := (hs 57 (by decide) (by decide) (by decide)).trans j11
  rcases g5 with ⟨r1, r2, r3, r4, r5, r6, r7, r8⟩ | ⟨q, r1, r2, r3, r4, r5, r6, r7, r8, r9⟩
  · exact Or.inl ⟨r1, r2, m_P_cg j1 r3 r4 r5, j2, q3, q4, q5, Or.inr hl', g4, q8, q9, ⟨hK, hc, k48, k49, r6, r7, Nat.le_refl _, by omega, r8, hl'⟩, q11⟩
  · have hn9 := (e_c r2).2.2.2.2
    exact Or.inr ⟨q, r1, r2, r3, r4, r5, m_P_up j1 (by omega) r6, w_wf j2 (e_c r2).1, q3, q4, q5, Or.inr hl', g4, q8, q9, ⟨hK, hc, k48, k49, r7, r8, by omega, by omega, r9, hl'⟩, q11⟩
end
theorem u_step_ac {t : qT} {ac acc : Nat → Nat} {S c : Nat} (h1 : g_ok ac t 0) (h2 : g_ok acc t 0) : u_step (g_f t 0) (g_w t 0) ac S c = u_step (g_f t 0) (g_w t 0) acc S c := by
  have un := g_ok_un t 0 h1 h2
  refine g_ext fun j => ?_
  rw [u_step_bit, u_step_bit]
  constructor
  · rintro ⟨a1, a2, a3⟩
    have hj : j < g_n t := by
      rcases a2 with a2 | ⟨q, q1, q2, q3⟩
      · have := (g_f_rng t 0 j a2.2).2
        omega
      · have := (g_w_rng t 0 q j q3).2.2
        omega
    exact ⟨a1, a2, by rw [← un j (by omega) (by omega)]; exact a3⟩
  · rintro ⟨a1, a2, a3⟩
    have hj : j < g_n t := by
      rcases a2 with a2 | ⟨q, q1, q2, q3⟩
      · have := (g_f_rng t 0 j a2.2).2
        omega
      · have := (g_w_rng t 0 q j q3).2.2
        omega
    exact ⟨a1, a2, by rw [un j (by omega) (by omega)]; exact a3⟩
theorem p_nx_ac {ta tb : qT} {ka kb ka' kb' : Nat → Nat} (h1 : g_ok ka ta 0) (h2 : g_ok kb tb 0) (h1' : g_ok ka' ta 0) (h2' : g_ok kb' tb 0) : p_nx ta tb ka kb = p_nx ta tb ka' kb' := by
  funext P l
  unfold p_nx
  rw [u_step_ac h1 h1', u_step_ac h2 h2']
theorem b_rec_u {S : bS} {R R' : Nat → Option Nat} (hR : b_rec S R) (hR' : b_rec S R') (hf : ∀ j, 1 ≤ j → j < S.2.2 → S.2.1 j / 3 < j) : ∀ n j, j < n → j < S.2.2 → R j = R' j := by
  intro n
  induction n with
  | zero => intro j hj; exact absurd hj (by omega)
  | succ n ih =>
    intro j hj hjS
    by_cases c : j = 0
    · subst c
      rw [hR.1, hR'.1]
    · have h1 := hf j (by omega) hjS
      rw [hR.2 j (by omega) hjS, hR'.2 j (by omega) hjS, ih _ (by omega) (by omega)]
theorem p_out_u {nx : Nat → Nat → Nat} {C : Nat → Prop} {o : Option Nat} {R R' : Nat → Option Nat} (ho : b_res nx 4224 C o) (hR : ∀ k, o = some k → b_rec (b_st nx 4224 k) R) (hR' : ∀ k, o = some k → b_rec (b_st nx 4224 k) R') : p_out R o = p_out R' o := by
  cases o with
  | none => rfl
  | some k =>
    have hIv := b_Iv_st (V := fun _ => True) (nx := nx) (P0 := 4224) trivial (fun _ _ _ _ => trivial) k (fun j hj => ho.1 j (by omega))
    show b_rI (R k) = b_rI (R' k)
    rw [b_rec_u (hR k rfl) (hR' k rfl) hIv.2.2.2 (k + 1) k (by omega) (ho.1 k (Nat.le_refl _))]
