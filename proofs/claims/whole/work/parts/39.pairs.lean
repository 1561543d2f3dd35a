/-! pairs: what the reference and the class have in common -/
theorem g_ok_un {ac ac' : Nat → Nat} : ∀ (t : qT) (a : Nat), g_ok ac t a → g_ok ac' t a → ∀ q, a ≤ q → q < a + g_n t → ac q = ac' q
  | .num _, a, h, g, q, h1, h2 => by
    have h2 : q < a + 1 := h2
    have e : q = a := by omega
    rw [e]
    exact (show ac a = _ from h).trans (show ac' a = _ from g).symm
  | .var _, a, h, g, q, h1, h2 => by
    have h2 : q < a + 1 := h2
    have e : q = a := by omega
    rw [e]
    exact (show ac a = _ from h).trans (show ac' a = _ from g).symm
  | .add x y, a, h, g, q, h1, h2 => by
    have h2 : q < a + (g_n x + g_n y) := h2
    by_cases c : q < a + g_n x
    · exact g_ok_un x a h.1 g.1 q h1 c
    · exact g_ok_un y _ h.2 g.2 q (by omega) (by omega)
  | .sub x y, a, h, g, q, h1, h2 => by
    have h2 : q < a + (g_n x + g_n y) := h2
    by_cases c : q < a + g_n x
    · exact g_ok_un x a h.1 g.1 q h1 c
    · exact g_ok_un y _ h.2 g.2 q (by omega) (by omega)
  | .neg x, a, h, g, q, h1, h2 => g_ok_un x a h g q h1 h2
  | .mulL _ x, a, h, g, q, h1, h2 => g_ok_un x a h g q h1 h2
  | .mulR x _, a, h, g, q, h1, h2 => g_ok_un x a h g q h1 h2
theorem u_step_eq {t : qT} {fo ac acc : Nat → Nat} {S c : Nat} (hn : g_n t ≤ 6) (hfo : ∀ q, q < g_n t → fo q = g_w t 0 q) (h1 : g_ok ac t 0) (h2 : g_ok acc t 0) (hS : S = 128 ∨ S < 2 ^ g_n t) : u_step (g_f t 0) fo ac S c = u_step (g_f t 0) (g_w t 0) acc S c := by
  have key : ∀ q, q < 7 → S.testBit q = true → q < g_n t := by
    intro q hq hb
    rcases hS with rfl | h
    · have : ∀ q', q' < 7 → (128 : Nat).testBit q' = false := by decide
      rw [this q hq] at hb
      exact absurd hb (by decide)
    · exact g_S_lt h hb
  have un := g_ok_un t 0 h1 h2
  refine g_ext fun j => ?_
  rw [u_step_bit, u_step_bit]
  constructor
  · rintro ⟨a1, a2, a3⟩
    have hj : j < g_n t := by
      rcases a2 with a2 | ⟨q, q1, q2, q3⟩
      · have := (g_f_rng t 0 j a2.2).2
        omega
      · rw [hfo q (key q q1 q2)] at q3
        have := (g_w_rng t 0 q j q3).2.2
        omega
    refine ⟨a1, ?_, by rw [← un j (by omega) (by omega)]; exact a3⟩
    rcases a2 with a2 | ⟨q, q1, q2, q3⟩
    · exact Or.inl a2
    · exact Or.inr ⟨q, q1, q2, by rw [← hfo q (key q q1 q2)]; exact q3⟩
  · rintro ⟨a1, a2, a3⟩
    have hj : j < g_n t := by
      rcases a2 with a2 | ⟨q, q1, q2, q3⟩
      · have := (g_f_rng t 0 j a2.2).2
        omega
      · have := (g_w_rng t 0 q j q3).2.2
        omega
    refine ⟨a1, ?_, by rw [un j (by omega) (by omega)]; exact a3⟩
    rcases a2 with a2 | ⟨q, q1, q2, q3⟩
    · exact Or.inl a2
    · exact Or.inr ⟨q, q1, q2, by rw [hfo q (key q q1 q2)]; exact q3⟩
theorem u_mp_ok {t : qT} {S : Nat} (hn : g_n t ≤ 6) (h : u_ok t S) : u_mp S = 128 ∨ u_mp S < 2 ^ g_n t := by
  have hp : 2 ^ g_n t ≤ 64 := Nat.pow_le_pow_right (n := 2) (j := 6) (by decide) hn
  rcases h with rfl | h
  · exact Or.inl rfl
  · right
    unfold u_mp
    rw [if_neg (by omega)]
    exact h
/-- counts and rows are the same by both -/
theorem u_ways_eq {t : qT} {fo ac acc : Nat → Nat} {fin : Nat → Bool} (hn : g_n t ≤ 6) (hfo : ∀ q, q < g_n t → fo q = g_w t 0 q) (h1 : g_ok ac t 0) (h2 : g_ok acc t 0) : ∀ m S, (S = 128 ∨ S < 2 ^ g_n t) → u_ways (u_step (g_f t 0) fo ac) fin m S = u_ways (u_step (g_f t 0) (g_w t 0) acc) fin m S
  | 0, _, _ => rfl
  | m + 1, S, hS => by
    show u_ways _ fin m (u_step _ fo ac S 0) + u_ways _ fin m (u_step _ fo ac S 1) + u_ways _ fin m (u_step _ fo ac S 2) = u_ways _ fin m (u_step _ (g_w t 0) acc S 0) + u_ways _ fin m (u_step _ (g_w t 0) acc S 1) + u_ways _ fin m (u_step _ (g_w t 0) acc S 2)
    rw [u_step_eq hn hfo h1 h2 hS, u_step_eq hn hfo h1 h2 hS, u_step_eq hn hfo h1 h2 hS, u_ways_eq hn hfo h1 h2 m _ (Or.inr u_step_in), u_ways_eq hn hfo h1 h2 m _ (Or.inr u_step_in), u_ways_eq hn hfo h1 h2 m _ (Or.inr u_step_in)]
theorem u_row_eq {t : qT} {fo ac acc : Nat → Nat} {fin : Nat → Bool} (hn : g_n t ≤ 6) (hfo : ∀ q, q < g_n t → fo q = g_w t 0 q) (h1 : g_ok ac t 0) (h2 : g_ok acc t 0) : ∀ m S left N, (S = 128 ∨ S < 2 ^ g_n t) → u_row (u_step (g_f t 0) fo ac) fin m S left N = u_row (u_step (g_f t 0) (g_w t 0) acc) fin m S left N
  | 0, _, _, _, _ => rfl
  | m + 1, S, left, N, hS => by
    have e : (fun l => u_ways (u_step (g_f t 0) fo ac) fin m (u_step (g_f t 0) fo ac S l)) = (fun l => u_ways (u_step (g_f t 0) (g_w t 0) acc) fin m (u_step (g_f t 0) (g_w t 0) acc S l)) := by
      funext l
      rw [u_step_eq hn hfo h1 h2 hS, u_ways_eq hn hfo h1 h2 m _ (Or.inr u_step_in)]
    show u_row (u_step (g_f t 0) fo ac) fin m (u_step (g_f t 0) fo ac S (u_let (fun l => u_ways (u_step (g_f t 0) fo ac) fin m (u_step (g_f t 0) fo ac S l)) left).1) (u_let (fun l => u_ways (u_step (g_f t 0) fo ac) fin m (u_step (g_f t 0) fo ac S l)) left).2 (3 * N + (u_let (fun l => u_ways (u_step (g_f t 0) fo ac) fin m (u_step (g_f t 0) fo ac S l)) left).1) = u_row (u_step (g_f t 0) (g_w t 0) acc) fin m (u_step (g_f t 0) (g_w t 0) acc S (u_let (fun l => u_ways (u_step (g_f t 0) (g_w t 0) acc) fin m (u_step (g_f t 0) (g_w t 0) acc S l)) left).1) (u_let (fun l => u_ways (u_step (g_f t 0) (g_w t 0) acc) fin m (u_step (g_f t 0) (g_w t 0) acc S l)) left).2 (3 * N + (u_let (fun l => u_ways (u_step (g_f t 0) (g_w t 0) acc) fin m (u_step (g_f t 0) (g_w t 0) acc S l)) left).1)
    rw [e, u_step_eq hn hfo h1 h2 hS, u_row_eq hn hfo h1 h2 m _ _ _ (Or.inr u_step_in)]
/-- the next pair -/
def p_nx (ta tb : qT) (ka kb : Nat → Nat) (P l : Nat) : Nat := u_step (g_f ta 0) (g_w ta 0) ka (u_mp (P / 65)) l * 65 + u_step (g_f tb 0) (g_w tb 0) kb (u_mp (P % 65)) l
def p_V (ta tb : qT) (P : Nat) : Prop := P < 4225 ∧ u_ok ta (P / 65) ∧ u_ok tb (P % 65)
theorem p_65 {X Y : Nat} (hY : Y < 65) : (X * 65 + Y) / 65 = X ∧ (X * 65 + Y) % 65 = Y := by omega
theorem p_V_nx {ta tb : qT} {ka kb : Nat → Nat} (ha : g_n ta ≤ 6) (hb : g_n tb ≤ 6) (P l : Nat) : p_V ta tb (p_nx ta tb ka kb P l) := by
  have hpa : 2 ^ g_n ta ≤ 64 := Nat.pow_le_pow_right (n := 2) (j := 6) (by decide) ha
  have hpb : 2 ^ g_n tb ≤ 64 := Nat.pow_le_pow_right (n := 2) (j := 6) (by decide) hb
  have h1 := u_step_in (t := ta) (acc := ka) (S := u_mp (P / 65)) (c := l)
  have h2 := u_step_in (t := tb) (acc := kb) (S := u_mp (P % 65)) (c := l)
  obtain ⟨e1, e2⟩ := p_65 (X := u_step (g_f ta 0) (g_w ta 0) ka (u_mp (P / 65)) l) (Y := u_step (g_f tb 0) (g_w tb 0) kb (u_mp (P % 65)) l) (by omega)
  unfold p_nx p_V
  rw [e1, e2]
  exact ⟨by omega, Or.inr h1, Or.inr h2⟩
theorem p_V_0 {ta tb : qT} : p_V ta tb 4224 := ⟨by decide, Or.inl (by decide), Or.inl (by decide)⟩
/-- who ends there -/
def p_fin (t : qT) (S : Nat) : Bool := u_fin (g_l t 0) (g_e t) (u_mp S)
def p_C (ta tb : qT) (how : Nat) (P : Nat) : Prop := (how = 0 ∧ p_fin ta (P / 65) ≠ p_fin tb (P % 65)) ∨ (how = 1 ∧ p_fin ta (P / 65) = true ∧ p_fin tb (P % 65) = false)
/-- a pair as the reference numbers it -/
def p_mc (P : Nat) : Nat := 256 * u_mp (P / 65) + u_mp (P % 65)
theorem u_mp_lt {S : Nat} (h : S < 65) : u_mp S ≤ 128 ∧ (u_mp S < 64 ∨ u_mp S = 128) := by
  unfold u_mp
  split <;> omega
theorem u_mp_inj {S S' : Nat} (h : S < 65) (h' : S' < 65) (e : u_mp S = u_mp S') : S = S' := by
  unfold u_mp at e
  split at e <;> split at e <;> omega
theorem p_mc_inj {P P' : Nat} (h : P < 4225) (h' : P' < 4225) (e : p_mc P = p_mc P') : P = P' := by
  unfold p_mc at e
  have a1 := u_mp_lt (S := P / 65) (by omega)
  have a2 := u_mp_lt (S := P % 65) (by omega)
  have a3 := u_mp_lt (S := P' / 65) (by omega)
  have a4 := u_mp_lt (S := P' % 65) (by omega)
  have e1 := u_mp_inj (S := P / 65) (S' := P' / 65) (by omega) (by omega) (by omega)
  have e2 := u_mp_inj (S := P % 65) (S' := P' % 65) (by omega) (by omega) (by omega)
  omega
theorem p_mc_lt {P : Nat} (h : P < 4225) : p_mc P < 65536 := by
  unfold p_mc
  have a1 := u_mp_lt (S := P / 65) (by omega)
  have a2 := u_mp_lt (S := P % 65) (by omega)
  omega
/-- a queue's length -/
theorem p_cnt {ta tb : qT} {S : bS} (h : b_Iv (p_V ta tb) S) : S.2.2 ≤ 4225 := b_pig 4225 S.2.2 S.1 (fun j hj => (h.2.1 j hj).1) h.2.2.1
theorem p_cnt1 {ta tb : qT} {S : bS} {P : Nat} (h : b_Iv (p_V ta tb) S) (hP : p_V ta tb P) (hm : ¬ b_mem S.1 P S.2.2 = true) : S.2.2 < 4225 := by
  have hno : ∀ j, j < S.2.2 → S.1 j ≠ P := fun j hj e => hm ((b_mem_iff _).mpr ⟨j, hj, e⟩)
  have := b_pig 4225 (S.2.2 + 1) (va_up S.1 S.2.2 P) (fun j hj => ?_) (fun j j' hj hj' e => ?_)
  · omega
  · by_cases c : j = S.2.2
    · rw [c, va_up_self]; exact hP.1
    · rw [va_up_ne _ _ c]; exact (h.2.1 j (by omega)).1
  · by_cases c : j = S.2.2
    · by_cases c' : j' = S.2.2
      · omega
      · rw [c, va_up_self, va_up_ne _ _ c'] at e
        exact absurd e.symm (hno j' (by omega))
    · by_cases c' : j' = S.2.2
      · rw [c', va_up_self, va_up_ne _ _ c] at e
        exact absurd e (hno j (by omega))
      · rw [va_up_ne _ _ c, va_up_ne _ _ c'] at e
        exact h.2.2.1 j j' (by omega) (by omega) e
