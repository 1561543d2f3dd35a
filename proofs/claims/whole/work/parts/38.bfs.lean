/-! pairs of states gone through in their order -/
def b_mem (q : Nat → Nat) (P : Nat) : Nat → Bool
  | 0 => false
  | n + 1 => b_mem q P n || decide (q n = P)
theorem b_mem_iff {q : Nat → Nat} {P : Nat} : ∀ n, b_mem q P n = true ↔ ∃ j, j < n ∧ q j = P
  | 0 => ⟨fun h => absurd (show false = true from h) (by decide), fun ⟨j, h, _⟩ => absurd h (by omega)⟩
  | n + 1 => by
    unfold b_mem
    rw [Bool.or_eq_true, b_mem_iff n, decide_eq_true_iff]
    constructor
    · rintro (⟨j, h1, h2⟩ | h)
      · exact ⟨j, by omega, h2⟩
      · exact ⟨n, by omega, h⟩
    · rintro ⟨j, h1, h2⟩
      rcases Nat.lt_or_eq_of_le (Nat.le_of_lt_succ h1) with g | g
      · exact Or.inl ⟨j, g, h2⟩
      · exact Or.inr (g ▸ h2)
/-- queue, where each came from, how many -/
abbrev bS : Type := (Nat → Nat) × (Nat → Nat) × Nat
def b_add (S : bS) (P e : Nat) : bS := if b_mem S.1 P S.2.2 = true then S else (va_up S.1 S.2.2 P, va_up S.2.1 S.2.2 e, S.2.2 + 1)
def b_it (nx : Nat → Nat → Nat) (S : bS) (k P : Nat) : Nat → bS
  | 0 => S
  | l + 1 => b_add (b_it nx S k P l) (nx P l) (3 * k + l)
def b_st (nx : Nat → Nat → Nat) (P0 : Nat) : Nat → bS
  | 0 => (fun _ => P0, fun _ => 0, 1)
  | k + 1 => b_it nx (b_st nx P0 k) k ((b_st nx P0 k).1 k) 3
/-- what holds of a queue -/
def b_Iv (V : Nat → Prop) (S : bS) : Prop := 1 ≤ S.2.2 ∧ (∀ j, j < S.2.2 → V (S.1 j)) ∧ (∀ j j', j < S.2.2 → j' < S.2.2 → S.1 j = S.1 j' → j = j') ∧ (∀ j, 1 ≤ j → j < S.2.2 → S.2.1 j / 3 < j)
theorem b_Iv_add {V : Nat → Prop} {S : bS} {P k l : Nat} (h : b_Iv V S) (hP : V P) (hk : k < S.2.2) (hl : l < 3) : b_Iv V (b_add S P (3 * k + l)) := by
  unfold b_add
  by_cases c : b_mem S.1 P S.2.2 = true
  · rw [if_pos c]; exact h
  · rw [if_neg c]
    have hno : ∀ j, j < S.2.2 → S.1 j ≠ P := fun j hj e => c ((b_mem_iff _).mpr ⟨j, hj, e⟩)
    obtain ⟨h1, h2, h3, h4⟩ := h
    refine ⟨by show 1 ≤ S.2.2 + 1; omega, fun j hj => ?_, fun j j' hj hj' he => ?_, fun j hj1 hj => ?_⟩
    · have hj : j < S.2.2 + 1 := hj
      show V (va_up S.1 S.2.2 P j)
      by_cases c2 : j = S.2.2
      · rw [c2, va_up_self]; exact hP
      · rw [va_up_ne _ _ c2]; exact h2 j (by omega)
    · have hj : j < S.2.2 + 1 := hj
      have hj' : j' < S.2.2 + 1 := hj'
      have he : va_up S.1 S.2.2 P j = va_up S.1 S.2.2 P j' := he
      by_cases c2 : j = S.2.2
      · by_cases c3 : j' = S.2.2
        · omega
        · rw [c2, va_up_self, va_up_ne _ _ c3] at he
          exact absurd he.symm (hno j' (by omega))
      · by_cases c3 : j' = S.2.2
        · rw [c3, va_up_self, va_up_ne _ _ c2] at he
          exact absurd he (hno j (by omega))
        · rw [va_up_ne _ _ c2, va_up_ne _ _ c3] at he
          exact h3 j j' (by omega) (by omega) he
    · have hj : j < S.2.2 + 1 := hj
      show va_up S.2.1 S.2.2 (3 * k + l) j / 3 < j
      by_cases c2 : j = S.2.2
      · rw [c2, va_up_self]; omega
      · rw [va_up_ne _ _ c2]; exact h4 j hj1 (by omega)
theorem b_add_le (S : bS) (P e : Nat) : S.2.2 ≤ (b_add S P e).2.2 := by
  unfold b_add
  split
  · exact Nat.le_refl _
  · exact Nat.le_succ _
theorem b_add_q {S : bS} {P e j : Nat} (hj : j < S.2.2) : (b_add S P e).1 j = S.1 j ∧ (b_add S P e).2.1 j = S.2.1 j := by
  unfold b_add
  split
  · exact ⟨rfl, rfl⟩
  · exact ⟨va_up_ne _ _ (by omega), va_up_ne _ _ (by omega)⟩
theorem b_Iv_it {V : Nat → Prop} {nx : Nat → Nat → Nat} {S : bS} {k P : Nat} (h : b_Iv V S) (hk : k < S.2.2) (hn : ∀ l, l < 3 → V (nx P l)) : ∀ l, l ≤ 3 → b_Iv V (b_it nx S k P l) ∧ S.2.2 ≤ (b_it nx S k P l).2.2
  | 0, _ => ⟨h, Nat.le_refl _⟩
  | l + 1, hl => by
    obtain ⟨h1, h2⟩ := b_Iv_it h hk hn l (by omega)
    exact ⟨b_Iv_add h1 (hn l (by omega)) (by omega) (by omega), Nat.le_trans h2 (b_add_le _ _ _)⟩
theorem b_Iv_st {V : Nat → Prop} {nx : Nat → Nat → Nat} {P0 : Nat} (h0 : V P0) (hn : ∀ P l, V P → l < 3 → V (nx P l)) : ∀ k, (∀ j, j < k → j < (b_st nx P0 j).2.2) → b_Iv V (b_st nx P0 k)
  | 0, _ => ⟨Nat.le_refl _, fun _ _ => h0, fun j j' h1 h2 _ => by
      have h1 : j < 1 := h1
      have h2 : j' < 1 := h2
      omega, fun j h1 h2 => by
      have h2 : j < 1 := h2
      omega⟩
  | k + 1, h => by
    have ih := b_Iv_st h0 hn k (fun j hj => h j (by omega))
    have hk := h k (by omega)
    exact (b_Iv_it ih hk (fun l hl => hn _ l (ih.2.1 k hk) hl) 3 (Nat.le_refl _)).1
/-- as many as there are valid pairs at most -/
theorem b_pig : ∀ (m n : Nat) (f : Nat → Nat), (∀ j, j < n → f j < m) → (∀ j j', j < n → j' < n → f j = f j' → j = j') → n ≤ m
  | 0, n, f, h1, _ => by
    cases n with
    | zero => exact Nat.le_refl _
    | succ n => exact absurd (h1 0 (by omega)) (by omega)
  | m + 1, n, f, h1, h2 => by
    cases n with
    | zero => exact Nat.zero_le _
    | succ n =>
      have key := b_pig m n (fun j => if f j = m then f n else f j) (fun j hj => ?_) (fun j j' hj hj' he => ?_)
      · omega
      · have a1 := h1 j (by omega)
        have a2 := h1 n (by omega)
        have a3 := h2 j n (by omega) (by omega)
        split
        · next c =>
          have : f n ≠ m := fun e => by
            have := a3 (c.trans e.symm)
            omega
          omega
        · next c => omega
      · have b1 := h2 j j' (by omega) (by omega)
        have b2 := h2 j n (by omega) (by omega)
        have b3 := h2 j' n (by omega) (by omega)
        split at he <;> split at he
        · next c1 c2 => exact b1 (c1.trans c2.symm)
        · next c1 c2 =>
          have := b3 he.symm
          omega
        · next c1 c2 =>
          have := b2 he
          omega
        · exact b1 he
/-- what the search comes to -/
def b_res (nx : Nat → Nat → Nat) (P0 : Nat) (C : Nat → Prop) : Option Nat → Prop
  | some k => (∀ j, j ≤ k → j < (b_st nx P0 j).2.2) ∧ C ((b_st nx P0 k).1 k) ∧ ∀ j, j < k → ¬ C ((b_st nx P0 j).1 j)
  | none => ∃ k, (∀ j, j < k → j < (b_st nx P0 j).2.2) ∧ (b_st nx P0 k).2.2 ≤ k ∧ ∀ j, j < k → ¬ C ((b_st nx P0 j).1 j)
theorem b_res_inj {nx : Nat → Nat → Nat} {P0 : Nat} {C : Nat → Prop} : ∀ {o o' : Option Nat}, b_res nx P0 C o → b_res nx P0 C o' → o = o'
  | none, none, _, _ => rfl
  | none, some k, ⟨k', h1, h2, h3⟩, ⟨g1, g2, g3⟩ => by
    by_cases c : k < k'
    · exact absurd g2 (h3 k c)
    · have := g1 k' (by omega)
      omega
  | some k, none, ⟨g1, g2, g3⟩, ⟨k', h1, h2, h3⟩ => by
    by_cases c : k < k'
    · exact absurd g2 (h3 k c)
    · have := g1 k' (by omega)
      omega
  | some k, some k', ⟨h1, h2, h3⟩, ⟨g1, g2, g3⟩ => by
    rcases Nat.lt_trichotomy k k' with c | c | c
    · exact absurd h2 (g3 k c)
    · rw [c]
    · exact absurd g2 (h3 k' c)
/-- one letter more; none: too long -/
def b_lg : Option Nat → Nat → Option Nat
  | none, _ => none
  | some r, l => if 531441 ≤ r then none else some (r * 3 + l)
/-- R tells the row of each that is reached -/
def b_rec (S : bS) (R : Nat → Option Nat) : Prop := R 0 = some 1 ∧ ∀ j, 1 ≤ j → j < S.2.2 → R j = b_lg (R (S.2.1 j / 3)) (S.2.1 j % 3)
def b_rI : Option Nat → Int32
  | none => -3
  | some r => nI r
/-- how many letters -/
def b_dp (fr : Nat → Nat) : Nat → Nat → Nat
  | 0, _ => 0
  | f + 1, j => if j = 0 then 0 else 1 + b_dp fr f (fr j / 3)
theorem b_dp_f {fr : Nat → Nat} {n : Nat} (hf : ∀ j, 1 ≤ j → j < n → fr j / 3 < j) : ∀ (f f' j : Nat), j ≤ f → j ≤ f' → j < n → b_dp fr f j = b_dp fr f' j
  | 0, f', j, h1, h2, h3 => by
    have e : j = 0 := by omega
    subst e
    cases f' with
    | zero => rfl
    | succ f' => rfl
  | f + 1, f', j, h1, h2, h3 => by
    by_cases c : j = 0
    · subst c
      cases f' with
      | zero => rfl
      | succ f' => rfl
    · obtain ⟨f'', rfl⟩ : ∃ f'', f' = f'' + 1 := ⟨f' - 1, by omega⟩
      have := hf j (by omega) h3
      show (if j = 0 then 0 else 1 + b_dp fr f (fr j / 3)) = (if j = 0 then 0 else 1 + b_dp fr f'' (fr j / 3))
      rw [if_neg c, if_neg c, b_dp_f hf f f'' (fr j / 3) (by omega) (by omega) (by omega)]
theorem b_dp_s {fr : Nat → Nat} {n j : Nat} (hf : ∀ j, 1 ≤ j → j < n → fr j / 3 < j) (h1 : 1 ≤ j) (h2 : j < n) : b_dp fr j j = 1 + b_dp fr (fr j / 3) (fr j / 3) := by
  obtain ⟨f, rfl⟩ : ∃ f, j = f + 1 := ⟨j - 1, by omega⟩
  have := hf (f + 1) (by omega) h2
  show (if f + 1 = 0 then 0 else 1 + b_dp fr f (fr (f + 1) / 3)) = _
  rw [if_neg (by omega), b_dp_f hf f (fr (f + 1) / 3) _ (by omega) (Nat.le_refl _) (by omega)]
/-- the row's number by its letters -/
theorem b_rec_dp {S : bS} {R : Nat → Option Nat} (hR : b_rec S R) (hf : ∀ j, 1 ≤ j → j < S.2.2 → S.2.1 j / 3 < j) : ∀ (m j : Nat), j ≤ m → j < S.2.2 → (∀ r, R j = some r → 3 ^ b_dp S.2.1 j j ≤ r ∧ r < 2 * 3 ^ b_dp S.2.1 j j ∧ b_dp S.2.1 j j ≤ 12) ∧ (R j = none → 12 < b_dp S.2.1 j j)
  | m, 0, _, _ => by
    rw [hR.1]
    refine ⟨fun r h => ?_, fun h => by cases h⟩
    cases h
    show (3 : Nat) ^ 0 ≤ 1 ∧ 1 < 2 * 3 ^ 0 ∧ 0 ≤ 12
    decide
  | 0, j + 1, h, _ => absurd h (by omega)
  | m + 1, j + 1, hm, hj => by
    have hlt := hf (j + 1) (by omega) hj
    obtain ⟨i1, i2⟩ := b_rec_dp hR hf m (S.2.1 (j + 1) / 3) (by omega) (by omega)
    rw [hR.2 (j + 1) (by omega) hj, b_dp_s hf (by omega) hj]
    have hm3 : S.2.1 (j + 1) % 3 < 3 := Nat.mod_lt _ (by decide)
    cases hp : R (S.2.1 (j + 1) / 3) with
    | none =>
      refine ⟨fun r h => (by cases h), fun _ => ?_⟩
      have := i2 hp
      omega
    | some r0 =>
      obtain ⟨a1, a2, a3⟩ := i1 r0 hp
      generalize b_dp S.2.1 (S.2.1 (j + 1) / 3) (S.2.1 (j + 1) / 3) = D at *
      have hps : 3 ^ (1 + D) = 3 ^ D * 3 := by rw [Nat.add_comm, Nat.pow_succ]
      show (∀ r, (if 531441 ≤ r0 then none else some (r0 * 3 + S.2.1 (j + 1) % 3)) = some r → _) ∧ ((if 531441 ≤ r0 then none else some (r0 * 3 + S.2.1 (j + 1) % 3)) = none → _)
      by_cases c : 531441 ≤ r0
      · rw [if_pos c]
        refine ⟨fun r h => (by cases h), fun _ => ?_⟩
        by_cases c2 : D ≤ 11
        · have : 3 ^ D ≤ 3 ^ 11 := Nat.pow_le_pow_right (by decide) c2
          have e : 3 ^ 11 = 177147 := by decide
          omega
        · omega
      · rw [if_neg c]
        refine ⟨fun r h => ?_, fun h => by cases h⟩
        have h : r0 * 3 + S.2.1 (j + 1) % 3 = r := Option.some.inj h
        refine ⟨by omega, by omega, ?_⟩
        by_cases c2 : D = 12
        · subst c2
          have e : 3 ^ 12 = 531441 := by decide
          omega
        · omega
