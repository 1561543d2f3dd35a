/-! a pattern as an automaton of its leaves -/
def g_n : qT → Nat
  | .num _ => 1
  | .var _ => 1
  | .add x y => g_n x + g_n y
  | .sub x y => g_n x + g_n y
  | .neg x => g_n x
  | .mulL _ x => g_n x
  | .mulR x _ => g_n x
def g_e : qT → Bool
  | .num _ => false
  | .var _ => false
  | .add x y => g_e x && g_e y
  | .sub x y => g_e x || g_e y
  | .neg x => g_e x
  | .mulL _ _ => true
  | .mulR _ _ => true
def g_f : qT → Nat → Nat
  | .num _, a => 2 ^ a
  | .var _, a => 2 ^ a
  | .add x y, a => g_f x a ||| (if g_e x = true then g_f y (a + g_n x) else 0)
  | .sub x y, a => g_f x a ||| g_f y (a + g_n x)
  | .neg x, a => g_f x a
  | .mulL _ x, a => g_f x a
  | .mulR x _, a => g_f x a
def g_l : qT → Nat → Nat
  | .num _, a => 2 ^ a
  | .var _, a => 2 ^ a
  | .add x y, a => g_l y (a + g_n x) ||| (if g_e y = true then g_l x a else 0)
  | .sub x y, a => g_l x a ||| g_l y (a + g_n x)
  | .neg x, a => g_l x a
  | .mulL _ x, a => g_l x a
  | .mulR x _, a => g_l x a
def g_w : qT → Nat → Nat → Nat
  | .num _, _, _ => 0
  | .var _, _, _ => 0
  | .add x y, a, i => (g_w x a i ||| g_w y (a + g_n x) i) ||| (if (g_l x a).testBit i = true then g_f y (a + g_n x) else 0)
  | .sub x y, a, i => g_w x a i ||| g_w y (a + g_n x) i
  | .neg x, a, i => g_w x a i ||| (if (g_l x a).testBit i = true then g_f x a else 0)
  | .mulL _ x, a, i => g_w x a i
  | .mulR x _, a, i => g_w x a i
/-- the letters that its leaves take -/
def g_ok (acc : Nat → Nat) : qT → Nat → Prop
  | .num v, a => acc a = 2 ^ v.toNat
  | .var s, a => acc a = s
  | .add x y, a => g_ok acc x a ∧ g_ok acc y (a + g_n x)
  | .sub x y, a => g_ok acc x a ∧ g_ok acc y (a + g_n x)
  | .neg x, a => g_ok acc x a
  | .mulL _ x, a => g_ok acc x a
  | .mulR x _, a => g_ok acc x a
/-- behind leaf i, the part from b to e ends it -/
def g_k (w : Nat → Nat) (n : Nat) : qT → Nat → Nat → Nat → Nat → Prop
  | .num _, a, i, b, e => i = a ∧ b = e ∧ b ≤ n
  | .var _, a, i, b, e => i = a ∧ b = e ∧ b ≤ n
  | .add x y, a, i, b, e => (∃ m, g_k w n x a i b m ∧ t_Sp w n y m e) ∨ g_k w n y (a + g_n x) i b e
  | .sub x y, a, i, b, e => g_k w n x a i b e ∨ g_k w n y (a + g_n x) i b e
  | .neg x, a, i, b, e => ∃ m, g_k w n x a i b m ∧ (m = e ∨ ∃ k, t_it (t_Sp w n x) (k + 1) m e)
  | .mulL _ x, a, i, b, e => g_k w n x a i b e
  | .mulR x _, a, i, b, e => g_k w n x a i b e
theorem g_ite {c : Prop} [Decidable c] {m i : Nat} : (if c then m else 0).testBit i = true ↔ c ∧ m.testBit i = true := by
  split
  · next h => exact ⟨fun g => ⟨h, g⟩, fun g => g.2⟩
  · next h => rw [Nat.zero_testBit]; exact ⟨fun g => absurd g (by decide), fun g => absurd g.1 h⟩
theorem g_or {a b i : Nat} : (a ||| b).testBit i = true ↔ a.testBit i = true ∨ b.testBit i = true := by
  rw [Nat.testBit_or, Bool.or_eq_true]
theorem g_p2 {a i : Nat} : (2 ^ a).testBit i = true ↔ i = a := by
  rw [Nat.testBit_two_pow, decide_eq_true_iff]
  exact ⟨fun h => h.symm, fun h => h.symm⟩
theorem g_k_le {w : Nat → Nat} {n : Nat} : ∀ (t : qT) (a i b e : Nat), g_k w n t a i b e → b ≤ e ∧ b ≤ n
  | .num _, _, _, _, _, h => ⟨Nat.le_of_eq h.2.1, h.2.2⟩
  | .var _, _, _, _, _, h => ⟨Nat.le_of_eq h.2.1, h.2.2⟩
  | .add x y, a, i, b, e, h => by
    rcases h with ⟨m, h1, h2⟩ | h
    · have g1 := g_k_le x a i b m h1
      have g2 := t_Sp_le y m e h2
      omega
    · exact g_k_le y _ i b e h
  | .sub x y, a, i, b, e, h => by
    rcases h with h | h
    · exact g_k_le x a i b e h
    · exact g_k_le y _ i b e h
  | .neg x, a, i, b, e, h => by
    obtain ⟨m, h1, h2⟩ := h
    have g1 := g_k_le x a i b m h1
    rcases h2 with h2 | ⟨k, h2⟩
    · omega
    · have g2 := t_it_le (t_Sp_le (w := w) (n := n) x) k m e h2
      omega
  | .mulL _ x, a, i, b, e, h => g_k_le x a i b e h
  | .mulR x _, a, i, b, e, h => g_k_le x a i b e h
/-- of turns that read nothing none is needed -/
theorem t_it_ne {R : Nat → Nat → Prop} (hle : ∀ b e, R b e → b ≤ e) : ∀ (k b e : Nat), t_it R k b e → b = e ∨ ∃ m, b < m ∧ R b m ∧ ∃ k', t_it R k' m e
  | 0, _, _, h => Or.inl h
  | k + 1, b, e, ⟨m, h1, h2⟩ => by
    by_cases c : b = m
    · subst c
      exact t_it_ne hle k b e h2
    · have := hle b m h1
      exact Or.inr ⟨m, by omega, h1, k, h2⟩
theorem g_f_rng : ∀ (t : qT) (a i : Nat), (g_f t a).testBit i = true → a ≤ i ∧ i < a + g_n t
  | .num _, a, i, h => by
    have := g_p2.mp h
    show a ≤ i ∧ i < a + 1
    omega
  | .var _, a, i, h => by
    have := g_p2.mp h
    show a ≤ i ∧ i < a + 1
    omega
  | .add x y, a, i, h => by
    show a ≤ i ∧ i < a + (g_n x + g_n y)
    rcases g_or.mp h with h | h
    · have := g_f_rng x a i h
      omega
    · have := g_f_rng y _ i (g_ite.mp h).2
      omega
  | .sub x y, a, i, h => by
    show a ≤ i ∧ i < a + (g_n x + g_n y)
    rcases g_or.mp h with h | h
    · have := g_f_rng x a i h
      omega
    · have := g_f_rng y _ i h
      omega
  | .neg x, a, i, h => g_f_rng x a i h
  | .mulL _ x, a, i, h => g_f_rng x a i h
  | .mulR x _, a, i, h => g_f_rng x a i h
theorem g_l_rng : ∀ (t : qT) (a i : Nat), (g_l t a).testBit i = true → a ≤ i ∧ i < a + g_n t
  | .num _, a, i, h => by
    have := g_p2.mp h
    show a ≤ i ∧ i < a + 1
    omega
  | .var _, a, i, h => by
    have := g_p2.mp h
    show a ≤ i ∧ i < a + 1
    omega
  | .add x y, a, i, h => by
    show a ≤ i ∧ i < a + (g_n x + g_n y)
    rcases g_or.mp h with h | h
    · have := g_l_rng y _ i h
      omega
    · have := g_l_rng x a i (g_ite.mp h).2
      omega
  | .sub x y, a, i, h => by
    show a ≤ i ∧ i < a + (g_n x + g_n y)
    rcases g_or.mp h with h | h
    · have := g_l_rng x a i h
      omega
    · have := g_l_rng y _ i h
      omega
  | .neg x, a, i, h => g_l_rng x a i h
  | .mulL _ x, a, i, h => g_l_rng x a i h
  | .mulR x _, a, i, h => g_l_rng x a i h
theorem g_w_rng : ∀ (t : qT) (a i j : Nat), (g_w t a i).testBit j = true → (a ≤ i ∧ i < a + g_n t) ∧ (a ≤ j ∧ j < a + g_n t)
  | .num _, a, i, j, h => by
    have h : (0 : Nat).testBit j = true := h
    rw [Nat.zero_testBit] at h
    exact absurd h (by decide)
  | .var _, a, i, j, h => by
    have h : (0 : Nat).testBit j = true := h
    rw [Nat.zero_testBit] at h
    exact absurd h (by decide)
  | .add x y, a, i, j, h => by
    show (a ≤ i ∧ i < a + (g_n x + g_n y)) ∧ (a ≤ j ∧ j < a + (g_n x + g_n y))
    rcases g_or.mp h with h | h
    · rcases g_or.mp h with h | h
      · have := g_w_rng x a i j h
        omega
      · have := g_w_rng y _ i j h
        omega
    · obtain ⟨h1, h2⟩ := g_ite.mp h
      have := g_l_rng x a i h1
      have := g_f_rng y _ j h2
      omega
  | .sub x y, a, i, j, h => by
    show (a ≤ i ∧ i < a + (g_n x + g_n y)) ∧ (a ≤ j ∧ j < a + (g_n x + g_n y))
    rcases g_or.mp h with h | h
    · have := g_w_rng x a i j h
      omega
    · have := g_w_rng y _ i j h
      omega
  | .neg x, a, i, j, h => by
    rcases g_or.mp h with h | h
    · exact g_w_rng x a i j h
    · obtain ⟨h1, h2⟩ := g_ite.mp h
      exact ⟨g_l_rng x a i h1, g_f_rng x a j h2⟩
  | .mulL _ x, a, i, j, h => g_w_rng x a i j h
  | .mulR x _, a, i, j, h => g_w_rng x a i j h
theorem g_k_rng {w : Nat → Nat} {n : Nat} : ∀ (t : qT) (a i b e : Nat), g_k w n t a i b e → a ≤ i ∧ i < a + g_n t
  | .num _, a, i, _, _, h => by
    have := h.1
    show a ≤ i ∧ i < a + 1
    omega
  | .var _, a, i, _, _, h => by
    have := h.1
    show a ≤ i ∧ i < a + 1
    omega
  | .add x y, a, i, b, e, h => by
    show a ≤ i ∧ i < a + (g_n x + g_n y)
    rcases h with ⟨m, h1, h2⟩ | h
    · have := g_k_rng x a i b m h1
      omega
    · have := g_k_rng y _ i b e h
      omega
  | .sub x y, a, i, b, e, h => by
    show a ≤ i ∧ i < a + (g_n x + g_n y)
    rcases h with h | h
    · have := g_k_rng x a i b e h
      omega
    · have := g_k_rng y _ i b e h
      omega
  | .neg x, a, i, b, e, h => by
    obtain ⟨m, h1, h2⟩ := h
    exact g_k_rng x a i b m h1
  | .mulL _ x, a, i, b, e, h => g_k_rng x a i b e h
  | .mulR x _, a, i, b, e, h => g_k_rng x a i b e h
theorem g_fst {w acc : Nat → Nat} {n : Nat} : ∀ (t : qT) (a : Nat), g_ok acc t a → ∀ b e, t_Sp w n t b e ↔ (b = e ∧ b ≤ n ∧ g_e t = true) ∨ ∃ i, (g_f t a).testBit i = true ∧ b < n ∧ (acc i).testBit (w b) = true ∧ g_k w n t a i (b + 1) e
  | .num v, a, h, b, e => by
    have h : acc a = 2 ^ v.toNat := h
    constructor
    · rintro ⟨h1, h2, h3⟩
      exact Or.inr ⟨a, g_p2.mpr rfl, h1, by rw [h, h3]; exact g_p2.mpr rfl, rfl, h2.symm, by omega⟩
    · rintro (⟨-, -, g⟩ | ⟨i, -, h1, h2, h3, h4, h5⟩)
      · exact absurd (show false = true from g) (by decide)
      · subst h3
        rw [h] at h2
        exact ⟨h1, h4.symm, g_p2.mp h2⟩
  | .var s, a, h, b, e => by
    have h : acc a = s := h
    constructor
    · rintro ⟨h1, h2, h3⟩
      exact Or.inr ⟨a, g_p2.mpr rfl, h1, by rw [h]; exact h3, rfl, h2.symm, by omega⟩
    · rintro (⟨-, -, g⟩ | ⟨i, -, h1, h2, h3, h4, h5⟩)
      · exact absurd (show false = true from g) (by decide)
      · subst h3
        rw [h] at h2
        exact ⟨h1, h4.symm, h2⟩
  | .add x y, a, h, b, e => by
    have ihx := g_fst (w := w) (n := n) x a h.1
    have ihy := g_fst (w := w) (n := n) y (a + g_n x) h.2
    constructor
    · rintro ⟨m, h1, h2⟩
      rcases (ihx b m).mp h1 with ⟨rfl, hb, he⟩ | ⟨i, g1, g2, g3, g4⟩
      · rcases (ihy b e).mp h2 with ⟨h3, -, h5⟩ | ⟨i, g1, g2, g3, g4⟩
        · exact Or.inl ⟨h3, hb, by show (g_e x && g_e y) = true; rw [he, h5]; rfl⟩
        · exact Or.inr ⟨i, g_or.mpr (Or.inr (g_ite.mpr ⟨he, g1⟩)), g2, g3, Or.inr g4⟩
      · exact Or.inr ⟨i, g_or.mpr (Or.inl g1), g2, g3, Or.inl ⟨m, g4, h2⟩⟩
    · rintro (⟨h1, h2, h3⟩ | ⟨i, g1, g2, g3, g4⟩)
      · have h3 : (g_e x && g_e y) = true := h3
        rw [Bool.and_eq_true] at h3
        subst h1
        exact ⟨b, (ihx b b).mpr (Or.inl ⟨rfl, h2, h3.1⟩), (ihy b b).mpr (Or.inl ⟨rfl, h2, h3.2⟩)⟩
      · rcases g_or.mp g1 with g1 | g1
        · rcases g4 with ⟨m, g4, g5⟩ | g4
          · exact ⟨m, (ihx b m).mpr (Or.inr ⟨i, g1, g2, g3, g4⟩), g5⟩
          · have r1 := g_f_rng x a i g1
            have r2 := g_k_rng y _ i _ _ g4
            omega
        · obtain ⟨g0, g1⟩ := g_ite.mp g1
          rcases g4 with ⟨m, g4, g5⟩ | g4
          · have r1 := g_f_rng y _ i g1
            have r2 := g_k_rng x a i _ _ g4
            omega
          · exact ⟨b, (ihx b b).mpr (Or.inl ⟨rfl, by omega, g0⟩), (ihy b e).mpr (Or.inr ⟨i, g1, g2, g3, g4⟩)⟩
  | .sub x y, a, h, b, e => by
    have ihx := g_fst (w := w) (n := n) x a h.1
    have ihy := g_fst (w := w) (n := n) y (a + g_n x) h.2
    constructor
    · rintro (h1 | h1)
      · rcases (ihx b e).mp h1 with ⟨h2, h3, h4⟩ | ⟨i, g1, g2, g3, g4⟩
        · exact Or.inl ⟨h2, h3, by show (g_e x || g_e y) = true; rw [h4]; rfl⟩
        · exact Or.inr ⟨i, g_or.mpr (Or.inl g1), g2, g3, Or.inl g4⟩
      · rcases (ihy b e).mp h1 with ⟨h2, h3, h4⟩ | ⟨i, g1, g2, g3, g4⟩
        · exact Or.inl ⟨h2, h3, by show (g_e x || g_e y) = true; rw [h4, Bool.or_true]⟩
        · exact Or.inr ⟨i, g_or.mpr (Or.inr g1), g2, g3, Or.inr g4⟩
    · rintro (⟨h1, h2, h3⟩ | ⟨i, g1, g2, g3, g4⟩)
      · have h3 : (g_e x || g_e y) = true := h3
        rw [Bool.or_eq_true] at h3
        rcases h3 with h3 | h3
        · exact Or.inl ((ihx b e).mpr (Or.inl ⟨h1, h2, h3⟩))
        · exact Or.inr ((ihy b e).mpr (Or.inl ⟨h1, h2, h3⟩))
      · rcases g_or.mp g1 with g1 | g1
        · rcases g4 with g4 | g4
          · exact Or.inl ((ihx b e).mpr (Or.inr ⟨i, g1, g2, g3, g4⟩))
          · have r1 := g_f_rng x a i g1
            have r2 := g_k_rng y _ i _ _ g4
            omega
        · rcases g4 with g4 | g4
          · have r1 := g_f_rng y _ i g1
            have r2 := g_k_rng x a i _ _ g4
            omega
          · exact Or.inr ((ihy b e).mpr (Or.inr ⟨i, g1, g2, g3, g4⟩))
  | .neg x, a, h, b, e => by
    have ihx := g_fst (w := w) (n := n) x a h
    have hle := t_Sp_le (w := w) (n := n) x
    constructor
    · rintro ⟨k, m, h1, h2⟩
      rcases (ihx b m).mp h1 with ⟨rfl, hb, he⟩ | ⟨i, g1, g2, g3, g4⟩
      · rcases t_it_ne (fun b e h => (hle b e h).1) k b e h2 with h3 | ⟨m, h3, h4, k', h5⟩
        · exact Or.inl ⟨h3, hb, he⟩
        · rcases (ihx b m).mp h4 with ⟨h6, -, -⟩ | ⟨i, g1, g2, g3, g4⟩
          · omega
          · refine Or.inr ⟨i, g1, g2, g3, m, g4, ?_⟩
            cases k' with
            | zero => exact Or.inl h5
            | succ k' => exact Or.inr ⟨k', h5⟩
      · refine Or.inr ⟨i, g1, g2, g3, m, g4, ?_⟩
        cases k with
        | zero => exact Or.inl h2
        | succ k => exact Or.inr ⟨k, h2⟩
    · rintro (⟨h1, h2, h3⟩ | ⟨i, g1, g2, g3, m, g4, g5⟩)
      · exact ⟨0, e, (ihx b e).mpr (Or.inl ⟨h1, h2, h3⟩), rfl⟩
      · have h1 := (ihx b m).mpr (Or.inr ⟨i, g1, g2, g3, g4⟩)
        rcases g5 with g5 | ⟨k, g5⟩
        · subst g5
          exact ⟨0, m, h1, rfl⟩
        · exact ⟨k + 1, m, h1, g5⟩
  | .mulL c x, a, h, b, e => by
    have ihx := g_fst (w := w) (n := n) x a h
    constructor
    · rintro (h1 | ⟨h1, h2⟩)
      · rcases (ihx b e).mp h1 with ⟨h2, h3, -⟩ | h2
        · exact Or.inl ⟨h2, h3, rfl⟩
        · exact Or.inr h2
      · exact Or.inl ⟨h1, h2, rfl⟩
    · rintro (⟨h1, h2, -⟩ | h1)
      · exact Or.inr ⟨h1, h2⟩
      · exact Or.inl ((ihx b e).mpr (Or.inr h1))
  | .mulR x c, a, h, b, e => by
    have ihx := g_fst (w := w) (n := n) x a h
    constructor
    · rintro (h1 | ⟨h1, h2⟩)
      · rcases (ihx b e).mp h1 with ⟨h2, h3, -⟩ | h2
        · exact Or.inl ⟨h2, h3, rfl⟩
        · exact Or.inr h2
      · exact Or.inl ⟨h1, h2, rfl⟩
    · rintro (⟨h1, h2, -⟩ | h1)
      · exact Or.inr ⟨h1, h2⟩
      · exact Or.inl ((ihx b e).mpr (Or.inr h1))
theorem g_nxt {w acc : Nat → Nat} {n : Nat} : ∀ (t : qT) (a : Nat), g_ok acc t a → ∀ i b e, g_k w n t a i b e ↔ (b = e ∧ b ≤ n ∧ (g_l t a).testBit i = true) ∨ ∃ j, (g_w t a i).testBit j = true ∧ b < n ∧ (acc j).testBit (w b) = true ∧ g_k w n t a j (b + 1) e
  | .num v, a, h, i, b, e => by
    constructor
    · rintro ⟨h1, h2, h3⟩
      exact Or.inl ⟨h2, h3, g_p2.mpr h1⟩
    · rintro (⟨h1, h2, h3⟩ | ⟨j, h1, -⟩)
      · exact ⟨g_p2.mp h3, h1, h2⟩
      · have h1 : (0 : Nat).testBit j = true := h1
        rw [Nat.zero_testBit] at h1
        exact absurd h1 (by decide)
  | .var s, a, h, i, b, e => by
    constructor
    · rintro ⟨h1, h2, h3⟩
      exact Or.inl ⟨h2, h3, g_p2.mpr h1⟩
    · rintro (⟨h1, h2, h3⟩ | ⟨j, h1, -⟩)
      · exact ⟨g_p2.mp h3, h1, h2⟩
      · have h1 : (0 : Nat).testBit j = true := h1
        rw [Nat.zero_testBit] at h1
        exact absurd h1 (by decide)
  | .add x y, a, h, i, b, e => by
    have ihx := g_nxt (w := w) (n := n) x a h.1
    have ihy := g_nxt (w := w) (n := n) y (a + g_n x) h.2
    have fy := g_fst (w := w) (n := n) y (a + g_n x) h.2
    constructor
    · rintro (⟨m, h1, h2⟩ | h1)
      · rcases (ihx i b m).mp h1 with ⟨rfl, hb, hl⟩ | ⟨j, g1, g2, g3, g4⟩
        · rcases (fy b e).mp h2 with ⟨h3, -, h5⟩ | ⟨j, g1, g2, g3, g4⟩
          · exact Or.inl ⟨h3, hb, g_or.mpr (Or.inr (g_ite.mpr ⟨h5, hl⟩))⟩
          · exact Or.inr ⟨j, g_or.mpr (Or.inr (g_ite.mpr ⟨hl, g1⟩)), g2, g3, Or.inr g4⟩
        · exact Or.inr ⟨j, g_or.mpr (Or.inl (g_or.mpr (Or.inl g1))), g2, g3, Or.inl ⟨m, g4, h2⟩⟩
      · rcases (ihy i b e).mp h1 with ⟨h2, h3, h4⟩ | ⟨j, g1, g2, g3, g4⟩
        · exact Or.inl ⟨h2, h3, g_or.mpr (Or.inl h4)⟩
        · exact Or.inr ⟨j, g_or.mpr (Or.inl (g_or.mpr (Or.inr g1))), g2, g3, Or.inr g4⟩
    · rintro (⟨h1, h2, h3⟩ | ⟨j, g1, g2, g3, g4⟩)
      · rcases g_or.mp h3 with h3 | h3
        · exact Or.inr ((ihy i b e).mpr (Or.inl ⟨h1, h2, h3⟩))
        · obtain ⟨h4, h5⟩ := g_ite.mp h3
          subst h1
          exact Or.inl ⟨b, (ihx i b b).mpr (Or.inl ⟨rfl, h2, h5⟩), (fy b b).mpr (Or.inl ⟨rfl, h2, h4⟩)⟩
      · rcases g_or.mp g1 with g1 | g1
        · rcases g_or.mp g1 with g1 | g1
          · have r1 := g_w_rng x a i j g1
            rcases g4 with ⟨m, g4, g5⟩ | g4
            · exact Or.inl ⟨m, (ihx i b m).mpr (Or.inr ⟨j, g1, g2, g3, g4⟩), g5⟩
            · have r2 := g_k_rng y _ j _ _ g4
              omega
          · have r1 := g_w_rng y _ i j g1
            rcases g4 with ⟨m, g4, g5⟩ | g4
            · have r2 := g_k_rng x a j _ _ g4
              omega
            · exact Or.inr ((ihy i b e).mpr (Or.inr ⟨j, g1, g2, g3, g4⟩))
        · obtain ⟨h1, h2⟩ := g_ite.mp g1
          have r1 := g_f_rng y _ j h2
          rcases g4 with ⟨m, g4, g5⟩ | g4
          · have r2 := g_k_rng x a j _ _ g4
            omega
          · exact Or.inl ⟨b, (ihx i b b).mpr (Or.inl ⟨rfl, by omega, h1⟩), (fy b e).mpr (Or.inr ⟨j, h2, g2, g3, g4⟩)⟩
  | .sub x y, a, h, i, b, e => by
    have ihx := g_nxt (w := w) (n := n) x a h.1
    have ihy := g_nxt (w := w) (n := n) y (a + g_n x) h.2
    constructor
    · rintro (h1 | h1)
      · rcases (ihx i b e).mp h1 with ⟨h2, h3, h4⟩ | ⟨j, g1, g2, g3, g4⟩
        · exact Or.inl ⟨h2, h3, g_or.mpr (Or.inl h4)⟩
        · exact Or.inr ⟨j, g_or.mpr (Or.inl g1), g2, g3, Or.inl g4⟩
      · rcases (ihy i b e).mp h1 with ⟨h2, h3, h4⟩ | ⟨j, g1, g2, g3, g4⟩
        · exact Or.inl ⟨h2, h3, g_or.mpr (Or.inr h4)⟩
        · exact Or.inr ⟨j, g_or.mpr (Or.inr g1), g2, g3, Or.inr g4⟩
    · rintro (⟨h1, h2, h3⟩ | ⟨j, g1, g2, g3, g4⟩)
      · rcases g_or.mp h3 with h3 | h3
        · exact Or.inl ((ihx i b e).mpr (Or.inl ⟨h1, h2, h3⟩))
        · exact Or.inr ((ihy i b e).mpr (Or.inl ⟨h1, h2, h3⟩))
      · rcases g_or.mp g1 with g1 | g1
        · have r1 := g_w_rng x a i j g1
          rcases g4 with g4 | g4
          · exact Or.inl ((ihx i b e).mpr (Or.inr ⟨j, g1, g2, g3, g4⟩))
          · have r2 := g_k_rng y _ j _ _ g4
            omega
        · have r1 := g_w_rng y _ i j g1
          rcases g4 with g4 | g4
          · have r2 := g_k_rng x a j _ _ g4
            omega
          · exact Or.inr ((ihy i b e).mpr (Or.inr ⟨j, g1, g2, g3, g4⟩))
  | .neg x, a, h, i, b, e => by
    have ihx := g_nxt (w := w) (n := n) x a h
    have fx := g_fst (w := w) (n := n) x a h
    have hle := t_Sp_le (w := w) (n := n) x
    constructor
    · rintro ⟨m, h1, h2⟩
      rcases (ihx i b m).mp h1 with ⟨rfl, hb, hl⟩ | ⟨j, g1, g2, g3, g4⟩
      · have h3 : ∃ k, t_it (t_Sp w n x) k b e := h2.elim (fun h => ⟨0, h⟩) (fun ⟨k, h⟩ => ⟨k + 1, h⟩)
        obtain ⟨k, h3⟩ := h3
        rcases t_it_ne (fun b e h => (hle b e h).1) k b e h3 with h4 | ⟨m, h4, h5, k', h6⟩
        · exact Or.inl ⟨h4, hb, hl⟩
        · rcases (fx b m).mp h5 with ⟨h7, -, -⟩ | ⟨j, g1, g2, g3, g4⟩
          · omega
          · refine Or.inr ⟨j, g_or.mpr (Or.inr (g_ite.mpr ⟨hl, g1⟩)), g2, g3, m, g4, ?_⟩
            cases k' with
            | zero => exact Or.inl h6
            | succ k' => exact Or.inr ⟨k', h6⟩
      · exact Or.inr ⟨j, g_or.mpr (Or.inl g1), g2, g3, m, g4, h2⟩
    · rintro (⟨h1, h2, h3⟩ | ⟨j, g1, g2, g3, m, g4, g5⟩)
      · subst h1
        exact ⟨b, (ihx i b b).mpr (Or.inl ⟨rfl, h2, h3⟩), Or.inl rfl⟩
      · rcases g_or.mp g1 with g1 | g1
        · exact ⟨m, (ihx i b m).mpr (Or.inr ⟨j, g1, g2, g3, g4⟩), g5⟩
        · obtain ⟨h1, h2⟩ := g_ite.mp g1
          refine ⟨b, (ihx i b b).mpr (Or.inl ⟨rfl, by omega, h1⟩), Or.inr ?_⟩
          have h3 := (fx b m).mpr (Or.inr ⟨j, h2, g2, g3, g4⟩)
          rcases g5 with g5 | ⟨k, g5⟩
          · subst g5
            exact ⟨0, m, h3, rfl⟩
          · exact ⟨k + 1, m, h3, g5⟩
  | .mulL c x, a, h, i, b, e => g_nxt x a h i b e
  | .mulR x c, a, h, i, b, e => g_nxt x a h i b e
/-- S holds the leaves that may have taken the letter ahead of m, of a part that began at b -/
def g_at (w : Nat → Nat) (n : Nat) (t : qT) (b m S : Nat) : Prop := ∀ e, m ≤ e → (t_Sp w n t b e ↔ ∃ i, S.testBit i = true ∧ g_k w n t 0 i m e)
theorem g_at_1 {w acc : Nat → Nat} {n : Nat} {t : qT} {b S : Nat} (h : g_ok acc t 0) (hb : b < n) (hS : ∀ i, S.testBit i = true ↔ (g_f t 0).testBit i = true ∧ (acc i).testBit (w b) = true) : g_at w n t b (b + 1) S := by
  intro e he
  rw [g_fst t 0 h b e]
  constructor
  · rintro (⟨h1, -, -⟩ | ⟨i, g1, -, g3, g4⟩)
    · omega
    · exact ⟨i, (hS i).mpr ⟨g1, g3⟩, g4⟩
  · rintro ⟨i, h1, h2⟩
    obtain ⟨g1, g2⟩ := (hS i).mp h1
    exact Or.inr ⟨i, g1, hb, g2, h2⟩
theorem g_at_s {w acc : Nat → Nat} {n : Nat} {t : qT} {b m S S' : Nat} (h : g_ok acc t 0) (hm : m < n) (hA : g_at w n t b m S) (hS : ∀ j, S'.testBit j = true ↔ (∃ i, S.testBit i = true ∧ (g_w t 0 i).testBit j = true) ∧ (acc j).testBit (w m) = true) : g_at w n t b (m + 1) S' := by
  intro e he
  rw [hA e (by omega)]
  constructor
  · rintro ⟨i, h1, h2⟩
    rcases (g_nxt t 0 h i m e).mp h2 with ⟨h3, -, -⟩ | ⟨j, g1, -, g3, g4⟩
    · omega
    · exact ⟨j, (hS j).mpr ⟨⟨i, h1, g1⟩, g3⟩, g4⟩
  · rintro ⟨j, h1, h2⟩
    obtain ⟨⟨i, g1, g2⟩, g3⟩ := (hS j).mp h1
    exact ⟨i, g1, (g_nxt t 0 h i m e).mpr (Or.inr ⟨j, g2, hm, g3, h2⟩)⟩
theorem g_at_e {w acc : Nat → Nat} {n : Nat} {t : qT} {b m S : Nat} (h : g_ok acc t 0) (hm : m ≤ n) (hA : g_at w n t b m S) : t_Sp w n t b m ↔ (S &&& g_l t 0) ≠ 0 := by
  rw [hA m (Nat.le_refl _)]
  constructor
  · rintro ⟨i, h1, h2⟩
    rcases (g_nxt t 0 h i m m).mp h2 with ⟨-, -, h3⟩ | ⟨j, -, -, -, g4⟩
    · intro h0
      have : (S &&& g_l t 0).testBit i = true := by rw [Nat.testBit_and, h1, h3]; rfl
      rw [h0, Nat.zero_testBit] at this
      exact absurd this (by decide)
    · have := (g_k_le t 0 j _ _ g4).1
      omega
  · intro h0
    obtain ⟨i, hi⟩ := Nat.exists_testBit_of_ne_zero h0
    rw [Nat.testBit_and, Bool.and_eq_true] at hi
    exact ⟨i, hi.1, (g_nxt t 0 h i m m).mpr (Or.inl ⟨rfl, hm, hi.2⟩)⟩
