/-! patterns as trees: Int.Linear.Expr, for no type of our own may be made.
num v: LETTER v; var s: CLASS s; add: THEN; sub: EITHER; neg: AGAIN; mulL: MAYBE (mulR counts as one too) -/
abbrev qT : Type := Int.Linear.Expr
def t_kind : qT → Nat
  | .num _ => 0
  | .var _ => 1
  | .add _ _ => 2
  | .sub _ _ => 3
  | .neg _ => 4
  | .mulL _ _ => 5
  | .mulR _ _ => 5
def t_val : qT → Nat
  | .num v => v.toNat
  | .var s => s
  | _ => 0
def t_nodes : qT → Nat
  | .num _ => 1
  | .var _ => 1
  | .add x y => 1 + t_nodes x + t_nodes y
  | .sub x y => 1 + t_nodes x + t_nodes y
  | .neg x => 1 + t_nodes x
  | .mulL _ x => 1 + t_nodes x
  | .mulR x _ => 1 + t_nodes x
def t_cost : qT → Nat
  | .num _ => 2
  | .var _ => 3
  | .add x y => 1 + t_cost x + t_cost y
  | .sub x y => 2 + t_cost x + t_cost y
  | .neg x => 2 + t_cost x
  | .mulL _ x => 2 + t_cost x
  | .mulR x _ => 2 + t_cost x
/-- which parts of a row are fit, one behind the other -/
def t_it (R : Nat → Nat → Prop) : Nat → Nat → Nat → Prop
  | 0, b, e => b = e
  | k + 1, b, e => ∃ m, R b m ∧ t_it R k m e
/-- the part of the row w of n letters from b to e is FIT -/
def t_Sp (w : Nat → Nat) (n : Nat) : qT → Nat → Nat → Prop
  | .num v, b, e => b < n ∧ e = b + 1 ∧ w b = v.toNat
  | .var s, b, e => b < n ∧ e = b + 1 ∧ Nat.testBit s (w b) = true
  | .add x y, b, e => ∃ m, t_Sp w n x b m ∧ t_Sp w n y m e
  | .sub x y, b, e => t_Sp w n x b e ∨ t_Sp w n y b e
  | .neg x, b, e => ∃ k, t_it (t_Sp w n x) (k + 1) b e
  | .mulL _ x, b, e => t_Sp w n x b e ∨ (b = e ∧ b ≤ n)
  | .mulR x _, b, e => t_Sp w n x b e ∨ (b = e ∧ b ≤ n)
theorem t_it_le {R : Nat → Nat → Prop} {n : Nat} (h : ∀ b e, R b e → b ≤ e ∧ e ≤ n) : ∀ k b e, t_it R (k + 1) b e → b ≤ e ∧ e ≤ n
  | 0, b, e, hk => by
    obtain ⟨m, h1, h2⟩ := hk
    cases h2
    exact h b m h1
  | k + 1, b, e, hk => by
    obtain ⟨m, h1, h2⟩ := hk
    have g1 := h b m h1
    have g2 := t_it_le h k m e h2
    omega
theorem t_Sp_le {w : Nat → Nat} {n : Nat} : ∀ (t : qT) (b e : Nat), t_Sp w n t b e → b ≤ e ∧ e ≤ n
  | .num v, b, e, h => by
    obtain ⟨h1, h2, -⟩ := h
    omega
  | .var s, b, e, h => by
    obtain ⟨h1, h2, -⟩ := h
    omega
  | .add x y, b, e, h => by
    obtain ⟨m, h1, h2⟩ := h
    have g1 := t_Sp_le x b m h1
    have g2 := t_Sp_le y m e h2
    omega
  | .sub x y, b, e, h => by
    rcases h with h | h
    · exact t_Sp_le x b e h
    · exact t_Sp_le y b e h
  | .neg x, b, e, h => by
    obtain ⟨k, h⟩ := h
    exact t_it_le (t_Sp_le x) k b e h
  | .mulL _ x, b, e, h => by
    rcases h with h | ⟨h1, h2⟩
    · exact t_Sp_le x b e h
    · omega
  | .mulR x _, b, e, h => by
    rcases h with h | ⟨h1, h2⟩
    · exact t_Sp_le x b e h
    · omega
theorem t_nodes_pos : ∀ t : qT, 1 ≤ t_nodes t
  | .num _ => Nat.le_refl _
  | .var _ => Nat.le_refl _
  | .add x y => by unfold t_nodes; omega
  | .sub x y => by unfold t_nodes; omega
  | .neg x => by unfold t_nodes; omega
  | .mulL _ x => by unfold t_nodes; omega
  | .mulR x _ => by unfold t_nodes; omega
/-- node j of the reference's table is the top of the tree -/
def t_mr (A : Nat → Nat → Int32) : qT → Nat → Prop
  | .num v, j => j < 6400 ∧ A 3 j = nI 0 ∧ A 4 j = nI v.toNat ∧ v.toNat < 3 ∧ A 5 j = -1 ∧ A 6 j = -1
  | .var s, j => j < 6400 ∧ A 3 j = nI 1 ∧ A 4 j = nI s ∧ (1 ≤ s ∧ s < 8) ∧ A 5 j = -1 ∧ A 6 j = -1
  | .add x y, j => j < 6400 ∧ A 3 j = nI 2 ∧ A 4 j = nI 0 ∧ ∃ a b, A 5 j = nI a ∧ A 6 j = nI b ∧ t_mr A x a ∧ t_mr A y b
  | .sub x y, j => j < 6400 ∧ A 3 j = nI 3 ∧ A 4 j = nI 0 ∧ ∃ a b, A 5 j = nI a ∧ A 6 j = nI b ∧ t_mr A x a ∧ t_mr A y b
  | .neg x, j => j < 6400 ∧ A 3 j = nI 4 ∧ A 4 j = nI 0 ∧ A 6 j = -1 ∧ ∃ a, A 5 j = nI a ∧ t_mr A x a
  | .mulL _ x, j => j < 6400 ∧ A 3 j = nI 5 ∧ A 4 j = nI 0 ∧ A 6 j = -1 ∧ ∃ a, A 5 j = nI a ∧ t_mr A x a
  | .mulR _ _, _ => False
theorem t_mr_lt {A : Nat → Nat → Int32} : ∀ (t : qT) (j : Nat), t_mr A t j → j < 6400
  | .num _, _, h => h.1
  | .var _, _, h => h.1
  | .add _ _, _, h => h.1
  | .sub _ _, _, h => h.1
  | .neg _, _, h => h.1
  | .mulL _ _, _, h => h.1
  | .mulR _ _, _, h => h.elim
