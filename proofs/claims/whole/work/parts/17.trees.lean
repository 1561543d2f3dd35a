/-! patterns as trees: Int.Internal.Linear.Expr, for no type of our own may be made.
num v: LETTER v; var s: CLASS s; add: THEN; sub: EITHER; neg: AGAIN; mulL: MAYBE (mulR counts as one too) -/
abbrev qT : Type := Int.Internal.Linear.Expr
def t_kind : qT → Nat
  | .num _ => 0
  | .var _ => 1
  | .add _ _ => 2
  | .sub _ _ => 3
  | .neg _ => 4
  | .mulL _ _ => 5
  | .mulR _ _ => 5
def t_val : qT → Nat
  | .num v => v.toNat
  | .var s => s
  | _ => 0
def t_nodes : qT → Nat
  | .num _ => 1
  | .var _ => 1
  | .add x y => 1 + t_nodes x + t_nodes y
  | .sub x y => 1 + t_nodes x + t_nodes y
  | .neg x => 1 + t_nodes x
  | .mulL _ x => 1 + t_nodes x
  | .mulR x _ => 1 + t_nodes x
def t_cost : qT → Nat
  | .num _ => 2
  | .var _ => 3
  | .add x y => 1 + t_cost x + t_cost y
  | .sub x y => 2 + t_cost x + t_cost y
  | .neg x => 2 + t_cost x
  | .mulL _ x => 2 + t_cost x
  | .mulR x _ => 2 + t_cost x
/-- which parts of a row are fit, one behind the other -/
def t_it (R : Nat → Nat → Prop) : Nat → Nat → Nat → Prop
  | 0, b, e => b = e
  | k + 1, b, e => ∃ m, R b m ∧ t_it R k m e
/-- the part of the row w of n letters from b to e is FIT -/
def t_Sp (w : Nat → Nat) (n : Nat) : qT → Nat → Nat → Prop
  | .num v, b, e => b < n ∧ e = b + 1 ∧ w b = v.toNat
  | .var s, b, e => b < n ∧ e = b + 1 ∧ Nat.testBit s (w b) = true
  | .add x y, b, e => ∃ m, t_Sp w n x b m ∧ t_Sp w n y m e
  | .sub x y, b, e => t_Sp w n x b e ∨ t_Sp w n y b e
  | .neg x, b, e => ∃ k, t_it (t_Sp w n x) (k + 1) b e
  | .mulL _ x, b, e => t_Sp w n x b e ∨ (b = e ∧ b ≤ n)
  | .mulR x _, b, e => t_Sp w n x b e ∨ (b = e ∧ b ≤ n)
theorem t_it_le {R : Nat → Nat → Prop} {n : Nat} (h : ∀ b e, R b e → b ≤ e ∧ e ≤ n) : ∀ k b e, t_it R (k + 1) b e → b ≤ e ∧ e ≤ n
  | 0, b, e, hk => by
    obtain ⟨m, h1, h2⟩ := hk
    have e1 : m = e := h2
    rw [← e1]
    exact h b m h1
  | k + 1, b, e, hk => by
    obtain ⟨m, h1, h2⟩ := hk
    have g1 := h b m h1
    have g2 := t_it_le h k m e h2
    omega
theorem t_Sp_le {w : Nat → Nat} {n : Nat} : ∀ (t : qT) (b e : Nat), t_Sp w n t b e → b ≤ e ∧ e ≤ n
  | .num v, b, e, h => by
    obtain ⟨h1, h2, -⟩ := h
    omega
  | .var s, b, e, h => by
    obtain ⟨h1, h2, -⟩ := h
    omega
  | .add x y, b, e, h => by
    obtain ⟨m, h1, h2⟩ := h
    have g1 := t_Sp_le x b m h1
    have g2 := t_Sp_le y m e h2
    omega
  | .sub x y, b, e, h => by
    rcases h with h | h
    · exact t_Sp_le x b e h
    · exact t_Sp_le y b e h
  | .neg x, b, e, h => by
    obtain ⟨k, h⟩ := h
    exact t_it_le (t_Sp_le x) k b e h
  | .mulL _ x, b, e, h => by
    rcases h with h | ⟨h1, h2⟩
    · exact t_Sp_le x b e h
    · omega
  | .mulR x _, b, e, h => by
    rcases h with h | ⟨h1, h2⟩
    · exact t_Sp_le x b e h
    · omega
theorem t_nodes_pos : ∀ t : qT, 1 ≤ t_nodes t
  | .num _ => Nat.le_refl _
  | .var _ => Nat.le_refl _
  | .add x y => by unfold t_nodes; omega
  | .sub x y => by unfold t_nodes; omega
  | .neg x => by unfold t_nodes; omega
  | .mulL _ x => by unfold t_nodes; omega
  | .mulR x _ => by unfold t_nodes; omega
/-- its kinds, as bits -/
def t_uses : qT → Nat
  | .num _ => 1
  | .var _ => 2
  | .add x y => 4 ||| t_uses x ||| t_uses y
  | .sub x y => 8 ||| t_uses x ||| t_uses y
  | .neg x => 16 ||| t_uses x
  | .mulL _ x => 32 ||| t_uses x
  | .mulR x _ => 32 ||| t_uses x
def t_vok (s : Nat) : Prop := 1 ≤ s ∧ s < 8
/-- a row of the reference's table -/
def m_n (A : Nat → Nat → Int32) (j k v : Nat) (x y : Option Nat) (c nd u : Nat) : Prop := j < 6400 ∧ A 3 j = nI k ∧ A 4 j = nI v ∧ A 5 j = q_oi x ∧ A 6 j = q_oi y ∧ A 7 j = nI c ∧ A 8 j = nI nd ∧ A 9 j = nI u
/-- node j of the reference's table is the top of the tree; its parts stand ahead -/
def t_mr (A : Nat → Nat → Int32) : qT → Nat → Prop
  | .num v, j => m_n A j 0 v.toNat none none 2 1 1 ∧ 0 ≤ v ∧ v.toNat < 3
  | .var s, j => m_n A j 1 s none none 3 1 2 ∧ t_vok s
  | .add x y, j => ∃ a b, a < j ∧ b < j ∧ m_n A j 2 0 (some a) (some b) (1 + t_cost x + t_cost y) (1 + t_nodes x + t_nodes y) (4 ||| t_uses x ||| t_uses y) ∧ t_mr A x a ∧ t_mr A y b
  | .sub x y, j => ∃ a b, a < j ∧ b < j ∧ m_n A j 3 0 (some a) (some b) (2 + t_cost x + t_cost y) (1 + t_nodes x + t_nodes y) (8 ||| t_uses x ||| t_uses y) ∧ t_mr A x a ∧ t_mr A y b
  | .neg x, j => ∃ a, a < j ∧ m_n A j 4 0 (some a) none (2 + t_cost x) (1 + t_nodes x) (16 ||| t_uses x) ∧ t_mr A x a
  | .mulL c x, j => c = 0 ∧ ∃ a, a < j ∧ m_n A j 5 0 (some a) none (2 + t_cost x) (1 + t_nodes x) (32 ||| t_uses x) ∧ t_mr A x a
  | .mulR _ _, _ => False
theorem t_mr_n {A : Nat → Nat → Int32} : ∀ {t : qT} {j : Nat}, t_mr A t j → ∃ x y, m_n A j (t_kind t) (t_val t) x y (t_cost t) (t_nodes t) (t_uses t)
  | .num _, _, h => ⟨_, _, h.1⟩
  | .var _, _, h => ⟨_, _, h.1⟩
  | .add _ _, _, ⟨_, _, _, _, h, _⟩ => ⟨_, _, h⟩
  | .sub _ _, _, ⟨_, _, _, _, h, _⟩ => ⟨_, _, h⟩
  | .neg _, _, ⟨_, _, h, _⟩ => ⟨_, _, h⟩
  | .mulL _ _, _, ⟨_, _, _, h, _⟩ => ⟨_, _, h⟩
  | .mulR _ _, _, h => h.elim
theorem t_mr_lt {A : Nat → Nat → Int32} {t : qT} {j : Nat} (h : t_mr A t j) : j < 6400 := by
  obtain ⟨_, _, h, _⟩ := t_mr_n h
  exact h
/-- below n the table is as it was -/
def m_fr (A A' : Nat → Nat → Int32) (n : Nat) : Prop := ∀ f, 3 ≤ f → f ≤ 9 → ∀ j, j < n → A' f j = A f j
theorem m_fr.trans {A A' A'' : Nat → Nat → Int32} {n n' : Nat} (h : m_fr A A' n) (h' : m_fr A' A'' n') (hn : n ≤ n') : m_fr A A'' n := fun f h1 h2 j hj => (h' f h1 h2 j (by omega)).trans (h f h1 h2 j hj)
theorem m_fr.n {A A' : Nat → Nat → Int32} {n j k v : Nat} {x y : Option Nat} {c nd u : Nat} (h : m_fr A A' n) (hj : j < n) (g : m_n A j k v x y c nd u) : m_n A' j k v x y c nd u := by
  obtain ⟨g0, g3, g4, g5, g6, g7, g8, g9⟩ := g
  exact ⟨g0, (h 3 (by decide) (by decide) j hj).trans g3, (h 4 (by decide) (by decide) j hj).trans g4, (h 5 (by decide) (by decide) j hj).trans g5, (h 6 (by decide) (by decide) j hj).trans g6, (h 7 (by decide) (by decide) j hj).trans g7, (h 8 (by decide) (by decide) j hj).trans g8, (h 9 (by decide) (by decide) j hj).trans g9⟩
theorem t_mr_fr {A A' : Nat → Nat → Int32} {n : Nat} (h : m_fr A A' n) : ∀ (t : qT) (j : Nat), j < n → t_mr A t j → t_mr A' t j
  | .num _, _, hj, g => ⟨h.n hj g.1, g.2⟩
  | .var _, _, hj, g => ⟨h.n hj g.1, g.2⟩
  | .add x y, _, hj, ⟨a, b, h1, h2, g, h3, h4⟩ => ⟨a, b, h1, h2, h.n hj g, t_mr_fr h x a (by omega) h3, t_mr_fr h y b (by omega) h4⟩
  | .sub x y, _, hj, ⟨a, b, h1, h2, g, h3, h4⟩ => ⟨a, b, h1, h2, h.n hj g, t_mr_fr h x a (by omega) h3, t_mr_fr h y b (by omega) h4⟩
  | .neg x, _, hj, ⟨a, h1, g, h3⟩ => ⟨a, h1, h.n hj g, t_mr_fr h x a (by omega) h3⟩
  | .mulL _ x, _, hj, ⟨h0, a, h1, g, h3⟩ => ⟨h0, a, h1, h.n hj g, t_mr_fr h x a (by omega) h3⟩
  | .mulR _ _, _, _, g => g.elim
/-- the tree stands in a place's rows from i on, each node ahead of its parts -/
def t_pl (K V : Nat → Int32) : qT → Nat → Prop
  | .num v, i => (K i = nI 0 ∧ V i = nI v.toNat) ∧ 0 ≤ v ∧ v.toNat < 3
  | .var s, i => (K i = nI 1 ∧ V i = nI s) ∧ t_vok s
  | .add x y, i => (K i = nI 2 ∧ V i = nI 0) ∧ t_pl K V x (i + 1) ∧ t_pl K V y (i + 1 + t_nodes x)
  | .sub x y, i => (K i = nI 3 ∧ V i = nI 0) ∧ t_pl K V x (i + 1) ∧ t_pl K V y (i + 1 + t_nodes x)
  | .neg x, i => (K i = nI 4 ∧ V i = nI 0) ∧ t_pl K V x (i + 1)
  | .mulL c x, i => (K i = nI 5 ∧ V i = nI 0) ∧ c = 0 ∧ t_pl K V x (i + 1)
  | .mulR _ _, _ => False
theorem t_pl_fr {K V K' V' : Nat → Int32} : ∀ (t : qT) (i : Nat), (∀ j, i ≤ j → j < i + t_nodes t → K' j = K j ∧ V' j = V j) → t_pl K V t i → t_pl K' V' t i
  | .num _, i, h, g => by
    obtain ⟨h1, h2⟩ := h i (Nat.le_refl _) (by unfold t_nodes; omega)
    exact ⟨⟨h1.trans g.1.1, h2.trans g.1.2⟩, g.2⟩
  | .var _, i, h, g => by
    obtain ⟨h1, h2⟩ := h i (Nat.le_refl _) (by unfold t_nodes; omega)
    exact ⟨⟨h1.trans g.1.1, h2.trans g.1.2⟩, g.2⟩
  | .add x y, i, h, g => by
    unfold t_nodes at h
    obtain ⟨h1, h2⟩ := h i (Nat.le_refl _) (by omega)
    exact ⟨⟨h1.trans g.1.1, h2.trans g.1.2⟩, t_pl_fr x _ (fun j a b => h j (by omega) (by omega)) g.2.1, t_pl_fr y _ (fun j a b => h j (by omega) (by omega)) g.2.2⟩
  | .sub x y, i, h, g => by
    unfold t_nodes at h
    obtain ⟨h1, h2⟩ := h i (Nat.le_refl _) (by omega)
    exact ⟨⟨h1.trans g.1.1, h2.trans g.1.2⟩, t_pl_fr x _ (fun j a b => h j (by omega) (by omega)) g.2.1, t_pl_fr y _ (fun j a b => h j (by omega) (by omega)) g.2.2⟩
  | .neg x, i, h, g => by
    unfold t_nodes at h
    obtain ⟨h1, h2⟩ := h i (Nat.le_refl _) (by omega)
    exact ⟨⟨h1.trans g.1.1, h2.trans g.1.2⟩, t_pl_fr x _ (fun j a b => h j (by omega) (by omega)) g.2⟩
  | .mulL c x, i, h, g => by
    unfold t_nodes at h
    obtain ⟨h1, h2⟩ := h i (Nat.le_refl _) (by omega)
    exact ⟨⟨h1.trans g.1.1, h2.trans g.1.2⟩, g.2.1, t_pl_fr x _ (fun j a b => h j (by omega) (by omega)) g.2.2⟩
  | .mulR _ _, _, _, g => g.elim
