/-! the class's Reader: its trees, whose nodes are told apart -/
/-- all nodes of the tree are in S -/
def t_S (k l r : Nat → Int32) (S : Nat → Prop) : qT → Nat → Prop
  | .num v, j => (S j ∧ k j = nI 0 ∧ l j = nI v.toNat ∧ r j = nI 0) ∧ 0 ≤ v ∧ v.toNat < 3
  | .var s, j => (S j ∧ k j = nI 1 ∧ l j = nI s ∧ r j = nI 0) ∧ t_vok s
  | .add x y, j => ∃ a b, (S j ∧ k j = nI 2 ∧ l j = nI a ∧ r j = nI b) ∧ t_S k l r S x a ∧ t_S k l r S y b
  | .sub x y, j => ∃ a b, (S j ∧ k j = nI 3 ∧ l j = nI a ∧ r j = nI b) ∧ t_S k l r S x a ∧ t_S k l r S y b
  | .neg x, j => ∃ a, (S j ∧ k j = nI 4 ∧ l j = nI a ∧ r j = nI 0) ∧ t_S k l r S x a
  | .mulL c x, j => c = 0 ∧ ∃ a, (S j ∧ k j = nI 5 ∧ l j = nI a ∧ r j = nI 0) ∧ t_S k l r S x a
  | .mulR _ _, _ => False
/-- the THENs to the right stand apart from their parts -/
def t_D (k l r : Nat → Int32) : (Nat → Prop) → qT → Nat → Prop
  | S, .add x y, j => ∃ a b Sx Sy, (S j ∧ k j = nI 2 ∧ l j = nI a ∧ r j = nI b) ∧ (∀ q, Sx q → S q ∧ q ≠ j ∧ ¬ Sy q) ∧ (∀ q, Sy q → S q ∧ q ≠ j) ∧ t_S k l r Sx x a ∧ t_D k l r Sy y b
  | S, x, j => t_S k l r S x j
theorem t_S_k {k l r : Nat → Int32} {S : Nat → Prop} : ∀ {t : qT} {j : Nat}, t_S k l r S t j → S j ∧ k j = nI (t_kind t)
  | .num _, _, h => ⟨h.1.1, h.1.2.1⟩
  | .var _, _, h => ⟨h.1.1, h.1.2.1⟩
  | .add _ _, _, ⟨_, _, h, _⟩ => ⟨h.1, h.2.1⟩
  | .sub _ _, _, ⟨_, _, h, _⟩ => ⟨h.1, h.2.1⟩
  | .neg _, _, ⟨_, h, _⟩ => ⟨h.1, h.2.1⟩
  | .mulL _ _, _, ⟨_, _, h, _⟩ => ⟨h.1, h.2.1⟩
  | .mulR _ _, _, h => h.elim
theorem t_S_fr {k l r k' l' r' : Nat → Int32} {S S' : Nat → Prop} (h : ∀ q, S q → S' q ∧ k' q = k q ∧ l' q = l q ∧ r' q = r q) : ∀ (t : qT) (j : Nat), t_S k l r S t j → t_S k' l' r' S' t j
  | .num _, j, g => by
    obtain ⟨⟨g1, g2, g3, g4⟩, g5⟩ := g
    obtain ⟨h1, h2, h3, h4⟩ := h j g1
    exact ⟨⟨h1, h2.trans g2, h3.trans g3, h4.trans g4⟩, g5⟩
  | .var _, j, g => by
    obtain ⟨⟨g1, g2, g3, g4⟩, g5⟩ := g
    obtain ⟨h1, h2, h3, h4⟩ := h j g1
    exact ⟨⟨h1, h2.trans g2, h3.trans g3, h4.trans g4⟩, g5⟩
  | .add x y, j, g => by
    obtain ⟨a, b, ⟨g1, g2, g3, g4⟩, g5, g6⟩ := g
    obtain ⟨h1, h2, h3, h4⟩ := h j g1
    exact ⟨a, b, ⟨h1, h2.trans g2, h3.trans g3, h4.trans g4⟩, t_S_fr h x a g5, t_S_fr h y b g6⟩
  | .sub x y, j, g => by
    obtain ⟨a, b, ⟨g1, g2, g3, g4⟩, g5, g6⟩ := g
    obtain ⟨h1, h2, h3, h4⟩ := h j g1
    exact ⟨a, b, ⟨h1, h2.trans g2, h3.trans g3, h4.trans g4⟩, t_S_fr h x a g5, t_S_fr h y b g6⟩
  | .neg x, j, g => by
    obtain ⟨a, ⟨g1, g2, g3, g4⟩, g5⟩ := g
    obtain ⟨h1, h2, h3, h4⟩ := h j g1
    exact ⟨a, ⟨h1, h2.trans g2, h3.trans g3, h4.trans g4⟩, t_S_fr h x a g5⟩
  | .mulL _ x, j, g => by
    obtain ⟨g0, a, ⟨g1, g2, g3, g4⟩, g5⟩ := g
    obtain ⟨h1, h2, h3, h4⟩ := h j g1
    exact ⟨g0, a, ⟨h1, h2.trans g2, h3.trans g3, h4.trans g4⟩, t_S_fr h x a g5⟩
  | .mulR _ _, _, g => g.elim
theorem t_D_n {k l r : Nat → Int32} {S : Nat → Prop} {x : qT} {j : Nat} (h : t_kind x ≠ 2) : t_D k l r S x j = t_S k l r S x j := by
  cases x with
  | add a b => exact absurd rfl h
  | num _ => rfl
  | var _ => rfl
  | sub _ _ => rfl
  | neg _ => rfl
  | mulL _ _ => rfl
  | mulR _ _ => rfl
theorem t_D_S {k l r : Nat → Int32} : ∀ (t : qT) (S : Nat → Prop) (j : Nat), t_D k l r S t j → t_S k l r S t j
  | .add x y, S, j, ⟨a, b, Sx, Sy, h1, h2, h3, h4, h5⟩ => ⟨a, b, h1, t_S_fr (fun q hq => ⟨(h2 q hq).1, rfl, rfl, rfl⟩) x a h4, t_S_fr (fun q hq => ⟨(h3 q hq).1, rfl, rfl, rfl⟩) y b (t_D_S y Sy b h5)⟩
  | .num _, _, _, h => h
  | .var _, _, _, h => h
  | .sub _ _, _, _, h => h
  | .neg _, _, _, h => h
  | .mulL _ _, _, _, h => h
  | .mulR _ _, _, _, h => h
theorem t_D_fr {k l r k' l' r' : Nat → Int32} : ∀ (t : qT) (S S' : Nat → Prop) (j : Nat), (∀ q, S q → S' q ∧ k' q = k q ∧ l' q = l q ∧ r' q = r q) → t_D k l r S t j → t_D k' l' r' S' t j
  | .add x y, S, S', j, h, ⟨a, b, Sx, Sy, ⟨g1, g2, g3, g4⟩, h2, h3, h4, h5⟩ => by
    obtain ⟨k1, k2, k3, k4⟩ := h j g1
    exact ⟨a, b, Sx, Sy, ⟨k1, k2.trans g2, k3.trans g3, k4.trans g4⟩, (fun q hq => ⟨(h q (h2 q hq).1).1, (h2 q hq).2⟩), (fun q hq => ⟨(h q (h3 q hq).1).1, (h3 q hq).2⟩), t_S_fr (fun q hq => ⟨hq, (h q (h2 q hq).1).2⟩) x a h4, t_D_fr y Sy Sy b (fun q hq => ⟨hq, (h q (h3 q hq).1).2⟩) h5⟩
  | .num v, S, S', j, h, g => t_S_fr h (.num v) j g
  | .var v, S, S', j, h, g => t_S_fr h (.var v) j g
  | .sub x y, S, S', j, h, g => t_S_fr h (.sub x y) j g
  | .neg x, S, S', j, h, g => t_S_fr h (.neg x) j g
  | .mulL c x, S, S', j, h, g => t_S_fr h (.mulL c x) j g
  | .mulR x c, S, S', j, h, g => t_S_fr h (.mulR x c) j g
theorem t_S_nr {k l r : Nat → Int32} {S : Nat → Prop} {lo sz : Nat} (h : ∀ q, S q → lo ≤ q ∧ q < sz) : ∀ (t : qT) (j : Nat), t_S k l r S t j → t_nr k l r lo sz t j
  | .num _, j, g => ⟨⟨h j g.1.1, g.1.2⟩, g.2⟩
  | .var _, j, g => ⟨⟨h j g.1.1, g.1.2⟩, g.2⟩
  | .add x y, j, ⟨a, b, g, g5, g6⟩ => ⟨a, b, ⟨h j g.1, g.2⟩, t_S_nr h x a g5, t_S_nr h y b g6⟩
  | .sub x y, j, ⟨a, b, g, g5, g6⟩ => ⟨a, b, ⟨h j g.1, g.2⟩, t_S_nr h x a g5, t_S_nr h y b g6⟩
  | .neg x, j, ⟨a, g, g5⟩ => ⟨a, ⟨h j g.1, g.2⟩, t_S_nr h x a g5⟩
  | .mulL _ x, j, ⟨g0, a, g, g5⟩ => ⟨g0, a, ⟨h j g.1, g.2⟩, t_S_nr h x a g5⟩
  | .mulR _ _, _, g => g.elim
theorem t_D_k {k l r : Nat → Int32} {S : Nat → Prop} {t : qT} {j : Nat} (h : t_D k l r S t j) : S j ∧ k j = nI (t_kind t) := t_S_k (t_D_S t S j h)
/-- a chain goes on behind its last THEN: z is that, w what stands behind it -/
theorem t_D_join {k l r : Nat → Int32} {S Sy : Nat → Prop} {n y j a b : Nat} {u v ty : qT} {Su Sv : Nat → Prop} (hv : t_kind v ≠ 2) (h1 : S j ∧ k j = nI 2 ∧ l j = nI a ∧ r j = nI b) (h2 : ∀ q, Su q → S q ∧ q ≠ j ∧ ¬ Sv q) (h3 : ∀ q, Sv q → S q ∧ q ≠ j) (h4 : t_S k l r Su u a) (h5 : t_D k l r Sv v b) (hy : t_D k l r Sy ty y) (hd : ∀ q, S q → ¬ Sy q) (hn : ¬ S n) (hn' : ¬ Sy n) : t_D (upd k n (nI 2)) (upd l n (nI b)) (upd (upd r n (nI y)) j (nI n)) (fun q => S q ∨ Sy q ∨ q = n) (.add u (.add v ty)) j := by
  have jn : j ≠ n := fun e => hn (e ▸ h1.1)
  have frS : ∀ q, S q → q ≠ j → upd k n (nI 2) q = k q ∧ upd l n (nI b) q = l q ∧ upd (upd r n (nI y)) j (nI n) q = r q := fun q hq hj => by
    have qn : q ≠ n := fun e => hn (e ▸ hq)
    exact ⟨q_ud_n _ _ qn, q_ud_n _ _ qn, by rw [q_ud_n _ _ hj, q_ud_n _ _ qn]⟩
  have frY : ∀ q, Sy q → upd k n (nI 2) q = k q ∧ upd l n (nI b) q = l q ∧ upd (upd r n (nI y)) j (nI n) q = r q := fun q hq => by
    have qn : q ≠ n := fun e => hn' (e ▸ hq)
    have qj : q ≠ j := fun e => hd j h1.1 (e ▸ hq)
    exact ⟨q_ud_n _ _ qn, q_ud_n _ _ qn, by rw [q_ud_n _ _ qj, q_ud_n _ _ qn]⟩
  refine ⟨a, n, Su, (fun q => Sv q ∨ Sy q ∨ q = n), ⟨Or.inl h1.1, by rw [q_ud_n _ _ jn]; exact h1.2.1, by rw [q_ud_n _ _ jn]; exact h1.2.2.1, q_ud_s _ _ _⟩, (fun q hq => ⟨Or.inl (h2 q hq).1, (h2 q hq).2.1, fun g => g.elim (h2 q hq).2.2 fun g => g.elim (hd q (h2 q hq).1) fun e => hn (e ▸ (h2 q hq).1)⟩), (fun q hq => hq.elim (fun g => ⟨Or.inl (h3 q g).1, (h3 q g).2⟩) fun g => g.elim (fun g => ⟨Or.inr (Or.inl g), fun e => hd j h1.1 (e ▸ g)⟩) fun e => ⟨Or.inr (Or.inr e), fun e' => jn (e'.symm.trans e)⟩), t_S_fr (fun q hq => ⟨hq, frS q (h2 q hq).1 (h2 q hq).2.1⟩) u a h4, ?_⟩
  refine ⟨b, y, Sv, Sy, ⟨Or.inr (Or.inr rfl), q_ud_s _ _ _, q_ud_s _ _ _, by rw [q_ud_n _ _ (Ne.symm jn), q_ud_s]⟩, (fun q hq => ⟨Or.inl hq, fun e => hn (e ▸ (h3 q hq).1), hd q (h3 q hq).1⟩), (fun q hq => ⟨Or.inr (Or.inl hq), fun e => hn' (e ▸ hq)⟩), t_S_fr (fun q hq => ⟨hq, frS q (h3 q hq).1 (h3 q hq).2⟩) v b (t_D_S v Sv b h5), t_D_fr ty Sy Sy y (fun q hq => ⟨hq, frY q hq⟩) hy⟩
/-- a chain whose right part was lengthened -/
theorem t_D_deep {k l r k' l' r' : Nat → Int32} {S Sy : Nat → Prop} {n j a b : Nat} {u v t' : qT} {Su Sv : Nat → Prop} (h1 : S j ∧ k j = nI 2 ∧ l j = nI a ∧ r j = nI b) (h2 : ∀ q, Su q → S q ∧ q ≠ j ∧ ¬ Sv q) (h3 : ∀ q, Sv q → S q ∧ q ≠ j) (h4 : t_S k l r Su u a) (h5 : t_D k' l' r' (fun q => Sv q ∨ Sy q ∨ q = n) t' b) (hd : ∀ q, S q → ¬ Sy q) (hn : ¬ S n) (hf : ∀ q, S q → ¬ Sv q → k' q = k q ∧ l' q = l q ∧ r' q = r q) (hj : ¬ Sv j) : t_D k' l' r' (fun q => S q ∨ Sy q ∨ q = n) (.add u t') j := by
  obtain ⟨f1, f2, f3⟩ := hf j h1.1 hj
  exact ⟨a, b, Su, (fun q => Sv q ∨ Sy q ∨ q = n), ⟨Or.inl h1.1, f1.trans h1.2.1, f2.trans h1.2.2.1, f3.trans h1.2.2.2⟩, (fun q hq => ⟨Or.inl (h2 q hq).1, (h2 q hq).2.1, fun g => g.elim (h2 q hq).2.2 fun g => g.elim (hd q (h2 q hq).1) fun e => hn (e ▸ (h2 q hq).1)⟩), (fun q hq => hq.elim (fun g => ⟨Or.inl (h3 q g).1, (h3 q g).2⟩) fun g => g.elim (fun g => ⟨Or.inr (Or.inl g), fun e => hd j h1.1 (e ▸ g)⟩) fun e => ⟨Or.inr (Or.inr e), fun e' => hn (by rw [← e, e']; exact h1.1)⟩), t_S_fr (fun q hq => ⟨hq, hf q (h2 q hq).1 (h2 q hq).2.2⟩) u a h4, h5⟩
/-- below n the rows are as they were -/
def t_kf (k l r k' l' r' : Nat → Int32) (n : Nat) : Prop := ∀ q, q < n → k' q = k q ∧ l' q = l q ∧ r' q = r q
theorem t_kf.trans {k l r k' l' r' k'' l'' r'' : Nat → Int32} {n n' : Nat} (h : t_kf k l r k' l' r' n) (h' : t_kf k' l' r' k'' l'' r'' n') (hn : n ≤ n') : t_kf k l r k'' l'' r'' n := fun q hq => by
  obtain ⟨a1, a2, a3⟩ := h q hq
  obtain ⟨b1, b2, b3⟩ := h' q (by omega)
  exact ⟨b1.trans a1, b2.trans a2, b3.trans a3⟩
theorem t_kf_add {k l r : Nat → Int32} {n m : Nat} {a x y : Int32} (h : n ≤ m) : t_kf k l r (upd k m a) (upd l m x) (upd r m y) n := fun q hq => ⟨q_ud_n _ _ (by omega), q_ud_n _ _ (by omega), q_ud_n _ _ (by omega)⟩
/-- nodes from lo to hi -/
def t_R (lo hi : Nat) : Nat → Prop := fun q => lo ≤ q ∧ q < hi
