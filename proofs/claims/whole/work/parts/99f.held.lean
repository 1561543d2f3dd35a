/-! class and reference in one memory: what it holds, piece by piece -/
abbrev fS : Type := Option (Nat × Nat × Nat × Nat × (Nat → Nat))
theorem q_isN.cg {M M' : qM} {i n sz : Nat} {k l r : Nat → Int32} (h : q_isN M i n k l r sz) (f : ∀ a, i ≤ a → a < i + 4 → M'.2 a = M.2 a) : q_isN M' i n k l r sz := ⟨(f i (by omega) (by omega)).trans h.1, (f (i + 1) (by omega) (by omega)).trans h.2.1, (f (i + 2) (by omega) (by omega)).trans h.2.2.1, (f (i + 3) (by omega) (by omega)).trans h.2.2.2⟩
theorem q_hs.isN {M : qM} {i n sz : Nat} {k l r : Nat → Int32} (h : q_hs M.2 i (ndE i n k l r sz)) : q_isN M i n k l r sz := ⟨h 0 _ rfl, h 1 _ rfl, h 2 _ rfl, h 3 _ rfl⟩
def w_Rd (M : qM) (i T : Nat) (tp : Nat → Nat) : Prop := ∃ s A k l r sz, q_hs M.2 (i + 2) (rdE (i + 2) s A) ∧ q_isN M (i + 4) 120 k l r sz ∧ s 1 = nI T ∧ T ≤ 60 ∧ ∀ j, j < T → A 0 j = nI (tp j) ∧ tp j < 256
def w_Wr (M : qM) (a : Nat) : Prop := ∃ s A, q_hs M.2 a (wrE a s A)
def w_Au (M : qM) (a : Nat) : Prop := ∃ s A, q_hs M.2 a (auE a s A)
def w_Wa (M : qM) (a : Nat) : Prop := ∃ W, q_hs M.2 a (waE a W)
def w_Sp (M : qM) (a : Nat) : Prop := ∃ B, q_hs M.2 a (spE a 12 B)
def w_Sh (M : qM) (a S : Nat) (D : Nat → yD) (tb : Nat) : Prop := ∃ s A, q_hs M.2 a (shE a s A) ∧ w_Shw s A S D tb
def w_Md (M : qM) (r : Nat) (s : Nat → Int32) (A : Nat → Nat → Int32) (B : Nat → Nat → Int64) : Prop := ∀ k, k < 38 → M.2 (r + k) = mdE r s A B k
def w_Pa (M : qM) (b : Nat) (zp : Option Nat) : Prop := ∀ a, zp = some a → b ≤ a ∧ a + 3 ≤ M.1 ∧ ∃ s A, q_hs M.2 a (paE a s A)
def w_Ct (M : qM) (a : Nat) : Prop := ∃ A k l r, q_hs M.2 a (caE a A) ∧ q_isN M (a + 1) 4937 k l r 4937 ∧ k_Cat A k l r
def w_Ca (M : qM) (b : Nat) (zc : Option Nat) : Prop := ∀ a, zc = some a → b ≤ a ∧ a + 9 ≤ M.1 ∧ w_Ct M a
/-- the pure state of Finder after at most k calls -/
def f_St (s : Nat → Int32) (A : Nat → Nat → Int32) (μ : Nat → Nat) (S : Nat) (D : Nat → yD) (k : Nat) (σ : fS) (as : Nat) : Prop := (∃ J, s 6 = nI J ∧ J ≤ S ∧ f_Ag A D J) ∧ (∃ n P, s 8 = nI n ∧ n ≤ k ∧ f_Met (A 7) μ n P) ∧ s 10 = nI as ∧ ∃ sr, s 12 = nI sr ∧ sr ≤ k ∧ match σ with
  | none => sr = 0 ∧ s 16 = nI 0 ∧ ∃ P, f_Met (A 11) μ sr P
  | some (K, c, a, m, fnd) => 1 ≤ sr ∧ K < 64 ∧ 2 ≤ c ∧ c ≤ 10 ∧ s 13 = nI K ∧ s 14 = nI (min a (k_F (c + 1))) ∧ s 15 = nI (k_F (c + 1)) ∧ s 16 = nI m ∧ m ≤ a ∧ a ≤ 4937 ∧ (∀ j, j < m → fnd j < 4937) ∧ f_Met (A 11) μ sr (fun y => ∃ j, j < m ∧ fnd j = y)
/-- Finder at f, a gap of g cells behind its object, catalogue at c, showings at h -/
def w_Fd (M : qM) (f g c h S : Nat) (D : Nat → yD) (k : Nat) (σ : fS) (as : Nat) : Prop := ∃ X s A B sm Am μ z, (X 0 = c ∧ X 1 = h ∧ X 2 = g) ∧ q_hs M.2 f (fjE f X s A) ∧ q_hs M.2 (f + g + 1) (meE (f + g + 1) sm Am) ∧ q_hs M.2 (f + g + 9) (spE (f + g + 9) 4937 B) ∧ f_Mu (A 3) sm Am μ z ∧ f_St s A μ S D k σ as
def w_Fi (M : qM) (b h : Nat) (zc : Option Nat) (zf : Option (Nat × Nat)) (S : Nat) (D : Nat → yD) (k : Nat) (σ : fS) (as : Nat) : Prop := (zf = none → σ = none ∧ as = 0) ∧ ∀ f g, zf = some (f, g) → b ≤ f ∧ f + g + 15 ≤ M.1 ∧ ∃ c, zc = some c ∧ (c + 9 ≤ f ∨ f < c ∧ c + 9 ≤ f + g + 1) ∧ w_Fd M f g c h S D k σ as
def w_Dj (zp zc : Option Nat) (zf : Option (Nat × Nat)) : Prop := (∀ a c, zp = some a → zc = some c → a + 3 ≤ c ∨ c + 9 ≤ a) ∧ ∀ a f g, zp = some a → zf = some (f, g) → a + 3 ≤ f ∨ f + g + 15 ≤ a
section
variable {M M' : qM} {i a b h r S T k : Nat} {tp : Nat → Nat} {D : Nat → yD} {tb as : Nat} {σ : fS} {zp zc : Option Nat} {zf : Option (Nat × Nat)} {P : Nat → Option qT} {s : Nat → Int32} {A : Nat → Nat → Int32} {B : Nat → Nat → Int64} {pa ca fi : Value}
theorem w_Ob.cg (h : w_Ob M i pa ca fi) (f : ∀ a, i ≤ a → a < i + 2 → M'.2 a = M.2 a) : w_Ob M' i pa ca fi := by
  obtain ⟨h1, fp, h2, h3⟩ := h
  exact ⟨(f i (by omega) (by omega)).trans h1, fp, (f (i + 1) (by omega) (by omega)).trans h2, h3⟩
theorem w_pl.cg {q : Nat} {o : Option qT} (h : w_pl M i q o) (f : ∀ a, i + 35 + 4 * q ≤ a → a < i + 35 + 4 * q + 4 → M'.2 a = M.2 a) : w_pl M' i q o := by
  obtain ⟨k, l, r, h⟩ := h
  cases o with
  | none => exact ⟨k, l, r, q_isN.cg h f⟩
  | some t => exact ⟨k, l, r, q_isN.cg h.1 f, h.2⟩
theorem w_Rd.cg (h : w_Rd M i T tp) (f : ∀ a, i + 2 ≤ a → a < i + 9 → M'.2 a = M.2 a) : w_Rd M' i T tp := by
  obtain ⟨s, A, k, l, r, sz, h1, h2, h3⟩ := h
  exact ⟨s, A, k, l, r, sz, h1.cg (n := 7) (fun k h => rdE_none h) (fun a g1 g2 => f a (by omega) (by omega)), h2.cg (fun a g1 g2 => f a (by omega) (by omega)), h3⟩
theorem w_Wr.cg (h : w_Wr M i) (f : ∀ a, i ≤ a → a < i + 2 → M'.2 a = M.2 a) : w_Wr M' i := by
  obtain ⟨s, A, h1⟩ := h
  exact ⟨s, A, h1.cg (n := 2) (fun k h => wrE_none h) f⟩
theorem w_Au.cg (h : w_Au M i) (f : ∀ a, i ≤ a → a < i + 7 → M'.2 a = M.2 a) : w_Au M' i := by
  obtain ⟨s, A, h1⟩ := h
  exact ⟨s, A, h1.cg (n := 7) (fun k h => auE_none h) f⟩
theorem w_Wa.cg (h : w_Wa M i) (f : ∀ a, i ≤ a → a < i + 2 → M'.2 a = M.2 a) : w_Wa M' i := by
  obtain ⟨W, h1⟩ := h
  exact ⟨W, h1.cg (n := 2) (fun k h => waE_none h) f⟩
theorem w_Sp.cg (h : w_Sp M i) (f : ∀ a, i ≤ a → a < i + 3 → M'.2 a = M.2 a) : w_Sp M' i := by
  obtain ⟨W, h1⟩ := h
  exact ⟨W, h1.cg (n := 3) (fun k h => spE_none h) f⟩
theorem w_Sh.cg (h : w_Sh M i S D tb) (f : ∀ a, i ≤ a → a < i + 5 → M'.2 a = M.2 a) : w_Sh M' i S D tb := by
  obtain ⟨s, A, h1, h2⟩ := h
  exact ⟨s, A, h1.cg (n := 5) (fun k h => shE_none h) f, h2⟩
theorem w_Md.cg (h : w_Md M r s A B) (f : ∀ a, r ≤ a → a < r + 38 → M'.2 a = M.2 a) : w_Md M' r s A B := fun k hk => (f (r + k) (by omega) (by omega)).trans (h k hk)
theorem w_Md.eq (h : w_Md M r s A B) : q_md M r s A B = M := by
  refine Prod.ext rfl (funext fun a => ?_)
  show (if r ≤ a ∧ a < r + 38 then mdE r s A B (a - r) else M.2 a) = M.2 a
  by_cases c : r ≤ a ∧ a < r + 38
  · rw [if_pos c, ← h (a - r) (by omega), show r + (a - r) = a by omega]
  · rw [if_neg c]
theorem w_Md_of : w_Md (q_md M r s A B) r s A B := fun k hk => q_md_k _ _ _ _ _ hk
theorem w_Pa.cg (h : w_Pa M b zp) (hm : M.1 ≤ M'.1) (f : ∀ a x, zp = some a → a ≤ x → x < a + 3 → M'.2 x = M.2 x) : w_Pa M' b zp := fun a ha => by
  obtain ⟨h1, h2, s, A, h3⟩ := h a ha
  exact ⟨h1, by omega, s, A, h3.cg (n := 3) (fun k h => paE_none h) fun x g1 g2 => f a x ha g1 g2⟩
theorem w_Ct.cg (h : w_Ct M a) (f : ∀ x, a ≤ x → x < a + 9 → M'.2 x = M.2 x) : w_Ct M' a := by
  obtain ⟨A, k, l, r, h1, h2, h3⟩ := h
  exact ⟨A, k, l, r, h1.cg (n := 9) (fun k h => caE_none h) f, h2.cg (fun x g1 g2 => f x (by omega) (by omega)), h3⟩
theorem w_Ca.cg (h : w_Ca M b zc) (hm : M.1 ≤ M'.1) (f : ∀ a x, zc = some a → a ≤ x → x < a + 9 → M'.2 x = M.2 x) : w_Ca M' b zc := fun a ha => by
  obtain ⟨h1, h2, h3⟩ := h a ha
  exact ⟨h1, by omega, h3.cg fun x g1 g2 => f a x ha g1 g2⟩
theorem w_Fd.cg {f g c : Nat} (hf : w_Fd M f g c h S D k σ as) (fr : ∀ x, x = f ∨ f + g + 1 ≤ x ∧ x < f + g + 15 → M'.2 x = M.2 x) : w_Fd M' f g c h S D k σ as := by
  obtain ⟨X, s, A, B, sm, Am, μ, z, hX, h1, h2, h3, h4⟩ := hf
  refine ⟨X, s, A, B, sm, Am, μ, z, hX, fun q e hq => ?_, h2.cg (n := 6) (fun k h => meE_none h) fun a g1 g2 => fr a (by omega), h3.cg (n := 3) (fun k h => spE_none h) fun a g1 g2 => fr a (by omega), h4⟩
  rw [fr (f + q) ?_]
  · exact h1 q e hq
  · apply Classical.byContradiction
    intro hn
    rw [fjE_none (by omega) (by omega)] at hq
    cases hq
theorem w_Fi.cg (hf : w_Fi M b h zc zf S D k σ as) (hm : M.1 ≤ M'.1) (fr : ∀ f g x, zf = some (f, g) → x = f ∨ f + g + 1 ≤ x ∧ x < f + g + 15 → M'.2 x = M.2 x) : w_Fi M' b h zc zf S D k σ as := by
  refine ⟨hf.1, fun f g e => ?_⟩
  obtain ⟨h1, h2, c, h3, h4, h5⟩ := hf.2 f g e
  exact ⟨h1, by omega, c, h3, h4, h5.cg fun x hx => fr f g x e hx⟩
end
