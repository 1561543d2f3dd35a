/-! texts read: the pure reader -/
abbrev pR : Type := Nat × Option qT × Nat
def t_join : qT → qT → qT
  | .add a b, y => .add a (t_join b y)
  | x, y => .add x y
/-- how many THENs stand one in the other to the right -/
def t_sl : qT → Nat
  | .add _ b => t_sl b + 1
  | _ => 0
/-- the x of a THEN is no THEN -/
def t_wf : qT → Prop
  | .num _ => True
  | .var _ => True
  | .add x y => t_kind x ≠ 2 ∧ t_wf x ∧ t_wf y
  | .sub x y => t_wf x ∧ t_wf y
  | .neg x => t_wf x
  | .mulL _ x => t_wf x
  | .mulR x _ => t_wf x
theorem t_join_n {x y : qT} (h : t_kind x ≠ 2) : t_join x y = .add x y := by
  cases x with
  | add a b => exact absurd rfl h
  | num _ => rfl
  | var _ => rfl
  | sub _ _ => rfl
  | neg _ => rfl
  | mulL _ _ => rfl
  | mulR _ _ => rfl
theorem t_sl_n {x : qT} (h : t_kind x ≠ 2) : t_sl x = 0 := by
  cases x with
  | add a b => exact absurd rfl h
  | num _ => rfl
  | var _ => rfl
  | sub _ _ => rfl
  | neg _ => rfl
  | mulL _ _ => rfl
  | mulR _ _ => rfl
theorem t_k2 {x : qT} (h : t_kind x = 2) : ∃ a b, x = .add a b := by
  cases x with
  | add a b => exact ⟨a, b, rfl⟩
  | num _ => cases h
  | var _ => cases h
  | sub _ _ => cases h
  | neg _ => cases h
  | mulL _ _ => cases h
  | mulR _ _ => cases h
theorem t_join_wf {y : qT} (hy : t_wf y) : ∀ x : qT, t_wf x → t_wf (t_join x y)
  | .add a b, h => ⟨h.1, h.2.1, t_join_wf hy b h.2.2⟩
  | .num v, h => ⟨by show (0 : Nat) ≠ 2; decide, h, hy⟩
  | .var v, h => ⟨by show (1 : Nat) ≠ 2; decide, h, hy⟩
  | .sub a b, h => ⟨by show (3 : Nat) ≠ 2; decide, h, hy⟩
  | .neg a, h => ⟨by show (4 : Nat) ≠ 2; decide, h, hy⟩
  | .mulL k a, h => ⟨by show (5 : Nat) ≠ 2; decide, h, hy⟩
  | .mulR a k, h => ⟨by show (5 : Nat) ≠ 2; decide, h, hy⟩
theorem t_join_g {y : qT} : ∀ x : qT, g_n (t_join x y) = g_n x + g_n y
  | .add a b => by
    show g_n a + g_n (t_join b y) = g_n a + g_n b + g_n y
    rw [t_join_g b, Nat.add_assoc]
  | .num v => rfl
  | .var v => rfl
  | .sub a b => rfl
  | .neg a => rfl
  | .mulL k a => rfl
  | .mulR a k => rfl
theorem t_join_nd {y : qT} : ∀ x : qT, t_nodes (t_join x y) = t_nodes x + t_nodes y + 1
  | .add a b => by
    show 1 + t_nodes a + t_nodes (t_join b y) = 1 + t_nodes a + t_nodes b + t_nodes y + 1
    rw [t_join_nd b]
    omega
  | .num v => by show 1 + 1 + t_nodes y = 1 + t_nodes y + 1; omega
  | .var v => by show 1 + 1 + t_nodes y = 1 + t_nodes y + 1; omega
  | .sub a b => by show 1 + t_nodes (.sub a b) + t_nodes y = t_nodes (.sub a b) + t_nodes y + 1; omega
  | .neg a => by show 1 + t_nodes (.neg a) + t_nodes y = t_nodes (.neg a) + t_nodes y + 1; omega
  | .mulL k a => by show 1 + t_nodes (.mulL k a) + t_nodes y = t_nodes (.mulL k a) + t_nodes y + 1; omega
  | .mulR a k => by show 1 + t_nodes (.mulR a k) + t_nodes y = t_nodes (.mulR a k) + t_nodes y + 1; omega
theorem t_sl_g : ∀ x : qT, t_sl x + 1 ≤ g_n x
  | .add a b => by
    have := t_sl_g b
    have := g_n_pos a
    show t_sl b + 1 + 1 ≤ g_n a + g_n b
    omega
  | .num v => g_n_pos _
  | .var v => g_n_pos _
  | .sub a b => g_n_pos _
  | .neg a => g_n_pos _
  | .mulL k a => g_n_pos _
  | .mulR a k => g_n_pos _
def p_tk (tp : Nat → Nat) (T h : Nat) : Nat := if h < T then tp h else 256
def p_bind (r : pR) (k : Nat → qT → Nat → pR) : pR := match r.2.1 with
  | none => (r.1, none, r.2.2)
  | some x => k r.1 x r.2.2
theorem p_bind_n {r : pR} {k : Nat → qT → Nat → pR} (h : r.2.1 = none) : p_bind r k = (r.1, none, r.2.2) := by
  unfold p_bind
  rw [h]
theorem p_bind_s {r : pR} {k : Nat → qT → Nat → pR} {x : qT} (h : r.2.1 = some x) : p_bind r k = k r.1 x r.2.2 := by
  unfold p_bind
  rw [h]
def p_add (m : Nat) (r : pR) : pR := (r.1, r.2.1, m + r.2.2)
def p_rep (tk : Nat → Nat) : Nat → Nat → qT → Nat → pR
  | 0, h, x, m => (h, some x, m)
  | f + 1, h, x, m => if tk h = 43 then p_rep tk f (h + 1) (.neg x) (m + 1) else if tk h = 63 then p_rep tk f (h + 1) (.mulL 0 x) (m + 1) else (h, some x, m)
/-- the letters of a class: of the last k ones -/
def p_cls (tk : Nat → Nat) : Nat → Nat → Nat → Nat × Nat
  | 0, h, s => (h, s)
  | k + 1, h, s => if tk h = 99 - k then p_cls tk k (h + 1) (s + 2 ^ (2 - k)) else p_cls tk k h s
def p_set (tk : Nat → Nat) (h : Nat) : pR := if (p_cls tk 3 h 0).2 = 0 ∨ tk (p_cls tk 3 h 0).1 ≠ 93 then ((p_cls tk 3 h 0).1, none, 0) else ((p_cls tk 3 h 0).1 + 1, some (.var (p_cls tk 3 h 0).2), 1)
def p_bg (c : Nat) : Prop := (97 ≤ c ∧ c ≤ 99) ∨ c = 91 ∨ c = 40
/-- modes: 0 either, 1 row, else base -/
noncomputable def p_P (tk : Nat → Nat) : Nat → Nat → Nat → Nat → pR
  | 0, _, _, h => (h, none, 0)
  | f + 1, 0, δ, h => p_bind (p_P tk f 1 δ h) fun h1 x m => if tk h1 = 124 then p_bind (p_add m (p_P tk f 0 δ (h1 + 1))) fun h2 y m2 => (h2, some (.sub x y), m2 + 1) else (h1, some x, m)
  | f + 1, 1, δ, h => p_bind (p_bind (p_P tk f 2 δ h) (p_rep tk 60)) fun h1 x m => @ite _ (p_bg (tk h1)) (Classical.propDecidable _) (p_bind (p_add m (p_P tk f 1 δ h1)) fun h2 y m2 => (h2, some (t_join x y), m2 + (t_sl x + 1))) (h1, some x, m)
  | f + 1, _ + 2, δ, h => if 97 ≤ tk h ∧ tk h ≤ 99 then (h + 1, some (.num ((tk h - 97 : Nat) : Int)), 1) else if tk h = 91 then p_set tk (h + 1) else if tk h = 40 ∧ δ < 6 then p_bind (p_P tk f 0 (δ + 1) (h + 1)) fun h1 x m => if tk h1 = 41 then (h1 + 1, some x, m) else (h1, none, m) else (h, none, 0)
/-- what a reading keeps to -/
def p_B (T δ h w : Nat) (r : pR) : Prop := h ≤ r.1 ∧ r.1 ≤ T ∧ (∀ x, r.2.1 = some x → h < r.1 ∧ t_wf x) ∧ ∃ c k, c + 2 * k ≤ r.1 - h ∧ k + δ ≤ 6 ∧ r.2.2 ≤ c * (2 + k) ∧ ∀ x, r.2.1 = some x → g_n x ≤ c ∧ r.2.2 ≤ c * (w + k)
theorem p_mx {c1 k1 c2 k2 a b : Nat} (h1 : a ≤ c1 * (2 + k1)) (h2 : b ≤ c2 * (2 + k2)) : a + b ≤ (c1 + c2) * (2 + max k1 k2) := by
  have e1 : c1 * (2 + k1) ≤ c1 * (2 + max k1 k2) := Nat.mul_le_mul_left _ (Nat.add_le_add_left (Nat.le_max_left _ _) _)
  have e2 : c2 * (2 + k2) ≤ c2 * (2 + max k1 k2) := Nat.mul_le_mul_left _ (Nat.add_le_add_left (Nat.le_max_right _ _) _)
  rw [Nat.add_mul]
  omega
theorem p_mx_k {c1 k1 c2 k2 n1 n2 δ : Nat} (h1 : c1 + 2 * k1 ≤ n1) (h2 : c2 + 2 * k2 ≤ n2) (g1 : k1 + δ ≤ 6) (g2 : k2 + δ ≤ 6) : c1 + c2 + 2 * max k1 k2 ≤ n1 + n2 ∧ max k1 k2 + δ ≤ 6 := by
  rcases Nat.le_total k1 k2 with h | h
  · rw [Nat.max_eq_right h]; omega
  · rw [Nat.max_eq_left h]; omega
theorem p_12 {c k a : Nat} (h : a ≤ c * (1 + k)) : a ≤ c * (2 + k) := Nat.le_trans h (Nat.mul_le_mul_left _ (by omega))
section
variable {tk : Nat → Nat} {T : Nat}
theorem p_rep_B (hT : ∀ x, T ≤ x → tk x = 256) : ∀ (f h : Nat) (x : qT) (m h0 δ : Nat), h ≤ T → p_B T δ h0 1 (h, some x, m) → p_B T δ h0 1 (p_rep tk f h x m)
  | 0, _, _, _, _, _, _, hB => hB
  | f + 1, h, x, m, h0, δ, hh, hB => by
    obtain ⟨a1, a2, a3, c, k, b1, b2, b3, b4⟩ := hB
    obtain ⟨a4, a5⟩ := a3 x rfl
    obtain ⟨b5, b6⟩ := b4 x rfl
    have a1 : h0 ≤ h := a1
    have b1 : c + 2 * k ≤ h - h0 := b1
    have b6 : m ≤ c * (1 + k) := b6
    have g6 : m + 1 ≤ (c + 1) * (1 + k) := by rw [Nat.add_mul, Nat.one_mul]; omega
    unfold p_rep
    by_cases c1 : tk h = 43
    · rw [if_pos c1]
      have hl : h < T := Nat.lt_of_not_le fun g => by rw [hT h g] at c1; omega
      exact p_rep_B hT f (h + 1) _ _ h0 δ hl ⟨by show h0 ≤ h + 1; omega, hl, fun y e => by cases e; exact ⟨by show h0 < h + 1; omega, a5⟩, c + 1, k, by show c + 1 + 2 * k ≤ h + 1 - h0; omega, b2, p_12 g6, fun y e => by cases e; exact ⟨Nat.le_succ_of_le b5, g6⟩⟩
    · rw [if_neg c1]
      by_cases c2 : tk h = 63
      · rw [if_pos c2]
        have hl : h < T := Nat.lt_of_not_le fun g => by rw [hT h g] at c2; omega
        exact p_rep_B hT f (h + 1) _ _ h0 δ hl ⟨by show h0 ≤ h + 1; omega, hl, fun y e => by cases e; exact ⟨by show h0 < h + 1; omega, a5⟩, c + 1, k, by show c + 1 + 2 * k ≤ h + 1 - h0; omega, b2, p_12 g6, fun y e => by cases e; exact ⟨Nat.le_succ_of_le b5, g6⟩⟩
      · rw [if_neg c2]
        exact ⟨a1, a2, a3, c, k, b1, b2, b3, b4⟩
theorem p_cls_le (hT : ∀ x, T ≤ x → tk x = 256) : ∀ (k h s : Nat), h ≤ T → h ≤ (p_cls tk k h s).1 ∧ (p_cls tk k h s).1 ≤ T
  | 0, h, s, hh => ⟨Nat.le_refl _, hh⟩
  | k + 1, h, s, hh => by
    unfold p_cls
    by_cases c : tk h = 99 - k
    · rw [if_pos c]
      have hl : h < T := Nat.lt_of_not_le fun g => by rw [hT h g] at c; omega
      have := p_cls_le hT k (h + 1) (s + 2 ^ (2 - k)) hl
      omega
    · rw [if_neg c]
      exact p_cls_le hT k h s hh
theorem p_cls_8 : ∀ (h : Nat), (p_cls tk 3 h 0).2 < 8 := by
  intro h
  unfold p_cls p_cls p_cls p_cls
  by_cases c1 : tk h = 99 - 2 <;> simp only [c1, if_true, if_false] <;> by_cases c2 : tk (h + 1) = 99 - 1 <;> by_cases c3 : tk h = 99 - 1 <;> by_cases c4 : tk (h + 1) = 99 - 0 <;> by_cases c5 : tk (h + 1 + 1) = 99 - 0 <;> by_cases c6 : tk h = 99 - 0 <;> simp [c2, c3, c4, c5, c6]
theorem p_P_B (hT : ∀ x, T ≤ x → tk x = 256) : ∀ (f md δ h : Nat), h ≤ T → δ ≤ 6 → p_B T δ h (if md ≤ 1 then 2 else 1) (p_P tk f md δ h)
  | 0, md, δ, h, hh, hδ => ⟨Nat.le_refl _, hh, (fun x e => by cases e), 0, 0, Nat.zero_le _, (by omega), Nat.zero_le _, (fun x e => by cases e)⟩
  | f + 1, 0, δ, h, hh, hδ => by
    have h1 := p_P_B hT f 1 δ h hh hδ
    rw [if_pos (by decide)] at h1 ⊢
    show p_B T δ h 2 (p_bind (p_P tk f 1 δ h) _)
    generalize p_P tk f 1 δ h = r at h1 ⊢
    obtain ⟨a1, a2, a3, c, k, b1, b2, b3, b4⟩ := h1
    cases e : r.2.1 with
    | none =>
      rw [p_bind_n e]
      exact ⟨a1, a2, (fun x e => by cases e), c, k, b1, b2, b3, (fun x e => by cases e)⟩
    | some x =>
      rw [p_bind_s e]
      obtain ⟨a4, a5⟩ := a3 x e
      obtain ⟨b5, b6⟩ := b4 x e
      by_cases c1 : tk r.1 = 124
      · rw [if_pos c1]
        have hl : r.1 < T := Nat.lt_of_not_le fun g => by rw [hT r.1 g] at c1; omega
        have h2 := p_P_B hT f 0 δ (r.1 + 1) hl hδ
        rw [if_pos (by decide)] at h2
        generalize p_P tk f 0 δ (r.1 + 1) = r2 at h2 ⊢
        obtain ⟨a1', a2', a3', c', k', b1', b2', b3', b4'⟩ := h2
        obtain ⟨m1, m2⟩ := p_mx_k b1 b1' b2 b2'
        have m3 := p_mx b3 b3'
        cases e' : r2.2.1 with
        | none =>
          rw [p_bind_n (show (p_add r.2.2 r2).2.1 = none from e')]
          exact ⟨by show h ≤ r2.1; omega, a2', (fun x e => by cases e), c + c', max k k', by show _ ≤ r2.1 - h; omega, m2, m3, (fun x e => by cases e)⟩
        | some y =>
          rw [p_bind_s (show (p_add r.2.2 r2).2.1 = some y from e')]
          obtain ⟨a4', a5'⟩ := a3' y e'
          obtain ⟨b5', b6'⟩ := b4' y e'
          have m4 : r.2.2 + r2.2.2 + 1 ≤ (c + c' + 1) * (2 + max k k') := by
            rw [Nat.add_mul (c + c')]
            omega
          exact ⟨by show h ≤ r2.1; omega, a2', (fun z e => by cases e; exact ⟨by show h < r2.1; omega, a5, a5'⟩), c + c' + 1, max k k', by show _ ≤ r2.1 - h; omega, m2, m4, (fun z e => by cases e; exact ⟨by show g_n x + g_n y ≤ _; omega, m4⟩)⟩
      · rw [if_neg c1]
        exact ⟨a1, a2, (fun z e' => by cases e'; exact ⟨a4, a5⟩), c, k, b1, b2, b3, (fun z e' => by cases e'; exact ⟨b5, b6⟩)⟩
  | f + 1, 1, δ, h, hh, hδ => by
    have h1 := p_P_B hT f 2 δ h hh hδ
    rw [if_neg (by decide)] at h1
    rw [if_pos (by decide)]
    show p_B T δ h 2 (p_bind (p_bind (p_P tk f 2 δ h) (p_rep tk 60)) _)
    have h1 : p_B T δ h 1 (p_bind (p_P tk f 2 δ h) (p_rep tk 60)) := by
      generalize p_P tk f 2 δ h = r at h1 ⊢
      cases e : r.2.1 with
      | none =>
        rw [p_bind_n e]
        obtain ⟨a1, a2, a3, c, k, b1, b2, b3, b4⟩ := h1
        exact ⟨a1, a2, (fun x e => by cases e), c, k, b1, b2, b3, (fun x e => by cases e)⟩
      | some x =>
        rw [p_bind_s e]
        obtain ⟨r1, r2, r3⟩ := r
        cases e
        exact p_rep_B hT 60 r1 x r3 h δ h1.2.1 h1
    generalize p_bind (p_P tk f 2 δ h) (p_rep tk 60) = r at h1 ⊢
    obtain ⟨a1, a2, a3, c, k, b1, b2, b3, b4⟩ := h1
    cases e : r.2.1 with
    | none =>
      rw [p_bind_n e]
      exact ⟨a1, a2, (fun x e => by cases e), c, k, b1, b2, b3, (fun x e => by cases e)⟩
    | some x =>
      rw [p_bind_s e]
      obtain ⟨a4, a5⟩ := a3 x e
      obtain ⟨b5, b6⟩ := b4 x e
      by_cases c1 : p_bg (tk r.1)
      · rw [if_pos c1]
        have h2 := p_P_B hT f 1 δ r.1 a2 hδ
        rw [if_pos (by decide)] at h2
        generalize p_P tk f 1 δ r.1 = r2 at h2 ⊢
        obtain ⟨a1', a2', a3', c', k', b1', b2', b3', b4'⟩ := h2
        obtain ⟨m1, m2⟩ := p_mx_k b1 b1' b2 b2'
        have m3 := p_mx b3 b3'
        cases e' : r2.2.1 with
        | none =>
          rw [p_bind_n (show (p_add r.2.2 r2).2.1 = none from e')]
          exact ⟨by show h ≤ r2.1; omega, a2', (fun x e => by cases e), c + c', max k k', by show _ ≤ r2.1 - h; omega, m2, m3, (fun x e => by cases e)⟩
        | some y =>
          rw [p_bind_s (show (p_add r.2.2 r2).2.1 = some y from e')]
          obtain ⟨a4', a5'⟩ := a3' y e'
          obtain ⟨b5', b6'⟩ := b4' y e'
          have hs := t_sl_g x
          have m4 : r.2.2 + r2.2.2 + (t_sl x + 1) ≤ (c + c') * (2 + max k k') := by
            have g1 : r.2.2 + (t_sl x + 1) ≤ c * (2 + k) := by
              rw [show c * (2 + k) = c * (1 + k) + c by rw [show 2 + k = 1 + k + 1 by omega, Nat.mul_succ]]
              omega
            have g2 := p_mx g1 b3'
            omega
          exact ⟨by show h ≤ r2.1; omega, a2', (fun z e => by cases e; exact ⟨by show h < r2.1; omega, t_join_wf a5' x a5⟩), c + c', max k k', by show _ ≤ r2.1 - h; omega, m2, m4, (fun z e => by cases e; exact ⟨by rw [t_join_g]; omega, m4⟩)⟩
      · rw [if_neg c1]
        exact ⟨a1, a2, (fun z e' => by cases e'; exact ⟨a4, a5⟩), c, k, b1, b2, b3, (fun z e' => by cases e'; exact ⟨b5, p_12 b6⟩)⟩
  | f + 1, md + 2, δ, h, hh, hδ => by
    rw [if_neg (by omega)]
    show p_B T δ h 1 (if 97 ≤ tk h ∧ tk h ≤ 99 then (h + 1, some (.num ((tk h - 97 : Nat) : Int)), 1) else if tk h = 91 then p_set tk (h + 1) else if tk h = 40 ∧ δ < 6 then p_bind (p_P tk f 0 (δ + 1) (h + 1)) (fun h1 x m => if tk h1 = 41 then (h1 + 1, some x, m) else (h1, none, m)) else (h, none, 0))
    have hlt : tk h ≠ 256 → h < T := fun g => Nat.lt_of_not_le fun g' => g (hT h g')
    by_cases c1 : 97 ≤ tk h ∧ tk h ≤ 99
    · rw [if_pos c1]
      have hl := hlt (by omega)
      exact ⟨by show h ≤ h + 1; omega, hl, (fun z e => by cases e; exact ⟨by show h < h + 1; omega, trivial⟩), 1, 0, by show 1 ≤ h + 1 - h; omega, by omega, by show 1 ≤ 1 * 2; omega, (fun z e => by cases e; exact ⟨Nat.le_refl 1, by show 1 ≤ 1 * 1; omega⟩)⟩
    · rw [if_neg c1]
      by_cases c2 : tk h = 91
      · rw [if_pos c2]
        have hl := hlt (by omega)
        obtain ⟨g1, g2⟩ := p_cls_le hT 3 (h + 1) 0 hl
        unfold p_set
        by_cases c3 : (p_cls tk 3 (h + 1) 0).2 = 0 ∨ tk (p_cls tk 3 (h + 1) 0).1 ≠ 93
        · rw [if_pos c3]
          exact ⟨by show h ≤ (p_cls tk 3 (h + 1) 0).1; omega, g2, (fun x e => by cases e), 0, 0, Nat.zero_le _, by omega, Nat.zero_le _, (fun x e => by cases e)⟩
        · rw [if_neg c3]
          have hl2 : (p_cls tk 3 (h + 1) 0).1 < T := Nat.lt_of_not_le fun g => c3 (Or.inr (by rw [hT _ g]; decide))
          exact ⟨by show h ≤ (p_cls tk 3 (h + 1) 0).1 + 1; omega, hl2, (fun z e => by cases e; exact ⟨by show h < (p_cls tk 3 (h + 1) 0).1 + 1; omega, trivial⟩), 1, 0, by show 1 ≤ (p_cls tk 3 (h + 1) 0).1 + 1 - h; omega, by omega, by show 1 ≤ 1 * 2; omega, (fun z e => by cases e; exact ⟨Nat.le_refl 1, by show 1 ≤ 1 * 1; omega⟩)⟩
      · rw [if_neg c2]
        by_cases c3 : tk h = 40 ∧ δ < 6
        · rw [if_pos c3]
          have hl := hlt (by omega)
          have h2 := p_P_B hT f 0 (δ + 1) (h + 1) hl (by omega)
          rw [if_pos (by decide)] at h2
          generalize p_P tk f 0 (δ + 1) (h + 1) = r at h2 ⊢
          obtain ⟨a1, a2, a3, c, k, b1, b2, b3, b4⟩ := h2
          cases e : r.2.1 with
          | none =>
            rw [p_bind_n e]
            exact ⟨by show h ≤ r.1; omega, a2, (fun x e => by cases e), c, k, by show _ ≤ r.1 - h; omega, by omega, b3, (fun x e => by cases e)⟩
          | some x =>
            rw [p_bind_s e]
            obtain ⟨a4, a5⟩ := a3 x e
            obtain ⟨b5, b6⟩ := b4 x e
            by_cases c4 : tk r.1 = 41
            · rw [if_pos c4]
              have hl2 : r.1 < T := Nat.lt_of_not_le fun g => by rw [hT r.1 g] at c4; omega
              have e2 : 1 + (k + 1) = 2 + k := by omega
              exact ⟨by show h ≤ r.1 + 1; omega, hl2, (fun z e' => by cases e'; exact ⟨by show h < r.1 + 1; omega, a5⟩), c, k + 1, by show _ ≤ r.1 + 1 - h; omega, by omega, p_12 (by rw [e2]; exact b3), (fun z e' => by cases e'; exact ⟨b5, by rw [e2]; exact b3⟩)⟩
            · rw [if_neg c4]
              exact ⟨by show h ≤ r.1; omega, a2, (fun x e => by cases e), c, k, by show _ ≤ r.1 - h; omega, by omega, b3, (fun x e => by cases e)⟩
        · rw [if_neg c3]
          exact ⟨Nat.le_refl _, hh, (fun x e => by cases e), 0, 0, Nat.zero_le _, by omega, Nat.zero_le _, (fun x e => by cases e)⟩
end
theorem p_384 {T δ h w : Nat} {r : pR} (hT : T ≤ 60) (hB : p_B T δ h w r) : r.2.2 ≤ 384 := by
  obtain ⟨a1, a2, a3, c, k, b1, b2, b3, b4⟩ := hB
  have hk : k ≤ 6 := by omega
  have key : c * (2 + k) ≤ (60 - 2 * k) * (2 + k) := Nat.mul_le_mul_right _ (by omega)
  have h7 : ∀ k, k ≤ 6 → (60 - 2 * k) * (2 + k) ≤ 384 := by
    intro k hk
    rcases (show k = 0 ∨ k = 1 ∨ k = 2 ∨ k = 3 ∨ k = 4 ∨ k = 5 ∨ k = 6 by omega) with e | e | e | e | e | e | e <;> subst e <;> decide
  have := h7 k hk
  omega
