/-! how many meanings there are: 1284 -/
noncomputable def u_in (T : Lean.RArray Nat) (x : Nat) : Bool := Lean.RArray.rec (motive := fun _ => Bool) (fun a => Nat.beq a x) (fun p _ _ l r => cond (Nat.ble p x) r l) T
noncomputable def u_all (T : Lean.RArray Nat) (f : Nat → Bool) : Bool := Lean.RArray.rec (motive := fun _ => Bool) f (fun _ _ _ l r => cond l r false) T
noncomputable def u_L (T : Lean.RArray Nat) : List Nat := Lean.RArray.rec (motive := fun _ => List Nat) (fun a => [a]) (fun _ _ _ l r => l ++ r) T
theorem u_in_L {x : Nat} : ∀ T : Lean.RArray Nat, u_in T x = true → x ∈ u_L T
  | .leaf a, h => by
    have h : Nat.beq a x = true := h
    have e : a = x := Nat.eq_of_beq_eq_true h
    show x ∈ [a]
    rw [e]
    exact List.mem_singleton.mpr rfl
  | .branch p l r, h => by
    have h : cond (Nat.ble p x) (u_in r x) (u_in l x) = true := h
    show x ∈ u_L l ++ u_L r
    rw [List.mem_append]
    cases hb : Nat.ble p x with
    | true => rw [hb] at h; exact Or.inr (u_in_L r h)
    | false => rw [hb] at h; exact Or.inl (u_in_L l h)
theorem u_all_at {f : Nat → Bool} {x : Nat} : ∀ T : Lean.RArray Nat, u_all T f = true → x ∈ u_L T → f x = true
  | .leaf a, h, hx => by
    have hx : x ∈ [a] := hx
    rw [List.mem_singleton.mp hx]
    exact h
  | .branch p l r, h, hx => by
    have h : cond (u_all l f) (u_all r f) false = true := h
    have hx : x ∈ u_L l ++ u_L r := hx
    rw [List.mem_append] at hx
    cases hb : u_all l f with
    | true =>
      rw [hb] at h
      exact hx.elim (u_all_at l hb) (u_all_at r h)
    | false => rw [hb] at h; cases h
noncomputable def u_has (x c : Nat) : Bool := Nat.rec (motive := fun _ => Bool) false (fun k ih => cond (Nat.ble 1 k) (cond (u_in (u_t (k + 1)) x) true ih) false) c
theorem u_has_L {x : Nat} : ∀ c, u_has x c = true → ∃ k, 2 ≤ k ∧ k ≤ c ∧ x ∈ u_L (u_t k)
  | 0, h => by cases h
  | c + 1, h => by
    have h : cond (Nat.ble 1 c) (cond (u_in (u_t (c + 1)) x) true (u_has x c)) false = true := h
    cases h1 : Nat.ble 1 c with
    | false => rw [h1] at h; cases h
    | true =>
      rw [h1] at h
      have h : cond (u_in (u_t (c + 1)) x) true (u_has x c) = true := h
      cases h2 : u_in (u_t (c + 1)) x with
      | true => exact ⟨c + 1, by have := Nat.le_of_ble_eq_true h1; omega, Nat.le_refl _, u_in_L _ h2⟩
      | false =>
        rw [h2] at h
        obtain ⟨k, k1, k2, k3⟩ := u_has_L c h
        exact ⟨k, k1, by omega, k3⟩
/-- the bits: the row of n letters with number v among these stands at u_o n + v -/
def u_o : Nat → Nat
  | 0 => 0
  | 1 => 1
  | 2 => 4
  | 3 => 13
  | _ => 40
theorem u_o_inj {n v n' v' : Nat} (hn : n ≤ 4) (hv : v < 3 ^ n) (hn' : n' ≤ 4) (hv' : v' < 3 ^ n') (h : u_o n + v = u_o n' + v') : n = n' ∧ v = v' := by
  have p0 : 3 ^ 0 = 1 := rfl
  have p1 : 3 ^ 1 = 3 := rfl
  have p2 : 3 ^ 2 = 9 := rfl
  have p3 : 3 ^ 3 = 27 := rfl
  have p4 : 3 ^ 4 = 81 := rfl
  rcases (show n = 0 ∨ n = 1 ∨ n = 2 ∨ n = 3 ∨ n = 4 by omega) with g | g | g | g | g <;> subst g <;> rcases (show n' = 0 ∨ n' = 1 ∨ n' = 2 ∨ n' = 3 ∨ n' = 4 by omega) with g | g | g | g | g <;> subst g <;> simp [u_o] at h hv hv' <;> omega
def u_R (P : Nat) (S : Nat → Nat → Prop) : Prop := ∀ n v, n ≤ 4 → v < 3 ^ n → (P.testBit (u_o n + v) = true ↔ S n v)
theorem u_R.cg {P : Nat} {S S' : Nat → Nat → Prop} (h : u_R P S) (g : ∀ n v, n ≤ 4 → v < 3 ^ n → (S n v ↔ S' n v)) : u_R P S' := fun n v hn hv => (h n v hn hv).trans (g n v hn hv)
theorem u_R.or {P Q : Nat} {S S' : Nat → Nat → Prop} (h : u_R P S) (h' : u_R Q S') : u_R (P ||| Q) (fun n v => S n v ∨ S' n v) := fun n v hn hv => by
  rw [Nat.testBit_or, Bool.or_eq_true, h n v hn hv, h' n v hn hv]
/-- each bit of A brings B in its own place, w wide -/
noncomputable def u_sp (W B n : Nat) : Nat → Nat := Nat.rec (motive := fun _ => Nat → Nat) (fun _ => 0) (fun _ ih A => cond (Nat.beq A 0) 0 (Nat.add (Nat.mul W (ih (Nat.div A 2))) (Nat.mul (Nat.mod A 2) B))) n
theorem u_sp_b {w B : Nat} (hB : B < 2 ^ w) (hw : 0 < w) : ∀ (n A x : Nat), (u_sp (2 ^ w) B n A).testBit x = true ↔ x / w < n ∧ A.testBit (x / w) = true ∧ B.testBit (x % w) = true
  | 0, A, x => by
    show (0 : Nat).testBit x = true ↔ _
    rw [Nat.zero_testBit]
    exact ⟨fun h => (by cases h), fun h => absurd h.1 (Nat.not_lt_zero _)⟩
  | n + 1, A, x => by
    show (cond (Nat.beq A 0) 0 (2 ^ w * u_sp (2 ^ w) B n (A / 2) + A % 2 * B)).testBit x = true ↔ _
    cases h0 : Nat.beq A 0 with
    | true =>
      have e : A = 0 := Nat.eq_of_beq_eq_true h0
      rw [e]
      show (0 : Nat).testBit x = true ↔ _
      rw [Nat.zero_testBit, Nat.zero_testBit]
      exact ⟨fun h => (by cases h), fun h => (by cases h.2.1)⟩
    | false =>
      show (2 ^ w * u_sp (2 ^ w) B n (A / 2) + A % 2 * B).testBit x = true ↔ _
      have hb : A % 2 * B < 2 ^ w := by
        rcases Nat.mod_two_eq_zero_or_one A with h | h
        · rw [h, Nat.zero_mul]; exact Nat.lt_of_le_of_lt (Nat.zero_le _) hB
        · rw [h, Nat.one_mul]; exact hB
      rw [Nat.testBit_two_pow_mul_add _ hb]
      by_cases hx : x < w
      · rw [if_pos hx, Nat.div_eq_of_lt hx, Nat.mod_eq_of_lt hx, Nat.testBit_zero]
        rcases Nat.mod_two_eq_zero_or_one A with h | h
        · rw [h, Nat.zero_mul, Nat.zero_testBit]
          exact ⟨fun h => (by cases h), fun h => (by cases h.2.1)⟩
        · rw [h, Nat.one_mul]
          exact ⟨fun h => ⟨Nat.succ_pos _, rfl, h⟩, fun h => h.2.2⟩
      · have hx : w ≤ x := Nat.le_of_not_lt hx
        rw [if_neg (Nat.not_lt.mpr hx), u_sp_b hB hw n (A / 2) (x - w), Nat.div_eq_sub_div hw hx, Nat.mod_eq_sub_mod hx, Nat.testBit_add_one, Nat.add_lt_add_iff_right]
/-- the rows of n letters alone -/
def u_bk (P n : Nat) : Nat := Nat.mod (Nat.div P (2 ^ u_o n)) (2 ^ 3 ^ n)
theorem u_bk_lt (P n : Nat) : u_bk P n < 2 ^ 3 ^ n := Nat.mod_lt _ (Nat.two_pow_pos _)
theorem u_bk_b {P n q : Nat} : (u_bk P n).testBit q = true ↔ q < 3 ^ n ∧ P.testBit (u_o n + q) = true := by
  show (P / 2 ^ u_o n % 2 ^ 3 ^ n).testBit q = true ↔ _
  rw [Nat.testBit_mod_two_pow, Bool.and_eq_true, decide_eq_true_iff, Nat.testBit_div_two_pow, Nat.add_comm q (u_o n)]
noncomputable def u_p (P Q m k : Nat) : Nat := Nat.mul (2 ^ u_o (m + k)) (u_sp (2 ^ 3 ^ k) (u_bk Q k) (3 ^ m) (u_bk P m))
def u_ps : List (Nat × Nat) := [(0, 0), (0, 1), (0, 2), (0, 3), (0, 4), (1, 0), (1, 1), (1, 2), (1, 3), (2, 0), (2, 1), (2, 2), (3, 0), (3, 1), (4, 0)]
noncomputable def u_jl (P Q : Nat) (l : List (Nat × Nat)) : Nat := List.rec (motive := fun _ => Nat) 0 (fun e _ ih => Nat.lor (u_p P Q e.1 e.2) ih) l
theorem u_jl_b {P Q x : Nat} : ∀ l, (u_jl P Q l).testBit x = true ↔ ∃ m k, (m, k) ∈ l ∧ (u_p P Q m k).testBit x = true
  | [] => by
    show (0 : Nat).testBit x = true ↔ _
    rw [Nat.zero_testBit]
    exact ⟨fun h => (by cases h), fun ⟨m, k, h, _⟩ => (by cases h)⟩
  | (m0, k0) :: l => by
    show (u_p P Q m0 k0 ||| u_jl P Q l).testBit x = true ↔ _
    rw [Nat.testBit_or, Bool.or_eq_true, u_jl_b l]
    constructor
    · rintro (h | ⟨m, k, h1, h2⟩)
      · exact ⟨m0, k0, List.mem_cons_self, h⟩
      · exact ⟨m, k, List.mem_cons_of_mem _ h1, h2⟩
    · rintro ⟨m, k, h1, h2⟩
      rcases List.mem_cons.mp h1 with g | g
      · cases g
        exact Or.inl h2
      · exact Or.inr ⟨m, k, g, h2⟩
theorem u_ps_le : ∀ e : Nat × Nat, e ∈ u_ps → e.1 + e.2 ≤ 4 := by decide
theorem u_ps_mem {n m : Nat} (hn : n ≤ 4) (h : m ≤ n) : (m, n - m) ∈ u_ps := by
  rcases (show n = 0 ∨ n = 1 ∨ n = 2 ∨ n = 3 ∨ n = 4 by omega) with g | g | g | g | g <;> subst g <;> rcases (show m = 0 ∨ m = 1 ∨ m = 2 ∨ m = 3 ∨ m = 4 by omega) with g | g | g | g | g <;> subst g <;> first | exact absurd h (by decide) | simp [u_ps]
noncomputable def u_j (P Q : Nat) : Nat := u_jl P Q u_ps
theorem u_j_R {P Q : Nat} {Sa Sb : Nat → Nat → Prop} (ha : u_R P Sa) (hb : u_R Q Sb) : u_R (u_j P Q) (z_J Sa Sb) := fun n v hn hv => by
  have key : ∀ m k, m + k ≤ 4 → ((u_p P Q m k).testBit (u_o n + v) = true ↔ n = m + k ∧ Sa m (v / 3 ^ k) ∧ Sb k (v % 3 ^ k)) := by
    intro m k hmk
    have pk : 0 < 3 ^ k := Nat.pow_pos (by decide)
    show (2 ^ u_o (m + k) * u_sp (2 ^ 3 ^ k) (u_bk Q k) (3 ^ m) (u_bk P m)).testBit (u_o n + v) = true ↔ _
    rw [Nat.testBit_two_pow_mul, Bool.and_eq_true, decide_eq_true_iff, u_sp_b (u_bk_lt Q k) pk, u_bk_b, u_bk_b]
    constructor
    · rintro ⟨h0, h1, ⟨-, h2⟩, ⟨h3, h4⟩⟩
      generalize hy : u_o n + v - u_o (m + k) = y at *
      have hy1 : y < 3 ^ (m + k) := by
        rw [Nat.pow_add]
        exact (Nat.div_lt_iff_lt_mul pk).mp h1
      obtain ⟨e1, e2⟩ := u_o_inj hn hv hmk hy1 (by omega)
      rw [← e2] at h1 h2 h3 h4
      exact ⟨e1, (ha m _ (by omega) h1).mp h2, (hb k _ (by omega) h3).mp h4⟩
    · rintro ⟨e, h1, h2⟩
      subst e
      have hd : v / 3 ^ k < 3 ^ m := by
        rw [Nat.div_lt_iff_lt_mul pk, ← Nat.pow_add]
        exact hv
      have hm : v % 3 ^ k < 3 ^ k := Nat.mod_lt _ pk
      rw [Nat.add_sub_cancel_left]
      exact ⟨Nat.le_add_right _ _, hd, ⟨hd, (ha m _ (by omega) hd).mpr h1⟩, hm, (hb k _ (by omega) hm).mpr h2⟩
  show (u_jl P Q u_ps).testBit (u_o n + v) = true ↔ _
  rw [u_jl_b]
  constructor
  · rintro ⟨m, k, h1, h2⟩
    have hmk : m + k ≤ 4 := u_ps_le _ h1
    obtain ⟨e, h3, h4⟩ := (key m k hmk).mp h2
    subst e
    exact ⟨m, Nat.le_add_right _ _, by rw [Nat.add_sub_cancel_left]; exact h3, by rw [Nat.add_sub_cancel_left]; exact h4⟩
  · rintro ⟨m, h0, h1, h2⟩
    exact ⟨m, n - m, u_ps_mem hn h0, (key m (n - m) (by omega)).mpr ⟨by omega, h1, h2⟩⟩
/-- one part more -/
noncomputable def u_st (P M : Nat) : Nat := Nat.lor M (u_j M P)
theorem u_st_R {P M k : Nat} {t : qT} (h : u_R P (z_S t)) (hM : u_R M (z_C t k)) : u_R (u_st P M) (z_C t (k + 1)) := (hM.or (u_j_R hM h)).cg fun _ _ hn hv => (z_C_s hn hv).symm
noncomputable def u_g (P : Nat) : Nat := u_st P (u_st P (u_st P P))
theorem u_g_R {P : Nat} {t : qT} (h : u_R P (z_S t)) : u_R (u_g P) (z_S (.neg t)) := (u_st_R h (u_st_R h (u_st_R h (h.cg fun _ _ _ _ => z_C_0.symm)))).cg fun _ _ hn hv => (z_S_neg hn hv).symm
theorem u_num_R {v : Int} (h3 : v.toNat < 3) : u_R (2 ^ (1 + v.toNat)) (z_S (.num v)) := fun n u hn hu => by
  rw [z_S_num hn hu, Nat.testBit_two_pow, decide_eq_true_iff]
  constructor
  · intro h
    obtain ⟨e1, e2⟩ := u_o_inj (n := 1) (v := v.toNat) (by decide) h3 hn hu h
    exact ⟨e1.symm, e2.symm⟩
  · rintro ⟨e1, e2⟩
    subst e1 e2
    rfl
theorem u_var_R {s : Nat} (h8 : s < 8) : u_R (2 ^ 1 * s) (z_S (.var s)) := fun n u hn hu => by
  rw [z_S_var hn hu, Nat.testBit_two_pow_mul, Bool.and_eq_true, decide_eq_true_iff]
  constructor
  · rintro ⟨h1, h2⟩
    have hl : u_o n + u - 1 < 3 := Nat.lt_of_not_le fun g => by
      rw [Nat.testBit_lt_two_pow (Nat.lt_of_lt_of_le h8 (Nat.pow_le_pow_right (n := 2) (i := 3) (by decide) g))] at h2
      cases h2
    obtain ⟨e1, e2⟩ := u_o_inj (n := 1) (v := u_o n + u - 1) (by decide) hl hn hu (by show 1 + _ = _; omega)
    exact ⟨e1.symm, by rw [← e2]; exact h2⟩
  · rintro ⟨e1, e2⟩
    subst e1
    refine ⟨?_, ?_⟩
    · show 1 ≤ 1 + u; omega
    · show s.testBit (1 + u - 1) = true
      rw [Nat.add_sub_cancel_left]
      exact e2
theorem u_may_R {P : Nat} {t : qT} {q : Int} (h : u_R P (z_S t)) : u_R (Nat.lor P 1) (z_S (.mulL q t)) := fun n v hn hv => by
  show (P ||| 2 ^ 0).testBit (u_o n + v) = true ↔ (z_S t n v ∨ (0 = n ∧ 0 ≤ n))
  rw [Nat.testBit_or, Bool.or_eq_true, h n v hn hv, Nat.testBit_two_pow, decide_eq_true_iff]
  constructor
  · rintro (g | g)
    · exact Or.inl g
    · obtain ⟨e1, -⟩ := u_o_inj (n := 0) (v := 0) (by decide) (by decide) hn hv g
      exact Or.inr ⟨e1, Nat.zero_le _⟩
  · rintro (g | ⟨g, -⟩)
    · exact Or.inl g
    · subst g
      have hv : v < 1 := hv
      have e : v = 0 := by omega
      subst e
      exact Or.inr rfl
/-- the table is closed under all kinds -/
noncomputable def u_ck2 (own : Nat) (f : Nat → Nat → Nat) : Bool := (List.range 11).all fun x => (List.range 11).all fun y => cond (Nat.ble 2 x) (cond (Nat.ble 2 y) (cond (Nat.ble (x + y + own) 10) (u_all (u_t x) fun a => u_all (u_t y) fun b => u_has (f a b) (x + y + own)) true) true) true
theorem u_ck2_at {own : Nat} {f : Nat → Nat → Nat} (h : u_ck2 own f = true) {x y a b : Nat} (hx : 2 ≤ x) (hy : 2 ≤ y) (hl : x + y + own ≤ 10) (ha : a ∈ u_L (u_t x)) (hb : b ∈ u_L (u_t y)) : u_has (f a b) (x + y + own) = true := by
  unfold u_ck2 at h
  have h1 := List.all_eq_true.mp h x (List.mem_range.mpr (by omega))
  have h2 := List.all_eq_true.mp h1 y (List.mem_range.mpr (by omega))
  rw [Nat.ble_eq_true_of_le hx, Nat.ble_eq_true_of_le hy, Nat.ble_eq_true_of_le hl] at h2
  have h3 : u_all (u_t y) (fun b => u_has (f a b) (x + y + own)) = true := u_all_at (f := fun a => u_all (u_t y) fun b => u_has (f a b) (x + y + own)) _ h2 ha
  exact u_all_at (f := fun b => u_has (f a b) (x + y + own)) _ h3 hb
noncomputable def u_ck1 (f : Nat → Nat) : Bool := (List.range 11).all fun x => cond (Nat.ble 2 x) (cond (Nat.ble (x + 2) 10) (u_all (u_t x) fun a => u_has (f a) (x + 2)) true) true
theorem u_ck1_at {f : Nat → Nat} (h : u_ck1 f = true) {x a : Nat} (hx : 2 ≤ x) (hl : x + 2 ≤ 10) (ha : a ∈ u_L (u_t x)) : u_has (f a) (x + 2) = true := by
  unfold u_ck1 at h
  have h1 := List.all_eq_true.mp h x (List.mem_range.mpr (by omega))
  rw [Nat.ble_eq_true_of_le hx, Nat.ble_eq_true_of_le hl] at h1
  exact u_all_at (f := fun a => u_has (f a) (x + 2)) _ h1 ha
set_option maxRecDepth 100000 in
theorem u_ck_j : u_ck2 1 u_j = true := by decide +kernel
set_option maxRecDepth 100000 in
theorem u_ck_o : u_ck2 2 Nat.lor = true := by decide +kernel
set_option maxRecDepth 100000 in
theorem u_ck_g : u_ck1 u_g = true := by decide +kernel
set_option maxRecDepth 100000 in
theorem u_ck_m : u_ck1 (fun a => Nat.lor a 1) = true := by decide +kernel
theorem u_ck_a : ∀ v : Nat, v < 3 → u_has (2 ^ (1 + v)) 2 = true := by decide +kernel
theorem u_ck_b : ∀ s : Nat, s < 8 → (1 ≤ s → u_has (2 ^ 1 * s) 3 = true) := by decide +kernel
/-- each pattern's meaning stands there -/
theorem u_cat : ∀ (g p : Nat), p < g → p < 4937 → ∃ c P, 2 ≤ c ∧ c ≤ t_cost (e_t p) ∧ P ∈ u_L (u_t c) ∧ u_R P (z_S (e_t p))
  | 0, p, h, _ => absurd h (Nat.not_lt_zero _)
  | g + 1, p, hg, hp => by
    obtain ⟨x, y, h⟩ := e_at hp
    obtain ⟨-, hE, -, hc, -⟩ := k_E_11 h
    have hc : t_cost (e_t p) ≤ 10 := hc
    have hE : k_E (k_T 11) p x y (e_t p) := hE
    have ih : ∀ q u, q < p → k_at (k_T 11) q u → ∃ c P, 2 ≤ c ∧ c ≤ t_cost u ∧ P ∈ u_L (u_t c) ∧ u_R P (z_S u) := fun q u hq hu => by
      have e : e_t q = u := k_at_t hu
      have := u_cat g q (by omega) (by omega)
      rw [e] at this
      exact this
    clear h
    generalize e_t p = t at hE hc ⊢
    cases t with
    | num v =>
      obtain ⟨-, -, -, h3⟩ := hE
      obtain ⟨k, k1, k2, k3⟩ := u_has_L _ (u_ck_a _ h3)
      exact ⟨k, _, k1, k2, k3, u_num_R h3⟩
    | var s =>
      obtain ⟨-, -, h1, h8⟩ := hE
      obtain ⟨k, k1, k2, k3⟩ := u_has_L _ (u_ck_b _ h8 h1)
      exact ⟨k, _, k1, k2, k3, u_var_R h8⟩
    | add u w =>
      obtain ⟨h1, h2, h3, h4⟩ := hE
      obtain ⟨cu, Pu, u1, u2, u3, u4⟩ := ih x u h1 h3
      obtain ⟨cw, Pw, w1, w2, w3, w4⟩ := ih y w h2 h4
      have hc : 1 + t_cost u + t_cost w ≤ 10 := hc
      obtain ⟨k, k1, k2, k3⟩ := u_has_L _ (u_ck2_at u_ck_j u1 w1 (by omega) u3 w3)
      exact ⟨k, _, k1, by show k ≤ 1 + t_cost u + t_cost w; omega, k3, (u_j_R u4 w4).cg fun _ _ hn hv => (z_S_add hn hv).symm⟩
    | sub u w =>
      obtain ⟨h1, h2, h3, h4⟩ := hE
      obtain ⟨cu, Pu, u1, u2, u3, u4⟩ := ih x u h1 h3
      obtain ⟨cw, Pw, w1, w2, w3, w4⟩ := ih y w h2 h4
      have hc : 2 + t_cost u + t_cost w ≤ 10 := hc
      obtain ⟨k, k1, k2, k3⟩ := u_has_L _ (u_ck2_at u_ck_o u1 w1 (by omega) u3 w3)
      exact ⟨k, _, k1, by show k ≤ 2 + t_cost u + t_cost w; omega, k3, u4.or w4⟩
    | neg u =>
      obtain ⟨h1, -, h3⟩ := hE
      obtain ⟨cu, Pu, u1, u2, u3, u4⟩ := ih x u h1 h3
      have hc : 2 + t_cost u ≤ 10 := hc
      obtain ⟨k, k1, k2, k3⟩ := u_has_L _ (u_ck1_at u_ck_g u1 (by omega) u3)
      exact ⟨k, _, k1, by show k ≤ 2 + t_cost u; omega, k3, u_g_R u4⟩
    | mulL q u =>
      obtain ⟨-, h1, -, h3⟩ := hE
      obtain ⟨cu, Pu, u1, u2, u3, u4⟩ := ih x u h1 h3
      have hc : 2 + t_cost u ≤ 10 := hc
      obtain ⟨k, k1, k2, k3⟩ := u_has_L _ (u_ck1_at u_ck_m u1 (by omega) u3)
      exact ⟨k, _, k1, by show k ≤ 2 + t_cost u; omega, k3, u_may_R u4⟩
    | mulR u q => exact hE.elim
noncomputable def u_U : List Nat := (List.range 9).flatMap fun c => u_L (u_t (c + 2))
theorem u_U_len : u_U.length = 1284 := by decide +kernel
/-- at place i of the table -/
def u_I (p i : Nat) : Prop := ∃ P, u_U[i]? = some P ∧ u_R P (z_S (e_t p))
theorem u_I_ex {p : Nat} (hp : p < 4937) : ∃ i, i < 1284 ∧ u_I p i := by
  obtain ⟨c, P, h1, h2, h3, h4⟩ := u_cat (p + 1) p (Nat.lt_succ_self _) hp
  have hc := (e_c hp).2.1
  have hm : P ∈ u_U := List.mem_flatMap.mpr ⟨c - 2, List.mem_range.mpr (by omega), by rw [Nat.sub_add_cancel h1]; exact h3⟩
  obtain ⟨i, hi, e⟩ := List.mem_iff_getElem.mp hm
  exact ⟨i, by rw [← u_U_len]; exact hi, P, by rw [List.getElem?_eq_getElem hi, e], h4⟩
theorem u_I_eq {p q i : Nat} (h : u_I p i) (h' : u_I q i) : ∀ n v, n ≤ 4 → v < 3 ^ n → (z_S (e_t p) n v ↔ z_S (e_t q) n v) := by
  obtain ⟨P, h1, h2⟩ := h
  obtain ⟨P', g1, g2⟩ := h'
  rw [h1] at g1
  cases g1
  exact fun n v hn hv => (h2 n v hn hv).symm.trans (g2 n v hn hv)
theorem z_M_sg {K : Nat → Int32} {m : Nat} {t t' : qT} (h : ∀ n v, n ≤ 4 → v < 3 ^ n → (z_S t n v ↔ z_S t' n v)) (hM : z_M K m t) : z_M K m t' := by
  obtain ⟨W, h1, h2⟩ := hM
  exact ⟨W, h1.congr h, h2⟩
theorem z_M_2 {K : Nat → Int32} {m m' : Nat} {t : qT} (hM : z_M K m t) (hM' : z_M K m' t) : z_same (z_kw K m) (z_kw K m') := by
  obtain ⟨W, h1, h2⟩ := hM
  obtain ⟨V, g1, g2⟩ := hM'
  exact fun j hj => by rw [h2 j hj, g2 j hj, z_R_eq h1 g1 j hj]
/-- a new one finds room -/
theorem u_room {K SL : Nat → Int32} {n p : Nat} {μ : Nat → Nat} (hH : z_HT K SL n) (hp : p < 4937) (hM : ∀ q, q < p → μ q < n ∧ z_M K (μ q) (e_t q)) (hs : ∀ m, m < n → ∃ q, q < p ∧ μ q = m) (hno : ∀ m, m < n → ¬ z_M K m (e_t p)) : n < 1284 := by
  have ex : ∀ m, ∃ i, m < n + 1 → i < 1284 ∧ ∃ q, u_I q i ∧ ((m < n ∧ z_M K m (e_t q)) ∨ (m = n ∧ q = p)) := fun m => by
    by_cases c : m < n
    · obtain ⟨q, q1, q2⟩ := hs m c
      obtain ⟨i, i1, i2⟩ := u_I_ex (p := q) (by omega)
      exact ⟨i, fun _ => ⟨i1, q, i2, Or.inl ⟨c, by rw [← q2]; exact (hM q q1).2⟩⟩⟩
    · obtain ⟨i, i1, i2⟩ := u_I_ex hp
      exact ⟨i, fun h => ⟨i1, p, i2, Or.inr ⟨by omega, rfl⟩⟩⟩
  obtain ⟨F, hF⟩ := Classical.axiomOfChoice ex
  refine b_pig 1284 (n + 1) F (fun j hj => (hF j hj).1) fun j j' hj hj' e => ?_
  obtain ⟨-, q, q1, q2⟩ := hF j hj
  obtain ⟨-, q', g1, g2⟩ := hF j' hj'
  rw [← e] at g1
  have eq := u_I_eq q1 g1
  rcases q2 with ⟨a1, a2⟩ | ⟨a1, a2⟩
  · rcases g2 with ⟨b1, b2⟩ | ⟨b1, b2⟩
    · exact hH.2.2.2.2 j j' a1 b1 (z_M_2 (z_M_sg eq a2) b2)
    · subst b2
      exact absurd (z_M_sg eq a2) (hno j a1)
  · rcases g2 with ⟨b1, b2⟩ | ⟨b1, b2⟩
    · subst a2
      exact absurd (z_M_sg (fun n v hn hv => (eq n v hn hv).symm) b2) (hno j' b1)
    · omega
