/-! the class: Finder, pure: meanings met and found -/
def f_Mu (A3 : Nat → Int32) (sm : Nat → Int32) (Am : Nat → Nat → Int32) (μ : Nat → Nat) (z : Nat) : Prop := sm 5 = nI z ∧ z_HT (Am 0) (Am 1) z ∧ ∀ p, p < 4937 → A3 p = nI (μ p) ∧ μ p < z ∧ z_M (Am 0) (μ p) (e_t p)
theorem f_Mu_lt {A3 sm : Nat → Int32} {Am : Nat → Nat → Int32} {μ : Nat → Nat} {z p : Nat} (h : f_Mu A3 sm Am μ z) (hp : p < 4937) : μ p < 1284 := Nat.lt_of_lt_of_le (h.2.2 p hp).2.1 h.2.1.1
theorem z_R_cg {W : Nat → Nat} {S S' : Nat → Nat → Prop} (h : z_R W S) (he : ∀ n v, n ≤ 4 → v < 3 ^ n → (S n v ↔ S' n v)) : z_R W S' := ⟨h.1, fun n v hn hv => (h.2 n v hn hv).trans (he n v hn hv)⟩
theorem f_Mu_eq {A3 sm : Nat → Int32} {Am : Nat → Nat → Int32} {μ : Nat → Nat} {z p q : Nat} (h : f_Mu A3 sm Am μ z) (hp : p < 4937) (hq : q < 4937) : μ p = μ q ↔ z_eq (e_t p) (e_t q) := by
  obtain ⟨-, h1, W, w1, w2⟩ := h.2.2 p hp
  obtain ⟨-, g1, V, v1, v2⟩ := h.2.2 q hq
  constructor
  · intro e n v hn hv
    rw [← e] at v2
    have hWV : ∀ j, j < 5 → W j = V j := fun j hj => by
      have e1 := w2 j hj
      have e2 := v2 j hj
      rw [e1] at e2
      have b1 := w1.1.2 j hj
      have b2 := v1.1.2 j hj
      exact (nI_eq (by omega) (by omega)).mp e2
    have hw5 := (z_wb n (by omega) v (by
      have : 3 ^ n ≤ 3 ^ 4 := Nat.pow_le_pow_right (by decide) hn
      have e : 3 ^ 4 = 81 := rfl
      omega) hv).1
    rw [← w1.2 n v hn hv, ← v1.2 n v hn hv, hWV _ hw5]
  · intro e
    apply h.2.1.2.2.2.2 _ _ h1 g1
    intro j hj
    rw [w2 j hj, v2 j hj, z_R_eq (z_R_cg w1 e) v1 j hj]
/-- by meaning, the latest turn: those of P have the turn n -/
def f_Met (g : Nat → Int32) (μ : Nat → Nat) (n : Nat) (P : Nat → Prop) : Prop := ∀ x, x < 1284 → (∃ k, k ≤ n ∧ g x = nI k) ∧ (g x = nI n ↔ ∃ y, P y ∧ μ y = x)
theorem f_Met_next {g : Nat → Int32} {μ : Nat → Nat} {n : Nat} {P : Nat → Prop} (h : f_Met g μ n P) (hn : n < 100000) : f_Met g μ (n + 1) (fun _ => False) := fun x hx => by
  obtain ⟨⟨k, k1, k2⟩, -⟩ := h x hx
  refine ⟨⟨k, by omega, k2⟩, fun e => ?_, fun ⟨y, hy, _⟩ => hy.elim⟩
  rw [k2] at e
  have := (nI_eq (by omega) (by omega)).mp e
  omega
theorem f_Met_step {g : Nat → Int32} {μ : Nat → Nat} {n y : Nat} {P P' : Nat → Prop} (h : f_Met g μ n P) (hP : ∀ z, P' z ↔ P z ∨ z = y) : f_Met (upd g (μ y) (nI n)) μ n P' := fun x hx => by
  obtain ⟨h1, h2⟩ := h x hx
  by_cases c : x = μ y
  · rw [c, q_ud_s]
    exact ⟨⟨n, Nat.le_refl _, rfl⟩, fun _ => ⟨y, (hP y).mpr (Or.inr rfl), rfl⟩, fun _ => rfl⟩
  · rw [q_ud_n _ _ c]
    refine ⟨h1, h2.trans ⟨fun ⟨z, z1, z2⟩ => ⟨z, (hP z).mpr (Or.inl z1), z2⟩, fun ⟨z, z1, z2⟩ => ?_⟩⟩
    rcases (hP z).mp z1 with g | g
    · exact ⟨z, g, z2⟩
    · subst g; exact absurd z2.symm c
theorem f_Met_cg {g : Nat → Int32} {μ : Nat → Nat} {n : Nat} {P P' : Nat → Prop} (h : f_Met g μ n P) (hP : ∀ z, P' z ↔ P z) : f_Met g μ n P' := fun x hx => ⟨(h x hx).1, (h x hx).2.trans ⟨fun ⟨z, z1, z2⟩ => ⟨z, (hP z).mpr z1, z2⟩, fun ⟨z, z1, z2⟩ => ⟨z, (hP z).mp z1, z2⟩⟩⟩
theorem f_Met_new {A3 sm : Nat → Int32} {Am : Nat → Nat → Int32} {μ : Nat → Nat} {z : Nat} (hM : f_Mu A3 sm Am μ z) {g : Nat → Int32} {n q : Nat} {P : Nat → Prop} (h : f_Met g μ n P) (hP : ∀ y, P y → y < 4937) (hq : q < 4937) : g (μ q) ≠ nI n ↔ ∀ y, P y → ¬ z_eq (e_t y) (e_t q) := by
  obtain ⟨-, h2⟩ := h (μ q) (f_Mu_lt hM hq)
  constructor
  · intro hn y hy he
    exact hn (h2.mpr ⟨y, hy, (f_Mu_eq hM (hP y hy) hq).mpr he⟩)
  · intro ha e
    obtain ⟨y, hy, e'⟩ := h2.mp e
    exact ha y hy ((f_Mu_eq hM (hP y hy) hq).mp e')
theorem k_F_1 {c : Nat} (hc : c ≤ 10) : k_F (c + 1) ≤ 4937 := by
  have := k_F_mono (show c + 1 ≤ 11 by omega)
  have e : k_F 11 = 4937 := k_4937
  omega
theorem e_G_E {K c : Nat} {D : Nat → yD} {bk : Nat → Bool} {S : Nat} (hc : c ≤ 10) : ∀ g, k_F (c + 1) + g ≤ 4937 → e_G K c D bk S (k_F (c + 1) + g) = e_G K c D bk S (k_F (c + 1))
  | 0, _ => rfl
  | g + 1, h => by
    have ih := e_G_E (K := K) (D := D) (bk := bk) (S := S) hc g (by omega)
    rw [← ih]
    show e_G K c D bk S (k_F (c + 1) + g + 1) = _
    exact e_G_F fun hh => by
      have := (e_lt (p := k_F (c + 1) + g) (by omega) hc).mp hh.1.2
      omega
theorem e_G_all {K c : Nat} {D : Nat → yD} {bk : Nat → Bool} {S : Nat} (hc : c ≤ 10) : e_G K c D bk S 4937 = e_G K c D bk S (k_F (c + 1)) := by
  have h := e_G_E (K := K) (D := D) (bk := bk) (S := S) hc (4937 - k_F (c + 1)) (by have := k_F_1 hc; omega)
  rw [show k_F (c + 1) + (4937 - k_F (c + 1)) = 4937 by have := k_F_1 hc; omega] at h
  exact h
theorem e_bn_E {K c : Nat} {D : Nat → yD} {bk : Nat → Bool} {S a : Nat} (ha : ∀ q, a ≤ q → q < 4937 → ¬ (e_ok q K c ∧ ∀ x, e_bn K c D bk S a = some x → e_v D bk S q < x.2)) : ∀ g, a + g ≤ 4937 → e_bn K c D bk S (a + g) = e_bn K c D bk S a
  | 0, _ => rfl
  | g + 1, h => by
    have ih := e_bn_E ha g (by omega)
    show e_bn K c D bk S (a + g + 1) = _
    rw [← ih]
    apply e_bn_F
    rw [ih]
    exact ha (a + g) (by omega) (by omega)
/-- they differ in meaning -/
theorem e_G_nd {K c : Nat} {D : Nat → yD} {bk : Nat → Bool} {S : Nat} : ∀ (q j j' x y : Nat), j < j' → (e_G K c D bk S q)[j]? = some x → (e_G K c D bk S q)[j']? = some y → ¬ z_eq (e_t x) (e_t y)
  | 0, j, j', x, y, _, h, _ => by cases h
  | q + 1, j, j', x, y, hj, h1, h2 => by
    by_cases g : e_ok q K c ∧ y_all (e_t q) D bk S ∧ ∀ x, x ∈ e_G K c D bk S q → ¬ z_eq (e_t x) (e_t q)
    · rw [e_G_T g] at h1 h2
      by_cases c2 : j' < (e_G K c D bk S q).length
      · rw [List.getElem?_append_left c2] at h2
        rw [List.getElem?_append_left (by omega)] at h1
        exact e_G_nd q j j' x y hj h1 h2
      · have hl : j' < (e_G K c D bk S q ++ [q]).length := (List.getElem?_eq_some_iff.mp h2).1
        rw [List.length_append] at hl
        have hl : j' < (e_G K c D bk S q).length + 1 := hl
        rw [List.getElem?_append_left (by omega)] at h1
        rw [List.getElem?_append_right (by omega), show j' - (e_G K c D bk S q).length = 0 by omega] at h2
        cases h2
        exact g.2.2 x (List.mem_of_getElem? h1)
    · rw [e_G_F g] at h1 h2
      exact e_G_nd q j j' x y hj h1 h2
/-- how many below z -/
noncomputable def f_cn (P : Nat → Prop) : Nat → Nat
  | 0 => 0
  | x + 1 => f_cn P x + @ite Nat (P x) (Classical.propDecidable _) 1 0
theorem f_cn_T {P : Nat → Prop} {x : Nat} (h : P x) : f_cn P (x + 1) = f_cn P x + 1 := by
  show f_cn P x + @ite Nat (P x) (Classical.propDecidable _) 1 0 = _
  rw [if_pos h]
theorem f_cn_F {P : Nat → Prop} {x : Nat} (h : ¬ P x) : f_cn P (x + 1) = f_cn P x := by
  show f_cn P x + @ite Nat (P x) (Classical.propDecidable _) 1 0 = _
  rw [if_neg h]
  omega
theorem f_cn_le {P : Nat → Prop} : ∀ z, f_cn P z ≤ z
  | 0 => Nat.le_refl _
  | z + 1 => by
    have := f_cn_le (P := P) z
    by_cases c : P z
    · rw [f_cn_T c]; omega
    · rw [f_cn_F c]; omega
theorem f_cn_cg {P P' : Nat → Prop} : ∀ z, (∀ x, x < z → (P x ↔ P' x)) → f_cn P z = f_cn P' z
  | 0, _ => rfl
  | z + 1, h => by
    have ih := f_cn_cg z fun x hx => h x (by omega)
    by_cases c : P z
    · rw [f_cn_T c, f_cn_T ((h z (by omega)).mp c), ih]
    · rw [f_cn_F c, f_cn_F (fun g => c ((h z (by omega)).mpr g)), ih]
theorem f_cn_0 {P : Nat → Prop} : ∀ z, (∀ x, x < z → ¬ P x) → f_cn P z = 0
  | 0, _ => rfl
  | z + 1, h => by rw [f_cn_F (h z (by omega))]; exact f_cn_0 z fun x hx => h x (by omega)
theorem f_cn_one {P P' : Nat → Prop} {x0 : Nat} (h0 : ¬ P x0) (hP : ∀ x, P' x ↔ P x ∨ x = x0) : ∀ z, x0 < z → f_cn P' z = f_cn P z + 1
  | 0, h => absurd h (by omega)
  | z + 1, h => by
    by_cases c : x0 = z
    · subst c
      rw [f_cn_T ((hP x0).mpr (Or.inr rfl)), f_cn_F h0]
      congr 1
      exact f_cn_cg x0 fun x hx => (hP x).trans ⟨fun g => g.elim id (fun e => absurd e (by omega)), Or.inl⟩
    · have ih := f_cn_one h0 hP z (by omega)
      by_cases cz : P z
      · rw [f_cn_T cz, f_cn_T ((hP z).mpr (Or.inl cz)), ih]
      · rw [f_cn_F cz, f_cn_F (fun g => ((hP z).mp g).elim cz (fun e => c e.symm)), ih]
/-- counted by meaning, or by place in the list -/
theorem f_cn_ct {R : Nat → Prop} {μ : Nat → Nat} {l : List Nat} {z : Nat} (hz : ∀ x, x ∈ l → μ x < z) (hd : ∀ (j j' x y : Nat), j < j' → l[j]? = some x → l[j']? = some y → μ x ≠ μ y) : ∀ j, j ≤ l.length → f_cn (fun x => ∃ j', j' < j ∧ ∃ y, l[j']? = some y ∧ μ y = x ∧ R y) z = e_ct R l j
  | 0, _ => f_cn_0 z fun x _ ⟨j', h, _⟩ => absurd h (by omega)
  | j + 1, hj => by
    have ih := f_cn_ct (R := R) hz hd j (by omega)
    obtain ⟨y, hy⟩ : ∃ y, l[j]? = some y := ⟨_, List.getElem?_eq_getElem (show j < l.length by omega)⟩
    show _ = e_ct R l j + @ite Nat (∃ x, l[j]? = some x ∧ R x) (Classical.propDecidable _) 1 0
    rw [← ih]
    by_cases c : R y
    · rw [if_pos ⟨y, hy, c⟩]
      refine f_cn_one (x0 := μ y) ?_ (fun x => ?_) z (hz y (List.mem_of_getElem? hy))
      · rintro ⟨j', h1, y', h2, h3, h4⟩
        exact hd j' j y' y h1 h2 hy h3
      · constructor
        · rintro ⟨j', h1, y', h2, h3, h4⟩
          by_cases cj : j' = j
          · subst cj
            rw [hy] at h2
            cases h2
            exact Or.inr h3.symm
          · exact Or.inl ⟨j', by omega, y', h2, h3, h4⟩
        · rintro (⟨j', h1, h2⟩ | h)
          · exact ⟨j', by omega, h2⟩
          · exact ⟨j, by omega, y, hy, h.symm, c⟩
    · rw [if_neg (fun ⟨x, h1, h2⟩ => by rw [hy] at h1; cases h1; exact c h2), Nat.add_zero]
      exact f_cn_cg z fun x _ => ⟨fun ⟨j', h1, y', h2, h3, h4⟩ => by
        by_cases cj : j' = j
        · subst cj
          rw [hy] at h2
          cases h2
          exact absurd h4 c
        · exact ⟨j', by omega, y', h2, h3, h4⟩, fun ⟨j', h1, h2⟩ => ⟨j', by omega, h2⟩⟩
