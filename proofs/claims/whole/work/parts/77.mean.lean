/-! meanings: the rows of at most 4 letters that a pattern fits -/
theorem t_it_sh {R R' : Nat → Nat → Prop} {c m n : Nat} (hR : ∀ b e, R b e → b ≤ e ∧ e ≤ n) (hR' : ∀ b e, R' b e → b ≤ e ∧ e ≤ m) (h : ∀ b e, e ≤ m → (R (c + b) (c + e) ↔ R' b e)) : ∀ (k b e : Nat), e ≤ m → (t_it R (k + 1) (c + b) (c + e) ↔ t_it R' (k + 1) b e)
  | 0, b, e, he => by
    constructor
    · rintro ⟨x, h1, h2⟩
      have h2 : x = c + e := h2
      subst h2
      exact ⟨e, (h b e he).mp h1, rfl⟩
    · rintro ⟨x, h1, h2⟩
      have h2 : x = e := h2
      subst h2
      exact ⟨c + x, (h b x he).mpr h1, rfl⟩
  | k + 1, b, e, he => by
    constructor
    · rintro ⟨x, h1, h2⟩
      have r1 := hR _ _ h1
      have r2 := t_it_le hR k x (c + e) h2
      obtain ⟨x', rfl⟩ : ∃ x', x = c + x' := ⟨x - c, by omega⟩
      exact ⟨x', (h b x' (by omega)).mp h1, (t_it_sh hR hR' h k x' e he).mp h2⟩
    · rintro ⟨x, h1, h2⟩
      have r2 := t_it_le hR' k x e h2
      exact ⟨c + x, (h b x (by omega)).mpr h1, (t_it_sh hR hR' h k x e he).mpr h2⟩
theorem t_Sp_sh {w w' : Nat → Nat} {c m n : Nat} (hw : ∀ i, i < m → w (c + i) = w' i) (hn : c + m ≤ n) : ∀ (t : qT) (b e : Nat), e ≤ m → (t_Sp w n t (c + b) (c + e) ↔ t_Sp w' m t b e)
  | .num v, b, e, he => by
    constructor
    · rintro ⟨h1, h2, h3⟩
      exact ⟨by omega, by omega, by rw [← hw b (by omega)]; exact h3⟩
    · rintro ⟨h1, h2, h3⟩
      exact ⟨by omega, by omega, by rw [hw b h1]; exact h3⟩
  | .var v, b, e, he => by
    constructor
    · rintro ⟨h1, h2, h3⟩
      exact ⟨by omega, by omega, by rw [← hw b (by omega)]; exact h3⟩
    · rintro ⟨h1, h2, h3⟩
      exact ⟨by omega, by omega, by rw [hw b h1]; exact h3⟩
  | .add x y, b, e, he => by
    constructor
    · rintro ⟨p, h1, h2⟩
      have r1 := t_Sp_le x _ _ h1
      have r2 := t_Sp_le y _ _ h2
      obtain ⟨p', rfl⟩ : ∃ p', p = c + p' := ⟨p - c, by omega⟩
      exact ⟨p', (t_Sp_sh hw hn x b p' (by omega)).mp h1, (t_Sp_sh hw hn y p' e he).mp h2⟩
    · rintro ⟨p, h1, h2⟩
      have r2 := t_Sp_le y _ _ h2
      exact ⟨c + p, (t_Sp_sh hw hn x b p (by omega)).mpr h1, (t_Sp_sh hw hn y p e he).mpr h2⟩
  | .sub x y, b, e, he => by
    show (t_Sp w n x (c + b) (c + e) ∨ t_Sp w n y (c + b) (c + e)) ↔ (t_Sp w' m x b e ∨ t_Sp w' m y b e)
    rw [t_Sp_sh hw hn x b e he, t_Sp_sh hw hn y b e he]
  | .neg x, b, e, he => by
    constructor
    · rintro ⟨k, h⟩
      exact ⟨k, (t_it_sh (t_Sp_le x) (t_Sp_le x) (fun b e he => t_Sp_sh hw hn x b e he) k b e he).mp h⟩
    · rintro ⟨k, h⟩
      exact ⟨k, (t_it_sh (t_Sp_le x) (t_Sp_le x) (fun b e he => t_Sp_sh hw hn x b e he) k b e he).mpr h⟩
  | .mulL _ x, b, e, he => by
    show (t_Sp w n x (c + b) (c + e) ∨ (c + b = c + e ∧ c + b ≤ n)) ↔ (t_Sp w' m x b e ∨ (b = e ∧ b ≤ m))
    rw [t_Sp_sh hw hn x b e he]
    constructor
    · rintro (h | ⟨h1, h2⟩)
      · exact Or.inl h
      · exact Or.inr ⟨by omega, by omega⟩
    · rintro (h | ⟨h1, h2⟩)
      · exact Or.inl h
      · exact Or.inr ⟨by omega, by omega⟩
  | .mulR x _, b, e, he => by
    show (t_Sp w n x (c + b) (c + e) ∨ (c + b = c + e ∧ c + b ≤ n)) ↔ (t_Sp w' m x b e ∨ (b = e ∧ b ≤ m))
    rw [t_Sp_sh hw hn x b e he]
    constructor
    · rintro (h | ⟨h1, h2⟩)
      · exact Or.inl h
      · exact Or.inr ⟨by omega, by omega⟩
    · rintro (h | ⟨h1, h2⟩)
      · exact Or.inl h
      · exact Or.inr ⟨by omega, by omega⟩
/-- the row of n letters with number v among these -/
def z_row (n v : Nat) : Nat → Nat := w_at (3 ^ n + v) n
def z_S (t : qT) (n v : Nat) : Prop := t_Sp (z_row n v) n t 0 n
def z_ck (q : Nat → Nat → Nat → Nat → Bool) : Bool := (List.range 5).all fun n => (List.range 5).all fun m => (List.range 4).all fun k => (List.range 81).all fun v => q n m k v
theorem z_ck_at {q : Nat → Nat → Nat → Nat → Bool} (h : z_ck q = true) {n m k v : Nat} (hn : n < 5) (hm : m < 5) (hk : k < 4) (hv : v < 81) : q n m k v = true := by
  unfold z_ck at h
  have h1 := List.all_eq_true.mp h n (List.mem_range.mpr hn)
  have h2 := List.all_eq_true.mp h1 m (List.mem_range.mpr hm)
  have h3 := List.all_eq_true.mp h2 k (List.mem_range.mpr hk)
  exact List.all_eq_true.mp h3 v (List.mem_range.mpr hv)
theorem z_let1' (n : Nat) (hn : n < 5) (m : Nat) (hm : m < 5) (k : Nat) (hk : k < 4) (v : Nat) (hv : v < 81) (h : v < 3 ^ n ∧ m ≤ n ∧ k < m) : w_at (3 ^ n + v) n k = w_at (3 ^ m + v / 3 ^ (n - m)) m k := by
  have g := z_ck_at (q := fun n m k v => decide (v < 3 ^ n ∧ m ≤ n ∧ k < m → w_at (3 ^ n + v) n k = w_at (3 ^ m + v / 3 ^ (n - m)) m k)) (by decide +kernel) hn hm hk hv
  exact of_decide_eq_true g h
theorem z_let2' (n : Nat) (hn : n < 5) (m : Nat) (hm : m < 5) (k : Nat) (hk : k < 4) (v : Nat) (hv : v < 81) (h : v < 3 ^ n ∧ m ≤ n ∧ k < n - m) : w_at (3 ^ n + v) n (m + k) = w_at (3 ^ (n - m) + v % 3 ^ (n - m)) (n - m) k := by
  have g := z_ck_at (q := fun n m k v => decide (v < 3 ^ n ∧ m ≤ n ∧ k < n - m → w_at (3 ^ n + v) n (m + k) = w_at (3 ^ (n - m) + v % 3 ^ (n - m)) (n - m) k)) (by decide +kernel) hn hm hk hv
  exact of_decide_eq_true g h
theorem z_let1 (n : Nat) (hn : n < 5) (v : Nat) (hv : v < 81) (h : v < 3 ^ n) (m : Nat) (hm : m < 5) (hmn : m ≤ n) (k : Nat) (hk : k < 4) (hkm : k < m) : w_at (3 ^ n + v) n k = w_at (3 ^ m + v / 3 ^ (n - m)) m k := z_let1' n hn m hm k hk v hv ⟨h, hmn, hkm⟩
theorem z_let2 (n : Nat) (hn : n < 5) (v : Nat) (hv : v < 81) (h : v < 3 ^ n) (m : Nat) (hm : m < 5) (hmn : m ≤ n) (k : Nat) (hk : k < 4) (hkm : k < n - m) : w_at (3 ^ n + v) n (m + k) = w_at (3 ^ (n - m) + v % 3 ^ (n - m)) (n - m) k := z_let2' n hn m hm k hk v hv ⟨h, hmn, hkm⟩
theorem z_81 {n v : Nat} (hn : n ≤ 4) (hv : v < 3 ^ n) : v < 81 := Nat.lt_of_lt_of_le hv (Nat.pow_le_pow_right (n := 3) (j := 4) (by decide) hn)
/-- each row of two parts -/
def z_J (Sa Sb : Nat → Nat → Prop) (n v : Nat) : Prop := ∃ m, m ≤ n ∧ Sa m (v / 3 ^ (n - m)) ∧ Sb (n - m) (v % 3 ^ (n - m))
theorem z_cut {n v m : Nat} (hn : n ≤ 4) (hv : v < 3 ^ n) (hm : m ≤ n) (t : qT) : (t_Sp (z_row n v) n t 0 m ↔ z_S t m (v / 3 ^ (n - m))) ∧ (t_Sp (z_row n v) n t m n ↔ z_S t (n - m) (v % 3 ^ (n - m))) := by
  constructor
  · have h := t_Sp_sh (w := z_row n v) (w' := z_row m (v / 3 ^ (n - m))) (c := 0) (m := m) (n := n) (fun i hi => by rw [Nat.zero_add]; exact z_let1 n (by omega) v (z_81 hn hv) hv m (by omega) hm i (by omega) hi) (by omega) t 0 m (Nat.le_refl _)
    rw [Nat.zero_add, Nat.zero_add] at h
    exact h
  · have h := t_Sp_sh (w := z_row n v) (w' := z_row (n - m) (v % 3 ^ (n - m))) (c := m) (m := n - m) (n := n) (fun i hi => z_let2 n (by omega) v (z_81 hn hv) hv m (by omega) hm i (by omega) hi) (by omega) t 0 (n - m) (Nat.le_refl _)
    rw [Nat.add_zero, show m + (n - m) = n by omega] at h
    exact h
theorem z_S_add {x y : qT} {n v : Nat} (hn : n ≤ 4) (hv : v < 3 ^ n) : z_S (.add x y) n v ↔ z_J (z_S x) (z_S y) n v := by
  constructor
  · rintro ⟨m, h1, h2⟩
    have r := t_Sp_le x _ _ h1
    exact ⟨m, r.2, (z_cut hn hv r.2 x).1.mp h1, (z_cut hn hv r.2 y).2.mp h2⟩
  · rintro ⟨m, h0, h1, h2⟩
    exact ⟨m, (z_cut hn hv h0 x).1.mpr h1, (z_cut hn hv h0 y).2.mpr h2⟩
/-- chains of at most k + 1 parts -/
def z_C (t : qT) (k n v : Nat) : Prop := ∃ j, j ≤ k ∧ t_it (t_Sp (z_row n v) n t) (j + 1) 0 n
theorem z_C_0 {t : qT} {n v : Nat} : z_C t 0 n v ↔ z_S t n v := by
  constructor
  · rintro ⟨j, hj, h⟩
    have e : j = 0 := by omega
    subst e
    obtain ⟨m, h1, h2⟩ := h
    have h2 : m = n := h2
    subst h2
    exact h1
  · intro h
    exact ⟨0, Nat.le_refl _, n, h, rfl⟩
theorem z_C_s {t : qT} {k n v : Nat} (hn : n ≤ 4) (hv : v < 3 ^ n) : z_C t (k + 1) n v ↔ (z_C t k n v ∨ z_J (z_C t k) (z_S t) n v) := by
  constructor
  · rintro ⟨j, hj, h⟩
    by_cases c : j ≤ k
    · exact Or.inl ⟨j, c, h⟩
    · have e : j = k + 1 := by omega
      subst e
      obtain ⟨m, h1, h2⟩ := t_it_cut (k + 1) 1 0 n h
      obtain ⟨x, h3, h4⟩ := h2
      have h4 : x = n := h4
      subst h4
      have r := t_Sp_le t _ _ h3
      refine Or.inr ⟨m, r.1, ⟨k, Nat.le_refl _, ?_⟩, (z_cut hn hv r.1 t).2.mp h3⟩
      have hs := t_it_sh (R := t_Sp (z_row x v) x t) (R' := t_Sp (z_row m (v / 3 ^ (x - m))) m t) (c := 0) (t_Sp_le t) (t_Sp_le t) (fun b e he => by
        rw [Nat.zero_add, Nat.zero_add]
        have h := t_Sp_sh (w := z_row x v) (w' := z_row m (v / 3 ^ (x - m))) (c := 0) (m := m) (n := x) (fun i hi => by rw [Nat.zero_add]; exact z_let1 x (by omega) v (z_81 hn hv) hv m (by omega) r.1 i (by omega) hi) (by omega) t b e he
        rw [Nat.zero_add, Nat.zero_add] at h
        exact h) k 0 m (Nat.le_refl _)
      rw [Nat.zero_add, Nat.zero_add] at hs
      exact hs.mp h1
  · rintro (⟨j, hj, h⟩ | ⟨m, h0, ⟨j, hj, h1⟩, h2⟩)
    · exact ⟨j, by omega, h⟩
    · have hs := t_it_sh (R := t_Sp (z_row n v) n t) (R' := t_Sp (z_row m (v / 3 ^ (n - m))) m t) (c := 0) (t_Sp_le t) (t_Sp_le t) (fun b e he => by
        rw [Nat.zero_add, Nat.zero_add]
        have h := t_Sp_sh (w := z_row n v) (w' := z_row m (v / 3 ^ (n - m))) (c := 0) (m := m) (n := n) (fun i hi => by rw [Nat.zero_add]; exact z_let1 n (by omega) v (z_81 hn hv) hv m (by omega) h0 i (by omega) hi) (by omega) t b e he
        rw [Nat.zero_add, Nat.zero_add] at h
        exact h) j 0 m (Nat.le_refl _)
      rw [Nat.zero_add, Nat.zero_add] at hs
      refine ⟨j + 1, by omega, ?_⟩
      have := t_it_app (j + 1) 1 0 m n (hs.mpr h1) ⟨n, (z_cut hn hv h0 t).2.mpr h2, rfl⟩
      exact this
theorem z_S_neg {t : qT} {n v : Nat} (hn : n ≤ 4) (hv : v < 3 ^ n) : z_S (.neg t) n v ↔ z_C t 3 n v := by
  constructor
  · rintro ⟨k, h⟩
    obtain ⟨k', g1, g2, g3⟩ := t_it_short (t_Sp_le t) k 0 n h
    exact ⟨k', by omega, g3⟩
  · rintro ⟨j, -, h⟩
    exact ⟨j, h⟩
/-- where a row's bit stands -/
def z_w (n v : Nat) : Nat := if n < 3 then 0 else if n = 3 then 1 else 2 + v / 27
def z_b (n v : Nat) : Nat := if n = 0 then 0 else if n = 1 then 1 + v else if n = 2 then 4 + v else v % 27
def z_R (W : Nat → Nat) (S : Nat → Nat → Prop) : Prop := (W 0 < 8192 ∧ ∀ i, i < 5 → W i < 134217728) ∧ ∀ n v, n ≤ 4 → v < 3 ^ n → ((W (z_w n v)).testBit (z_b n v) = true ↔ S n v)
theorem z_wb' : ∀ n : Nat, n < 5 → ∀ v : Nat, v < 81 → (v < 3 ^ n → z_w n v < 5 ∧ z_b n v < 27 ∧ (n < 3 → z_b n v < 13)) := by decide +kernel
theorem z_wb (n : Nat) (hn : n < 5) (v : Nat) (hv : v < 81) (h : v < 3 ^ n) : z_w n v < 5 ∧ z_b n v < 27 ∧ (n < 3 → z_b n v < 13) := z_wb' n hn v hv h
def z_sn (i j : Nat) : Nat := if i = 0 then (if j = 0 then 0 else if j < 4 then 1 else 2) else if i = 1 then 3 else 4
def z_sv (i j : Nat) : Nat := if i = 0 then (if j = 0 then 0 else if j < 4 then j - 1 else j - 4) else if i = 1 then j else (i - 2) * 27 + j
theorem z_sur' : ∀ i : Nat, i < 5 → ∀ j : Nat, j < 27 → ((i = 0 → j < 13) → z_sn i j < 5 ∧ z_sv i j < 81 ∧ z_sv i j < 3 ^ z_sn i j ∧ z_w (z_sn i j) (z_sv i j) = i ∧ z_b (z_sn i j) (z_sv i j) = j) := by decide +kernel
theorem z_sur (i : Nat) (hi : i < 5) (j : Nat) (hj : j < 27) (h : i = 0 → j < 13) : ∃ n, n < 5 ∧ ∃ v, v < 81 ∧ v < 3 ^ n ∧ z_w n v = i ∧ z_b n v = j := by
  obtain ⟨h1, h2, h3, h4, h5⟩ := z_sur' i hi j hj h
  exact ⟨z_sn i j, h1, z_sv i j, h2, h3, h4, h5⟩
theorem z_inj {n v n' v' : Nat} (hn : n ≤ 4) (hv : v < 3 ^ n) (hn' : n' ≤ 4) (hv' : v' < 3 ^ n') (h1 : z_w n v = z_w n' v') (h2 : z_b n v = z_b n' v') : n = n' ∧ v = v' := by
  have p0 : 3 ^ 0 = 1 := rfl
  have p1 : 3 ^ 1 = 3 := rfl
  have p2 : 3 ^ 2 = 9 := rfl
  have p3 : 3 ^ 3 = 27 := rfl
  have p4 : 3 ^ 4 = 81 := rfl
  unfold z_w at h1
  unfold z_b at h2
  rcases (show n = 0 ∨ n = 1 ∨ n = 2 ∨ n = 3 ∨ n = 4 by omega) with g | g | g | g | g <;> subst g <;> rcases (show n' = 0 ∨ n' = 1 ∨ n' = 2 ∨ n' = 3 ∨ n' = 4 by omega) with g | g | g | g | g <;> subst g <;> simp at h1 h2 hv hv' <;> omega
theorem z_R_eq {W W' : Nat → Nat} {S : Nat → Nat → Prop} (h : z_R W S) (h' : z_R W' S) : ∀ i, i < 5 → W i = W' i := by
  intro i hi
  apply Nat.eq_of_testBit_eq
  intro j
  apply Bool.eq_iff_iff.mpr
  have big : ∀ (V : Nat → Nat), z_R V S → (j < 27 ∧ (i = 0 → j < 13)) ∨ (V i).testBit j = false := by
    intro V hV
    by_cases c : j < 27
    · by_cases c2 : i = 0 → j < 13
      · exact Or.inl ⟨c, c2⟩
      · right
        have e0 : i = 0 := Classical.byContradiction fun g => c2 fun e => absurd e g
        subst e0
        exact Nat.testBit_lt_two_pow (Nat.lt_of_lt_of_le hV.1.1 (Nat.pow_le_pow_right (n := 2) (i := 13) (j := j) (by decide) (show 13 ≤ j from Nat.le_of_not_lt fun g => c2 fun _ => g)))
    · exact Or.inr (Nat.testBit_lt_two_pow (Nat.lt_of_lt_of_le (hV.1.2 i hi) (Nat.pow_le_pow_right (n := 2) (i := 27) (j := j) (by decide) (by omega))))
  rcases big W h with ⟨c1, c2⟩ | g
  · obtain ⟨n, hn, v, -, hv, e1, e2⟩ := z_sur i hi j c1 c2
    subst e1 e2
    rw [h.2 n v (by omega) hv, h'.2 n v (by omega) hv]
  · rcases big W' h' with ⟨c1, c2⟩ | g'
    · obtain ⟨n, hn, v, -, hv, e1, e2⟩ := z_sur i hi j c1 c2
      subst e1 e2
      rw [h.2 n v (by omega) hv, h'.2 n v (by omega) hv]
    · rw [g, g']
theorem z_R.congr {W : Nat → Nat} {S S' : Nat → Nat → Prop} (h : z_R W S) (g : ∀ n v, n ≤ 4 → v < 3 ^ n → (S n v ↔ S' n v)) : z_R W S' := ⟨h.1, fun n v hn hv => (h.2 n v hn hv).trans (g n v hn hv)⟩
theorem z_R.ext {W W' : Nat → Nat} {S : Nat → Nat → Prop} (h : z_R W S) (g : ∀ i, i < 5 → W' i = W i) : z_R W' S := ⟨⟨by rw [g 0 (by decide)]; exact h.1.1, fun i hi => by rw [g i hi]; exact h.1.2 i hi⟩, fun n v hn hv => by
  rw [g _ (z_wb n (by omega) v (z_81 hn hv) hv).1]
  exact h.2 n v hn hv⟩
/-- one word more is laid in -/
theorem z_R_op {W : Nat → Nat} {S Sb : Nat → Nat → Prop} {i k V n1 n2 u : Nat} (h : z_R W S) (h4 : n1 + n2 ≤ 4) (hu : u < 3 ^ n1) (hpos : ∀ q, q < 3 ^ n2 → z_w (n1 + n2) (u * 3 ^ n2 + q) = i ∧ z_b (n1 + n2) (u * 3 ^ n2 + q) = k + q) (hV : V < 2 ^ 3 ^ n2) (hb : ∀ q, q < 3 ^ n2 → (V.testBit q = true ↔ Sb n2 q)) (hlt : V * 2 ^ k < 134217728) (hlt0 : i = 0 → V * 2 ^ k < 8192) : z_R (fun j => if j = i then W i ||| V * 2 ^ k else W j) (fun n v => S n v ∨ (n = n1 + n2 ∧ v / 3 ^ n2 = u ∧ Sb n2 (v % 3 ^ n2))) := by
  have hp2 : 0 < 3 ^ n2 := Nat.pow_pos (by decide)
  refine ⟨⟨?_, fun j hj => ?_⟩, fun n v hn hv => ?_⟩
  · show (if 0 = i then W i ||| V * 2 ^ k else W 0) < 8192
    by_cases c : 0 = i
    · rw [if_pos c]
      exact Nat.or_lt_two_pow (n := 13) (by rw [← c]; exact h.1.1) (hlt0 c.symm)
    · rw [if_neg c]; exact h.1.1
  · show (if j = i then W i ||| V * 2 ^ k else W j) < 134217728
    by_cases c : j = i
    · rw [if_pos c]
      exact Nat.or_lt_two_pow (n := 27) (by rw [← c]; exact h.1.2 j hj) hlt
    · rw [if_neg c]; exact h.1.2 j hj
  · show (if z_w n v = i then W i ||| V * 2 ^ k else W (z_w n v)).testBit (z_b n v) = true ↔ _
    have hbit : ∀ x, (V * 2 ^ k).testBit x = true ↔ k ≤ x ∧ V.testBit (x - k) = true := fun x => by
      rw [Nat.testBit_mul_two_pow, Bool.and_eq_true, decide_eq_true_iff]
    by_cases c : z_w n v = i
    · rw [if_pos c, Nat.testBit_or, Bool.or_eq_true, ← c, h.2 n v hn hv, hbit]
      constructor
      · rintro (g | ⟨g1, g2⟩)
        · exact Or.inl g
        · have hq : z_b n v - k < 3 ^ n2 := Nat.lt_of_not_le fun g => by
            rw [Nat.testBit_lt_two_pow (Nat.lt_of_lt_of_le hV (Nat.pow_le_pow_right (by decide) g))] at g2
            cases g2
          obtain ⟨p1, p2⟩ := hpos (z_b n v - k) hq
          have hvv : u * 3 ^ n2 + (z_b n v - k) < 3 ^ (n1 + n2) := by
            rw [Nat.pow_add]
            have : (u + 1) * 3 ^ n2 ≤ 3 ^ n1 * 3 ^ n2 := Nat.mul_le_mul_right _ hu
            rw [Nat.add_mul, Nat.one_mul] at this
            omega
          obtain ⟨e1, e2⟩ := z_inj hn hv h4 hvv (c.trans p1.symm) (by rw [p2]; omega)
          subst e1
          rw [e2]
          right
          refine ⟨rfl, ?_, ?_⟩
          · rw [Nat.add_comm, Nat.add_mul_div_right _ _ hp2, Nat.div_eq_of_lt hq, Nat.zero_add]
          · rw [Nat.add_comm, Nat.add_mul_mod_self_right, Nat.mod_eq_of_lt hq]
            exact (hb _ hq).mp g2
      · rintro (g | ⟨g1, g2, g3⟩)
        · exact Or.inl g
        · right
          subst g1
          have hq : v % 3 ^ n2 < 3 ^ n2 := Nat.mod_lt _ hp2
          obtain ⟨p1, p2⟩ := hpos (v % 3 ^ n2) hq
          have ev : u * 3 ^ n2 + v % 3 ^ n2 = v := by
            rw [← g2, Nat.mul_comm]
            exact Nat.div_add_mod v (3 ^ n2)
          rw [ev] at p2
          exact ⟨by omega, by rw [p2, Nat.add_sub_cancel_left]; exact (hb _ hq).mpr g3⟩
    · rw [if_neg c, h.2 n v hn hv]
      constructor
      · exact Or.inl
      · rintro (g | ⟨g1, g2, g3⟩)
        · exact g
        · subst g1
          have hq : v % 3 ^ n2 < 3 ^ n2 := Nat.mod_lt _ hp2
          obtain ⟨p1, p2⟩ := hpos (v % 3 ^ n2) hq
          have ev : u * 3 ^ n2 + v % 3 ^ n2 = v := by
            rw [← g2, Nat.mul_comm]
            exact Nat.div_add_mod v (3 ^ n2)
          rw [ev] at p1
          exact absurd p1 c
theorem z_R_or {W W' : Nat → Nat} {S S' : Nat → Nat → Prop} (h : z_R W S) (h' : z_R W' S') : z_R (fun i => W i ||| W' i) (fun n v => S n v ∨ S' n v) := ⟨⟨Nat.or_lt_two_pow (n := 13) h.1.1 h'.1.1, fun i hi => Nat.or_lt_two_pow (n := 27) (h.1.2 i hi) (h'.1.2 i hi)⟩, fun n v hn hv => by
  rw [Nat.testBit_or, Bool.or_eq_true, h.2 n v hn hv, h'.2 n v hn hv]⟩
