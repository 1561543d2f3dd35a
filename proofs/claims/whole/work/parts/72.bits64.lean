/-! longs as sets of parts of a row -/
def nL (a : Nat) : Int64 := Int64.ofNat a
theorem l_or (a b : Nat) : nL a ||| nL b = nL (a ||| b) := by
  apply Int64.toBitVec_inj.mp
  simp [nL]
theorem l_and (a b : Nat) : nL a &&& nL b = nL (a &&& b) := by
  apply Int64.toBitVec_inj.mp
  simp [nL]
theorem l_mul (a b : Nat) : nL a * nL b = nL (a * b) := by
  apply Int64.toBitVec_inj.mp
  simp [nL]
theorem l_sh {k : Nat} (hk : k < 64) : (nI k).toInt64.toUInt64 &&& Int64.toUInt64 63 = UInt64.ofNat k := by
  have h : ∀ k : Nat, k < 64 → (nI k).toInt64.toUInt64 &&& Int64.toUInt64 63 = UInt64.ofNat k := by decide +kernel
  exact h k hk
theorem l_ushr {a k : Nat} (ha : a < 18446744073709551616) (hk : k < 64) : ((nL a).toUInt64 >>> ((nI k).toInt64.toUInt64 &&& Int64.toUInt64 63)).toInt64 = nL (a / 2 ^ k) := by
  rw [l_sh hk]
  apply Int64.toBitVec_inj.mp
  apply BitVec.eq_of_toNat_eq
  show ((nL a).toUInt64 >>> (UInt64.ofNat k)).toNat = (BitVec.ofNat 64 (a / 2 ^ k)).toNat
  rw [UInt64.toNat_shiftRight]
  show (BitVec.ofNat 64 a).toNat >>> ((UInt64.ofNat k).toNat % 64) = _
  have e : (UInt64.ofNat k).toNat % 64 = k := by
    show (BitVec.ofNat 64 k).toNat % 64 = k
    rw [BitVec.toNat_ofNat]
    show k % 18446744073709551616 % 64 = k
    omega
  rw [e, Nat.shiftRight_eq_div_pow, BitVec.toNat_ofNat, BitVec.toNat_ofNat, Nat.mod_eq_of_lt ha, Nat.mod_eq_of_lt (Nat.lt_of_le_of_lt (Nat.div_le_self _ _) ha)]
theorem l_shl1 {k : Nat} (hk : k < 64) : (1 : Int64) <<< ((nI k).toInt64 &&& 63) = nL (2 ^ k) := by
  have h : ∀ k : Nat, k < 64 → (1 : Int64) <<< ((nI k).toInt64 &&& 63) = nL (2 ^ k) := by decide +kernel
  exact h k hk
theorem l_c0 : (0 : Int64) = nL 0 := rfl
theorem l_c1 : (1 : Int64) = nL 1 := rfl
theorem l_cB : (72340172838076673 : Int64) = nL 72340172838076673 := rfl
theorem l_cE : (255 : Int64) = nL 255 := rfl
theorem l_cM : (-9205322385119247871 : Int64) = nL 9241421688590303745 := by decide
theorem l_eq {a b : Nat} (ha : a < 18446744073709551616) (hb : b < 18446744073709551616) : nL a = nL b ↔ a = b := by
  constructor
  · intro h
    have := congrArg (fun x => x.toBitVec.toNat) h
    simp only [nL] at this
    have e1 : (Int64.ofNat a).toBitVec.toNat = a % 2 ^ 64 := by simp
    have e2 : (Int64.ofNat b).toBitVec.toNat = b % 2 ^ 64 := by simp
    rw [e1, e2] at this
    omega
  · intro h
    rw [h]
/-- digits 0 and 1 of base 256 -/
def d_sum (u : Nat → Bool) : Nat → Nat
  | 0 => 0
  | k + 1 => 256 * d_sum (fun b => u (b + 1)) k + (if u 0 = true then 1 else 0)
theorem d_bit : ∀ (k : Nat) (u : Nat → Bool) (V b e : Nat), V < 256 → e < 8 → ((d_sum u k * V).testBit (8 * b + e) = true ↔ b < k ∧ u b = true ∧ V.testBit e = true)
  | 0, u, V, b, e, hV, he => by
    show (0 * V).testBit _ = true ↔ _
    rw [Nat.zero_mul, Nat.zero_testBit]
    exact ⟨fun h => (by cases h), fun h => absurd h.1 (by omega)⟩
  | k + 1, u, V, b, e, hV, he => by
    have e1 : d_sum u (k + 1) * V = 2 ^ 8 * (d_sum (fun b => u (b + 1)) k * V) + (if u 0 = true then 1 else 0) * V := by
      show (256 * d_sum (fun b => u (b + 1)) k + (if u 0 = true then 1 else 0)) * V = _
      rw [Nat.add_mul, Nat.mul_assoc]
    have hc : (if u 0 = true then 1 else 0) * V < 2 ^ 8 := by
      split
      · rw [Nat.one_mul]; exact hV
      · rw [Nat.zero_mul]; decide
    rw [e1, Nat.testBit_two_pow_mul_add _ hc]
    cases b with
    | zero =>
      rw [if_pos (by omega), Nat.mul_zero, Nat.zero_add]
      by_cases c : u 0 = true
      · rw [if_pos c, Nat.one_mul]
        exact ⟨fun h => ⟨by omega, c, h⟩, fun h => h.2.2⟩
      · rw [if_neg c, Nat.zero_mul, Nat.zero_testBit]
        exact ⟨fun h => (by cases h), fun h => absurd h.2.1 c⟩
    | succ b =>
      rw [if_neg (by omega), show 8 * (b + 1) + e - 8 = 8 * b + e by omega, d_bit k (fun b => u (b + 1)) V b e hV he]
      exact ⟨fun h => ⟨by omega, h.2⟩, fun h => ⟨by omega, h.2⟩⟩
theorem b_split (j : Nat) : ∃ b e, e < 8 ∧ j = 8 * b + e := ⟨j / 8, j % 8, by omega, by omega⟩
theorem l_BE {j : Nat} : (72340172838076673 : Nat).testBit j = true ↔ j < 64 ∧ j % 8 = 0 := by
  by_cases h : j < 64
  · have g : ∀ j : Nat, j < 64 → ((72340172838076673 : Nat).testBit j = true ↔ j < 64 ∧ j % 8 = 0) := by decide +kernel
    exact g j h
  · rw [Nat.testBit_lt_two_pow (Nat.lt_of_lt_of_le (by decide : 72340172838076673 < 2 ^ 64) (Nat.pow_le_pow_right (by decide) (by omega)))]
    exact ⟨fun h => (by cases h), fun g => absurd g.1 h⟩
theorem l_MP {j : Nat} : (9241421688590303745 : Nat).testBit j = true ↔ j < 64 ∧ j % 9 = 0 := by
  by_cases h : j < 64
  · have g : ∀ j : Nat, j < 64 → ((9241421688590303745 : Nat).testBit j = true ↔ j < 64 ∧ j % 9 = 0) := by decide +kernel
    exact g j h
  · rw [Nat.testBit_lt_two_pow (Nat.lt_of_lt_of_le (by decide : 9241421688590303745 < 2 ^ 64) (Nat.pow_le_pow_right (by decide) (by omega)))]
    exact ⟨fun h => (by cases h), fun g => absurd g.1 h⟩
/-- one turn of behind -/
def s_mul (X Y m : Nat) : Nat := (X / 2 ^ m &&& 72340172838076673) * (Y / 2 ^ (8 * m) &&& 255)
theorem s_d {X m : Nat} : X / 2 ^ m &&& 72340172838076673 = d_sum (fun b => X.testBit (8 * b + m)) 8 := by
  apply Nat.eq_of_testBit_eq
  intro j
  obtain ⟨b, e, he, rfl⟩ := b_split j
  apply Bool.eq_iff_iff.mpr
  rw [Nat.testBit_and, Bool.and_eq_true, Nat.testBit_div_two_pow, l_BE]
  have h := d_bit 8 (fun b => X.testBit (8 * b + m)) 1 b e (by decide) he
  rw [Nat.mul_one] at h
  rw [h]
  have h1 : (1 : Nat).testBit e = true ↔ e = 0 := by
    have g : ∀ e : Nat, e < 8 → ((1 : Nat).testBit e = true ↔ e = 0) := by decide
    exact g e he
  rw [h1]
  constructor
  · rintro ⟨h1, h2, h3⟩
    have e0 : e = 0 := by omega
    subst e0
    exact ⟨by omega, by rw [show 8 * b + 0 + m = 8 * b + m by omega] at h1; exact h1, rfl⟩
  · rintro ⟨h1, h2, h3⟩
    subst h3
    exact ⟨by rw [show 8 * b + 0 + m = 8 * b + m by omega]; exact h2, by omega, by omega⟩
theorem s_mul_bit {X Y m b e : Nat} (he : e < 8) : (s_mul X Y m).testBit (8 * b + e) = true ↔ b < 8 ∧ X.testBit (8 * b + m) = true ∧ Y.testBit (8 * m + e) = true := by
  unfold s_mul
  have hV : Y / 2 ^ (8 * m) &&& 255 < 256 := Nat.lt_of_le_of_lt Nat.and_le_right (by decide)
  rw [s_d, d_bit 8 _ _ b e hV he, Nat.testBit_and, Bool.and_eq_true, Nat.testBit_div_two_pow]
  have h1 : (255 : Nat).testBit e = true := by
    have g : ∀ e : Nat, e < 8 → (255 : Nat).testBit e = true := by decide
    exact g e he
  rw [h1, Nat.add_comm e (8 * m)]
  exact ⟨fun ⟨a, b, c, _⟩ => ⟨a, b, c⟩, fun ⟨a, b, c⟩ => ⟨a, b, c, rfl⟩⟩
theorem s_mul_lt {X Y m : Nat} : s_mul X Y m < 18446744073709551616 := by
  unfold s_mul
  have h1 : X / 2 ^ m &&& 72340172838076673 ≤ 72340172838076673 := Nat.and_le_right
  have h2 : Y / 2 ^ (8 * m) &&& 255 ≤ 255 := Nat.and_le_right
  have := Nat.mul_le_mul h1 h2
  omega
def s_beh (X Y : Nat) : Nat → Nat
  | 0 => 0
  | m + 1 => s_beh X Y m ||| s_mul X Y m
theorem s_beh_lt {X Y : Nat} : ∀ m, s_beh X Y m < 18446744073709551616
  | 0 => by show 0 < 18446744073709551616; decide
  | m + 1 => Nat.or_lt_two_pow (n := 64) (s_beh_lt m) s_mul_lt
theorem s_beh_bit {X Y b e : Nat} (he : e < 8) : ∀ M, (s_beh X Y M).testBit (8 * b + e) = true ↔ ∃ m, m < M ∧ b < 8 ∧ X.testBit (8 * b + m) = true ∧ Y.testBit (8 * m + e) = true
  | 0 => by
    show (0 : Nat).testBit _ = true ↔ _
    rw [Nat.zero_testBit]
    exact ⟨fun h => (by cases h), fun ⟨m, h, _⟩ => absurd h (by omega)⟩
  | M + 1 => by
    show (s_beh X Y M ||| s_mul X Y M).testBit _ = true ↔ _
    rw [Nat.testBit_or, Bool.or_eq_true, s_beh_bit he M, s_mul_bit he]
    constructor
    · rintro (⟨m, h1, h2⟩ | h)
      · exact ⟨m, by omega, h2⟩
      · exact ⟨M, by omega, h⟩
    · rintro ⟨m, h1, h2⟩
      rcases Nat.lt_or_eq_of_le (Nat.le_of_lt_succ h1) with g | g
      · exact Or.inl ⟨m, g, h2⟩
      · exact Or.inr (g ▸ h2)
/-- a long holds the parts of a row of n letters -/
def s_W (n X : Nat) (S : Nat → Nat → Prop) : Prop := X < 18446744073709551616 ∧ ∀ b e, b ≤ n → e < 8 → (X.testBit (8 * b + e) = true ↔ S b e)
theorem s_W_beh {n X Y : Nat} {S S' : Nat → Nat → Prop} (hn : n ≤ 6) (hX : s_W n X S) (hY : s_W n Y S') (hS : ∀ b e, S b e → e ≤ n) : s_W n (s_beh X Y 7) (fun b e => ∃ m, S b m ∧ S' m e) := ⟨s_beh_lt 7, fun b e hb he => by
  rw [s_beh_bit he 7]
  constructor
  · rintro ⟨m, h1, h2, h3, h4⟩
    have h3 := (hX.2 b m hb (by omega)).mp h3
    have hm := hS b m h3
    exact ⟨m, h3, (hY.2 m e hm he).mp h4⟩
  · rintro ⟨m, h1, h2⟩
    have hm := hS b m h1
    exact ⟨m, by omega, by omega, (hX.2 b m hb (by omega)).mpr h1, (hY.2 m e hm he).mpr h2⟩⟩
theorem s_W_or {n X Y : Nat} {S S' : Nat → Nat → Prop} (hX : s_W n X S) (hY : s_W n Y S') : s_W n (X ||| Y) (fun b e => S b e ∨ S' b e) := ⟨Nat.or_lt_two_pow (n := 64) hX.1 hY.1, fun b e hb he => by
  rw [Nat.testBit_or, Bool.or_eq_true, hX.2 b e hb he, hY.2 b e hb he]⟩
theorem s_W.congr {n X : Nat} {S S' : Nat → Nat → Prop} (h : s_W n X S) (g : ∀ b e, b ≤ n → (S b e ↔ S' b e)) : s_W n X S' := ⟨h.1, fun b e hb he => (h.2 b e hb he).trans (g b e hb)⟩
/-- chains: joined, cut, shortened -/
theorem t_it_app {R : Nat → Nat → Prop} : ∀ (i j b m e : Nat), t_it R i b m → t_it R j m e → t_it R (i + j) b e
  | 0, j, b, m, e, h, h' => by
    have h : b = m := h
    subst h
    rw [Nat.zero_add]
    exact h'
  | i + 1, j, b, m, e, ⟨x, h1, h2⟩, h' => by
    rw [show i + 1 + j = i + j + 1 by omega]
    exact ⟨x, h1, t_it_app i j x m e h2 h'⟩
theorem t_it_cut {R : Nat → Nat → Prop} : ∀ (i j b e : Nat), t_it R (i + j) b e → ∃ m, t_it R i b m ∧ t_it R j m e
  | 0, j, b, e, h => ⟨b, rfl, by rw [Nat.zero_add] at h; exact h⟩
  | i + 1, j, b, e, h => by
    rw [show i + 1 + j = i + j + 1 by omega] at h
    obtain ⟨x, h1, h2⟩ := h
    obtain ⟨m, h3, h4⟩ := t_it_cut i j x e h2
    exact ⟨m, ⟨x, h1, h3⟩, h4⟩
theorem t_it_short {R : Nat → Nat → Prop} {n : Nat} (hR : ∀ b e, R b e → b ≤ e ∧ e ≤ n) : ∀ (k b e : Nat), t_it R (k + 1) b e → ∃ k', k' ≤ e - b ∧ (k' = 0 ∨ k' + 1 ≤ e - b) ∧ t_it R (k' + 1) b e
  | 0, b, e, h => ⟨0, Nat.zero_le _, Or.inl rfl, h⟩
  | k + 1, b, e, ⟨m, h1, h2⟩ => by
    obtain ⟨k', g1, g2, g3⟩ := t_it_short hR k m e h2
    have r1 := hR b m h1
    have r2 := t_it_le hR k m e h2
    by_cases c1 : m = b
    · subst c1
      exact ⟨k', g1, g2, g3⟩
    · by_cases c2 : m = e
      · subst c2
        exact ⟨0, Nat.zero_le _, Or.inl rfl, m, h1, rfl⟩
      · exact ⟨k' + 1, by omega, Or.inr (by omega), m, h1, g3⟩
def s_ag (X : Nat) : Nat → Nat
  | 0 => X
  | j + 1 => s_ag X j ||| s_beh (s_ag X j) (s_ag X j) 7
theorem s_W_ag {n X : Nat} {R : Nat → Nat → Prop} (hn : n ≤ 6) (hX : s_W n X R) (hR : ∀ b e, R b e → b ≤ e ∧ e ≤ n) : s_W n (s_ag X 3) (fun b e => ∃ k, t_it R (k + 1) b e) := by
  have st : ∀ j, s_W n (s_ag X j) (fun b e => ∃ k, k < 2 ^ j ∧ t_it R (k + 1) b e) := by
    intro j
    induction j with
    | zero => exact hX.congr fun b e _ => ⟨fun h => ⟨0, by decide, e, h, rfl⟩, fun ⟨k, h1, h2⟩ => by
        have e0 : k = 0 := by
          have : 2 ^ 0 = 1 := rfl
          omega
        subst e0
        obtain ⟨m, h3, h4⟩ := h2
        have h4 : m = e := h4
        exact h4 ▸ h3⟩
    | succ j ih =>
      refine (s_W_or ih (s_W_beh hn ih ih fun b e ⟨k, _, h⟩ => (t_it_le hR k b e h).2)).congr fun b e _ => ?_
      have hp : 2 ^ (j + 1) = 2 ^ j * 2 := Nat.pow_succ _ _
      have h1p : 1 ≤ 2 ^ j := Nat.pow_pos (by decide)
      constructor
      · rintro (⟨k, h1, h2⟩ | ⟨m, ⟨k1, h1, h2⟩, ⟨k2, h3, h4⟩⟩)
        · exact ⟨k, by omega, h2⟩
        · exact ⟨k1 + k2 + 1, by omega, by
            have := t_it_app (k1 + 1) (k2 + 1) b m e h2 h4
            rw [show k1 + 1 + (k2 + 1) = k1 + k2 + 1 + 1 by omega] at this
            exact this⟩
      · rintro ⟨k, h1, h2⟩
        by_cases c : k < 2 ^ j
        · exact Or.inl ⟨k, c, h2⟩
        · right
          rw [show k + 1 = 2 ^ j + (k - 2 ^ j + 1) by omega] at h2
          obtain ⟨m, h3, h4⟩ := t_it_cut (2 ^ j) (k - 2 ^ j + 1) b e h2
          refine ⟨m, ⟨2 ^ j - 1, by omega, ?_⟩, ⟨k - 2 ^ j, by omega, h4⟩⟩
          rw [show 2 ^ j - 1 + 1 = 2 ^ j by omega]
          exact h3
  refine (st 3).congr fun b e _ => ⟨fun ⟨k, _, h⟩ => ⟨k, h⟩, fun ⟨k, h⟩ => ?_⟩
  obtain ⟨k', g1, g2, g3⟩ := t_it_short hR k b e h
  have r := t_it_le hR k b e h
  exact ⟨k', by show k' < 8; omega, g3⟩
