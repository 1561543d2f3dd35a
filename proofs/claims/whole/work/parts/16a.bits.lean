/-! bits of small numbers -/
theorem z_sm {k : Nat} (hk : k < 32) : ((nI k &&& 31 : Int32).toBitVec.smod 32).toNat = k := by
  have h : ∀ k : Nat, k < 32 → ((nI k &&& 31 : Int32).toBitVec.smod 32).toNat = k := by decide +kernel
  exact h k hk
theorem z_shl {a k : Nat} (hk : k < 32) (h : a * 2 ^ k < 2 ^ 32) : nI a <<< (nI k &&& 31) = nI (a * 2 ^ k) := pk_shlN _ k (z_sm hk) h
theorem z_shr {a k : Nat} (ha : a < 2147483648) (hk : k < 32) : nI a >>> (nI k &&& 31) = nI (a / 2 ^ k) := pk_shrN ha _ k (z_sm hk)
def z_tn (a k : Nat) : Nat := if a.testBit k = true then 1 else 0
theorem z_tn_eq (a k : Nat) : a / 2 ^ k % 2 = z_tn a k := by
  unfold z_tn
  rw [Nat.testBit_eq_decide_div_mod_eq]
  have := Nat.mod_two_eq_zero_or_one (a / 2 ^ k)
  by_cases h : a / 2 ^ k % 2 = 1
  · rw [if_pos (by simpa using h)]; exact h
  · rw [if_neg (by simpa using h)]; omega
theorem z_tb {a k : Nat} (ha : a < 2147483648) (hk : k < 32) : (nI a >>> (nI k &&& 31)) &&& nI 1 = nI (z_tn a k) := by
  rw [z_shr ha hk, z_and, Nat.and_one_is_mod, z_tn_eq]
theorem z_tn_lt (a k : Nat) : z_tn a k < 2147483648 := by
  unfold z_tn
  split <;> decide
theorem z_tb1 (a k : Nat) : (nI (z_tn a k) = nI 1) = (a.testBit k = true) := by
  rw [z_eqI (z_tn_lt a k) (by decide)]
  unfold z_tn
  by_cases h : a.testBit k = true
  · rw [if_pos h]; simp [h]
  · rw [if_neg h]; simp [h]
theorem q_upup {α : Type} (f : Nat → α) (k : Nat) (v u : α) : va_up (va_up f k v) k u = va_up f k u := by
  funext j
  unfold va_up
  by_cases h : j = k
  · rw [if_pos h, if_pos h]
  · rw [if_neg h, if_neg h, if_neg h]
theorem q_upid {α : Type} (f : Nat → α) (k : Nat) : va_up f k (f k) = f := by
  funext j
  unfold va_up
  by_cases h : j = k
  · rw [if_pos h, h]
  · rw [if_neg h]
theorem q_ud_s (f : Nat → Int32) (k : Nat) (v : Int32) : upd f k v k = v := by simp [upd]
theorem q_ud_n (f : Nat → Int32) {k j : Nat} (v : Int32) (h : j ≠ k) : upd f k v j = f j := by simp [upd, h]
theorem q_ud_a (f : Nat → Int32) (k : Nat) (v : Int32) (j : Nat) : upd f k v j = if j = k then v else f j := Eq.trans rfl rfl
/-- a number of 13 bits that holds a set of places -/
def q_mask (m : Nat) (P : Nat → Prop) : Prop := m < 8192 ∧ ∀ e, m.testBit e = true ↔ P e
theorem q_mask.congr {m : Nat} {P P' : Nat → Prop} (h : q_mask m P) (g : ∀ e, P e ↔ P' e) : q_mask m P' := ⟨h.1, fun e => (h.2 e).trans (g e)⟩
theorem q_mask.or {m m' : Nat} {P P' : Nat → Prop} (h : q_mask m P) (h' : q_mask m' P') : q_mask (m ||| m') (fun e => P e ∨ P' e) := ⟨Nat.or_lt_two_pow (n := 13) h.1 h'.1, fun e => by
  rw [Nat.testBit_or, Bool.or_eq_true, h.2 e, h'.2 e]⟩
theorem q_mask_0 {P : Nat → Prop} (h : ∀ e, ¬ P e) : q_mask 0 P := ⟨by decide, fun e => by
  rw [Nat.zero_testBit]
  exact ⟨fun g => absurd g (by decide), fun g => absurd g (h e)⟩⟩
theorem q_mask_1 {k : Nat} (hk : k < 13) {P : Nat → Prop} (h : ∀ e, P e ↔ e = k) : q_mask (2 ^ k) P := ⟨Nat.pow_lt_pow_right (by decide) hk, fun e => by
  rw [Nat.testBit_two_pow, decide_eq_true_iff, h e]
  exact ⟨fun g => g.symm, fun g => g.symm⟩⟩
