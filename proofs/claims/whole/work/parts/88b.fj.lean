/-! Finder, its object with a gap of X 2 cells behind it (where the catalogue is made between) -/
def fjO (i : Nat) (X : Nat → Nat) (s : Nat → Int32) : List Value := [.ref (X 0), .ref (X 1), .ref (i + X 2 + 1), .ref (i + X 2 + 7), .ref (i + X 2 + 8), .ref (i + X 2 + 9), .int (s 6), .ref (i + X 2 + 12), .int (s 8), .ref (i + X 2 + 13), .int (s 10), .ref (i + X 2 + 14), .int (s 12), .int (s 13), .int (s 14), .int (s 15), .int (s 16)]
def fjG (A : Nat → Nat → Int32) : Nat → Option qE
  | 7 => some (.inl (1, 4937, .inl (A 3)))
  | 8 => some (.inl (1, 4937, .inl (A 4)))
  | 12 => some (.inl (1, 1284, .inl (A 7)))
  | 13 => some (.inl (1, 40, .inl (A 9)))
  | 14 => some (.inl (1, 1284, .inl (A 11)))
  | _ => none
def fjE (i : Nat) (X : Nat → Nat) (s : Nat → Int32) (A : Nat → Nat → Int32) (k : Nat) : Option qE := if k = 0 then some (.inr (2, fjO i X s)) else if X 2 < k then fjG A (k - X 2) else none
def q_fj (M0 : qM) (i : Nat) (X : Nat → Nat) (s : Nat → Int32) (A : Nat → Nat → Int32) : qM := q_og M0 i (fjE i X s A)
theorem fjE_0 {i : Nat} {X : Nat → Nat} {s : Nat → Int32} {A : Nat → Nat → Int32} : fjE i X s A 0 = some (.inr (2, fjO i X s)) := if_pos rfl
theorem fjE_at {i : Nat} {X : Nat → Nat} {s : Nat → Int32} {A : Nat → Nat → Int32} (n : Nat) (h : 1 ≤ n) : fjE i X s A (X 2 + n) = fjG A n := by
  unfold fjE
  rw [if_neg (by omega), if_pos (by omega), Nat.add_sub_cancel_left]
theorem fjG_none {A : Nat → Nat → Int32} {q : Nat} (h : q < 7 ∨ 9 ≤ q ∧ q < 12 ∨ 15 ≤ q) : fjG A q = none := by
  by_cases c : 15 ≤ q
  · obtain ⟨q, rfl⟩ : ∃ k, q = k + 15 := ⟨q - 15, by omega⟩
    rfl
  · obtain rfl | rfl | rfl | rfl | rfl | rfl | rfl | rfl | rfl | rfl : q = 0 ∨ q = 1 ∨ q = 2 ∨ q = 3 ∨ q = 4 ∨ q = 5 ∨ q = 6 ∨ q = 9 ∨ q = 10 ∨ q = 11 := by omega
    all_goals rfl
theorem fjE_none {i : Nat} {X : Nat → Nat} {s : Nat → Int32} {A : Nat → Nat → Int32} {q : Nat} (h0 : q ≠ 0) (h : q < X 2 + 7 ∨ X 2 + 9 ≤ q ∧ q < X 2 + 12 ∨ X 2 + 15 ≤ q) : fjE i X s A q = none := by
  unfold fjE
  rw [if_neg h0]
  by_cases c : X 2 < q
  · rw [if_pos c]
    exact fjG_none (by omega)
  · rw [if_neg c]
theorem fjG_u3 {A : Nat → Nat → Int32} {g : Nat → Int32} (j : Nat) (h : j ≠ 7) : fjG (va_up A 3 g) j = fjG A j := match j, h with | 0, h => rfl | 1, h => rfl | 2, h => rfl | 3, h => rfl | 4, h => rfl | 5, h => rfl | 6, h => rfl | 7, h => absurd rfl h | 8, h => rfl | 9, h => rfl | 10, h => rfl | 11, h => rfl | 12, h => rfl | 13, h => rfl | 14, h => rfl | j + 15, _ => rfl
theorem fjG_u4 {A : Nat → Nat → Int32} {g : Nat → Int32} (j : Nat) (h : j ≠ 8) : fjG (va_up A 4 g) j = fjG A j := match j, h with | 0, h => rfl | 1, h => rfl | 2, h => rfl | 3, h => rfl | 4, h => rfl | 5, h => rfl | 6, h => rfl | 7, h => rfl | 8, h => absurd rfl h | 9, h => rfl | 10, h => rfl | 11, h => rfl | 12, h => rfl | 13, h => rfl | 14, h => rfl | j + 15, _ => rfl
theorem fjG_u7 {A : Nat → Nat → Int32} {g : Nat → Int32} (j : Nat) (h : j ≠ 12) : fjG (va_up A 7 g) j = fjG A j := match j, h with | 0, h => rfl | 1, h => rfl | 2, h => rfl | 3, h => rfl | 4, h => rfl | 5, h => rfl | 6, h => rfl | 7, h => rfl | 8, h => rfl | 9, h => rfl | 10, h => rfl | 11, h => rfl | 12, h => absurd rfl h | 13, h => rfl | 14, h => rfl | j + 15, _ => rfl
theorem fjG_u9 {A : Nat → Nat → Int32} {g : Nat → Int32} (j : Nat) (h : j ≠ 13) : fjG (va_up A 9 g) j = fjG A j := match j, h with | 0, h => rfl | 1, h => rfl | 2, h => rfl | 3, h => rfl | 4, h => rfl | 5, h => rfl | 6, h => rfl | 7, h => rfl | 8, h => rfl | 9, h => rfl | 10, h => rfl | 11, h => rfl | 12, h => rfl | 13, h => absurd rfl h | 14, h => rfl | j + 15, _ => rfl
theorem fjG_u11 {A : Nat → Nat → Int32} {g : Nat → Int32} (j : Nat) (h : j ≠ 14) : fjG (va_up A 11 g) j = fjG A j := match j, h with | 0, h => rfl | 1, h => rfl | 2, h => rfl | 3, h => rfl | 4, h => rfl | 5, h => rfl | 6, h => rfl | 7, h => rfl | 8, h => rfl | 9, h => rfl | 10, h => rfl | 11, h => rfl | 12, h => rfl | 13, h => rfl | 14, h => absurd rfl h | j + 15, _ => rfl
theorem fjE_u {i : Nat} {X : Nat → Nat} {s : Nat → Int32} {A : Nat → Nat → Int32} {A' : Nat → Nat → Int32} {c : Nat} (h : ∀ j, j ≠ c → fjG A' j = fjG A j) (j : Nat) (hj : j ≠ X 2 + c) : fjE i X s A' j = fjE i X s A j := by
  unfold fjE
  by_cases c1 : j = 0
  · rw [if_pos c1, if_pos c1]
  · rw [if_neg c1, if_neg c1]
    by_cases c2 : X 2 < j
    · rw [if_pos c2, if_pos c2]
      exact h _ (by omega)
    · rw [if_neg c2, if_neg c2]
theorem fjE_s {i : Nat} {X : Nat → Nat} {s : Nat → Int32} {A : Nat → Nat → Int32} {s' : Nat → Int32} (j : Nat) (hj : j ≠ 0) : fjE i X s' A j = fjE i X s A j := by
  unfold fjE
  rw [if_neg hj, if_neg hj]
theorem fj_0 {M0 : qM} {i : Nat} {X : Nat → Nat} {s : Nat → Int32} {A : Nat → Nat → Int32} : (q_fj M0 i X s A).2 i = some (.inr (2, fjO i X s)) := q_og_k (k := 0) fjE_0
theorem fjO_len {i : Nat} {X : Nat → Nat} {s : Nat → Int32} : (fjO i X s).length = 17 := Eq.trans rfl rfl
theorem fjO_0 {i : Nat} {X : Nat → Nat} {s : Nat → Int32} : (fjO i X s)[0]? = some (.ref (X 0)) := Eq.trans rfl rfl
theorem fjO_1 {i : Nat} {X : Nat → Nat} {s : Nat → Int32} : (fjO i X s)[1]? = some (.ref (X 1)) := Eq.trans rfl rfl
theorem fjO_2 {i : Nat} {X : Nat → Nat} {s : Nat → Int32} : (fjO i X s)[2]? = some (.ref (i + X 2 + 1)) := Eq.trans rfl rfl
theorem fjO_3 {i : Nat} {X : Nat → Nat} {s : Nat → Int32} : (fjO i X s)[3]? = some (.ref (i + X 2 + 7)) := Eq.trans rfl rfl
theorem fjO_4 {i : Nat} {X : Nat → Nat} {s : Nat → Int32} : (fjO i X s)[4]? = some (.ref (i + X 2 + 8)) := Eq.trans rfl rfl
theorem fjO_5 {i : Nat} {X : Nat → Nat} {s : Nat → Int32} : (fjO i X s)[5]? = some (.ref (i + X 2 + 9)) := Eq.trans rfl rfl
theorem fjO_6 {i : Nat} {X : Nat → Nat} {s : Nat → Int32} : (fjO i X s)[6]? = some (.int (s 6)) := Eq.trans rfl rfl
theorem fjOs_6 {M0 : qM} {i : Nat} {X : Nat → Nat} {s : Nat → Int32} {A : Nat → Nat → Int32} {v : Int32} : q_set (q_fj M0 i X s A) i (.inr (2, (fjO i X s).set 6 (.int v))) = q_fj M0 i X (va_up s 6 v) A := q_og_set (k := 0) (fjE_0.trans rfl) (fun j h => fjE_s j h)
theorem fjO_7 {i : Nat} {X : Nat → Nat} {s : Nat → Int32} : (fjO i X s)[7]? = some (.ref (i + X 2 + 12)) := Eq.trans rfl rfl
theorem fjO_8 {i : Nat} {X : Nat → Nat} {s : Nat → Int32} : (fjO i X s)[8]? = some (.int (s 8)) := Eq.trans rfl rfl
theorem fjOs_8 {M0 : qM} {i : Nat} {X : Nat → Nat} {s : Nat → Int32} {A : Nat → Nat → Int32} {v : Int32} : q_set (q_fj M0 i X s A) i (.inr (2, (fjO i X s).set 8 (.int v))) = q_fj M0 i X (va_up s 8 v) A := q_og_set (k := 0) (fjE_0.trans rfl) (fun j h => fjE_s j h)
theorem fjO_9 {i : Nat} {X : Nat → Nat} {s : Nat → Int32} : (fjO i X s)[9]? = some (.ref (i + X 2 + 13)) := Eq.trans rfl rfl
theorem fjO_10 {i : Nat} {X : Nat → Nat} {s : Nat → Int32} : (fjO i X s)[10]? = some (.int (s 10)) := Eq.trans rfl rfl
theorem fjOs_10 {M0 : qM} {i : Nat} {X : Nat → Nat} {s : Nat → Int32} {A : Nat → Nat → Int32} {v : Int32} : q_set (q_fj M0 i X s A) i (.inr (2, (fjO i X s).set 10 (.int v))) = q_fj M0 i X (va_up s 10 v) A := q_og_set (k := 0) (fjE_0.trans rfl) (fun j h => fjE_s j h)
theorem fjO_11 {i : Nat} {X : Nat → Nat} {s : Nat → Int32} : (fjO i X s)[11]? = some (.ref (i + X 2 + 14)) := Eq.trans rfl rfl
theorem fjO_12 {i : Nat} {X : Nat → Nat} {s : Nat → Int32} : (fjO i X s)[12]? = some (.int (s 12)) := Eq.trans rfl rfl
theorem fjOs_12 {M0 : qM} {i : Nat} {X : Nat → Nat} {s : Nat → Int32} {A : Nat → Nat → Int32} {v : Int32} : q_set (q_fj M0 i X s A) i (.inr (2, (fjO i X s).set 12 (.int v))) = q_fj M0 i X (va_up s 12 v) A := q_og_set (k := 0) (fjE_0.trans rfl) (fun j h => fjE_s j h)
theorem fjO_13 {i : Nat} {X : Nat → Nat} {s : Nat → Int32} : (fjO i X s)[13]? = some (.int (s 13)) := Eq.trans rfl rfl
theorem fjOs_13 {M0 : qM} {i : Nat} {X : Nat → Nat} {s : Nat → Int32} {A : Nat → Nat → Int32} {v : Int32} : q_set (q_fj M0 i X s A) i (.inr (2, (fjO i X s).set 13 (.int v))) = q_fj M0 i X (va_up s 13 v) A := q_og_set (k := 0) (fjE_0.trans rfl) (fun j h => fjE_s j h)
theorem fjO_14 {i : Nat} {X : Nat → Nat} {s : Nat → Int32} : (fjO i X s)[14]? = some (.int (s 14)) := Eq.trans rfl rfl
theorem fjOs_14 {M0 : qM} {i : Nat} {X : Nat → Nat} {s : Nat → Int32} {A : Nat → Nat → Int32} {v : Int32} : q_set (q_fj M0 i X s A) i (.inr (2, (fjO i X s).set 14 (.int v))) = q_fj M0 i X (va_up s 14 v) A := q_og_set (k := 0) (fjE_0.trans rfl) (fun j h => fjE_s j h)
theorem fjO_15 {i : Nat} {X : Nat → Nat} {s : Nat → Int32} : (fjO i X s)[15]? = some (.int (s 15)) := Eq.trans rfl rfl
theorem fjOs_15 {M0 : qM} {i : Nat} {X : Nat → Nat} {s : Nat → Int32} {A : Nat → Nat → Int32} {v : Int32} : q_set (q_fj M0 i X s A) i (.inr (2, (fjO i X s).set 15 (.int v))) = q_fj M0 i X (va_up s 15 v) A := q_og_set (k := 0) (fjE_0.trans rfl) (fun j h => fjE_s j h)
theorem fjO_16 {i : Nat} {X : Nat → Nat} {s : Nat → Int32} : (fjO i X s)[16]? = some (.int (s 16)) := Eq.trans rfl rfl
theorem fjOs_16 {M0 : qM} {i : Nat} {X : Nat → Nat} {s : Nat → Int32} {A : Nat → Nat → Int32} {v : Int32} : q_set (q_fj M0 i X s A) i (.inr (2, (fjO i X s).set 16 (.int v))) = q_fj M0 i X (va_up s 16 v) A := q_og_set (k := 0) (fjE_0.trans rfl) (fun j h => fjE_s j h)
theorem fj_a3 {M0 : qM} {i : Nat} {X : Nat → Nat} {s : Nat → Int32} {A : Nat → Nat → Int32} : (q_fj M0 i X s A).2 (i + X 2 + 7) = some (.inl (1, 4937, .inl (A 3))) := by
  rw [Nat.add_assoc]
  exact q_og_k ((fjE_at 7 (by decide)).trans rfl)
theorem fjs_a3 {M0 : qM} {i : Nat} {X : Nat → Nat} {s : Nat → Int32} {A : Nat → Nat → Int32} {g : Nat → Int32} : q_set (q_fj M0 i X s A) (i + X 2 + 7) (.inl (1, 4937, .inl g)) = q_fj M0 i X s (va_up A 3 g) := by
  rw [Nat.add_assoc]
  exact q_og_set (k := X 2 + 7) ((fjE_at 7 (by decide)).trans rfl) (fjE_u fjG_u3)
theorem fj_a4 {M0 : qM} {i : Nat} {X : Nat → Nat} {s : Nat → Int32} {A : Nat → Nat → Int32} : (q_fj M0 i X s A).2 (i + X 2 + 8) = some (.inl (1, 4937, .inl (A 4))) := by
  rw [Nat.add_assoc]
  exact q_og_k ((fjE_at 8 (by decide)).trans rfl)
theorem fjs_a4 {M0 : qM} {i : Nat} {X : Nat → Nat} {s : Nat → Int32} {A : Nat → Nat → Int32} {g : Nat → Int32} : q_set (q_fj M0 i X s A) (i + X 2 + 8) (.inl (1, 4937, .inl g)) = q_fj M0 i X s (va_up A 4 g) := by
  rw [Nat.add_assoc]
  exact q_og_set (k := X 2 + 8) ((fjE_at 8 (by decide)).trans rfl) (fjE_u fjG_u4)
theorem fj_a7 {M0 : qM} {i : Nat} {X : Nat → Nat} {s : Nat → Int32} {A : Nat → Nat → Int32} : (q_fj M0 i X s A).2 (i + X 2 + 12) = some (.inl (1, 1284, .inl (A 7))) := by
  rw [Nat.add_assoc]
  exact q_og_k ((fjE_at 12 (by decide)).trans rfl)
theorem fjs_a7 {M0 : qM} {i : Nat} {X : Nat → Nat} {s : Nat → Int32} {A : Nat → Nat → Int32} {g : Nat → Int32} : q_set (q_fj M0 i X s A) (i + X 2 + 12) (.inl (1, 1284, .inl g)) = q_fj M0 i X s (va_up A 7 g) := by
  rw [Nat.add_assoc]
  exact q_og_set (k := X 2 + 12) ((fjE_at 12 (by decide)).trans rfl) (fjE_u fjG_u7)
theorem fj_a9 {M0 : qM} {i : Nat} {X : Nat → Nat} {s : Nat → Int32} {A : Nat → Nat → Int32} : (q_fj M0 i X s A).2 (i + X 2 + 13) = some (.inl (1, 40, .inl (A 9))) := by
  rw [Nat.add_assoc]
  exact q_og_k ((fjE_at 13 (by decide)).trans rfl)
theorem fjs_a9 {M0 : qM} {i : Nat} {X : Nat → Nat} {s : Nat → Int32} {A : Nat → Nat → Int32} {g : Nat → Int32} : q_set (q_fj M0 i X s A) (i + X 2 + 13) (.inl (1, 40, .inl g)) = q_fj M0 i X s (va_up A 9 g) := by
  rw [Nat.add_assoc]
  exact q_og_set (k := X 2 + 13) ((fjE_at 13 (by decide)).trans rfl) (fjE_u fjG_u9)
theorem fj_a11 {M0 : qM} {i : Nat} {X : Nat → Nat} {s : Nat → Int32} {A : Nat → Nat → Int32} : (q_fj M0 i X s A).2 (i + X 2 + 14) = some (.inl (1, 1284, .inl (A 11))) := by
  rw [Nat.add_assoc]
  exact q_og_k ((fjE_at 14 (by decide)).trans rfl)
theorem fjs_a11 {M0 : qM} {i : Nat} {X : Nat → Nat} {s : Nat → Int32} {A : Nat → Nat → Int32} {g : Nat → Int32} : q_set (q_fj M0 i X s A) (i + X 2 + 14) (.inl (1, 1284, .inl g)) = q_fj M0 i X s (va_up A 11 g) := by
  rw [Nat.add_assoc]
  exact q_og_set (k := X 2 + 14) ((fjE_at 14 (by decide)).trans rfl) (fjE_u fjG_u11)
