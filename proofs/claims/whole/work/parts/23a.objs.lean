/-! the class's objects -/
def q_og (M0 : qM) (i : Nat) (E : Nat → Option qE) : qM := (M0.1, fun a => if i ≤ a then (match E (a - i) with
  | some e => some e
  | none => M0.2 a) else M0.2 a)
theorem q_og_1 {M0 : qM} {i : Nat} {E : Nat → Option qE} : (q_og M0 i E).1 = M0.1 := Eq.trans rfl rfl
theorem q_og_k {M0 : qM} {i : Nat} {E : Nat → Option qE} {k : Nat} {e : qE} (h : E k = some e) : (q_og M0 i E).2 (i + k) = some e := by
  show (if i ≤ i + k then (match E (i + k - i) with
  | some e => some e
  | none => M0.2 (i + k)) else M0.2 (i + k)) = _
  rw [if_pos (Nat.le_add_right _ _), Nat.add_sub_cancel_left, h]
theorem q_og_out {M0 : qM} {i : Nat} {E : Nat → Option qE} {a : Nat} (h : a < i ∨ E (a - i) = none) : (q_og M0 i E).2 a = M0.2 a := by
  show (if i ≤ a then (match E (a - i) with
  | some e => some e
  | none => M0.2 a) else M0.2 a) = _
  rcases h with h | h
  · rw [if_neg (by omega)]
  · rw [h]
    split <;> rfl
theorem q_og_set {M0 : qM} {i k : Nat} {E E' : Nat → Option qE} {e : qE} (h : E' k = some e) (ho : ∀ j, j ≠ k → E' j = E j) : q_set (q_og M0 i E) (i + k) e = q_og M0 i E' := by
  refine Prod.ext rfl (funext fun a => ?_)
  show va_up (q_og M0 i E).2 (i + k) (some e) a = (q_og M0 i E').2 a
  by_cases ha : a = i + k
  · subst ha
    rw [va_up_self, q_og_k h]
  · rw [va_up_ne _ _ ha]
    show (if i ≤ a then (match E (a - i) with
  | some e => some e
  | none => M0.2 a) else M0.2 a) = (if i ≤ a then (match E' (a - i) with
  | some e => some e
  | none => M0.2 a) else M0.2 a)
    by_cases h2 : i ≤ a
    · rw [if_pos h2, if_pos h2, ho (a - i) (by omega)]
    · rw [if_neg h2, if_neg h2]
/-- two pictures side by side -/
theorem q_og_comm {M : qM} {i j : Nat} {E F : Nat → Option qE} (h : ∀ a, i ≤ a → j ≤ a → E (a - i) = none ∨ F (a - j) = none) : q_og (q_og M i E) j F = q_og (q_og M j F) i E := by
  refine Prod.ext rfl (funext fun a => ?_)
  by_cases h1 : i ≤ a
  · by_cases h2 : j ≤ a
    · rcases h a h1 h2 with g | g
      · rw [q_og_out (i := i) (E := E) (Or.inr g)]
        show (if j ≤ a then (match F (a - j) with
  | some e => some e
  | none => (q_og M i E).2 a) else (q_og M i E).2 a) = (if j ≤ a then (match F (a - j) with
  | some e => some e
  | none => M.2 a) else M.2 a)
        rw [q_og_out (i := i) (E := E) (Or.inr g)]
      · rw [q_og_out (i := j) (E := F) (Or.inr g)]
        show (if i ≤ a then (match E (a - i) with
  | some e => some e
  | none => M.2 a) else M.2 a) = (if i ≤ a then (match E (a - i) with
  | some e => some e
  | none => (q_og M j F).2 a) else (q_og M j F).2 a)
        rw [q_og_out (i := j) (E := F) (Or.inr g)]
    · rw [q_og_out (i := j) (E := F) (Or.inl (by omega))]
      show (if i ≤ a then (match E (a - i) with
  | some e => some e
  | none => M.2 a) else M.2 a) = (if i ≤ a then (match E (a - i) with
  | some e => some e
  | none => (q_og M j F).2 a) else (q_og M j F).2 a)
      rw [q_og_out (i := j) (E := F) (Or.inl (by omega))]
  · rw [q_og_out (M0 := q_og M j F) (i := i) (E := E) (Or.inl (by omega))]
    show (if j ≤ a then (match F (a - j) with
  | some e => some e
  | none => (q_og M i E).2 a) else (q_og M i E).2 a) = (if j ≤ a then (match F (a - j) with
  | some e => some e
  | none => M.2 a) else M.2 a)
    rw [q_og_out (M0 := M) (i := i) (E := E) (Or.inl (by omega))]
theorem q_og_idem {M : qM} {i : Nat} {E F : Nat → Option qE} (h : ∀ k, F k = none → E k = none) : q_og (q_og M i E) i F = q_og M i F := by
  refine Prod.ext rfl (funext fun a => ?_)
  show (if i ≤ a then (match F (a - i) with
  | some e => some e
  | none => (q_og M i E).2 a) else (q_og M i E).2 a) = (if i ≤ a then (match F (a - i) with
  | some e => some e
  | none => M.2 a) else M.2 a)
  by_cases h1 : i ≤ a
  · rw [if_pos h1, if_pos h1]
    cases hF : F (a - i) with
    | some e => rfl
    | none => exact q_og_out (Or.inr (h _ hF))
  · rw [if_neg h1, if_neg h1]
    exact q_og_out (Or.inl (by omega))
theorem q_og_self {M : qM} {i : Nat} {E : Nat → Option qE} (h : ∀ k e, E k = some e → M.2 (i + k) = some e) : q_og M i E = M := by
  refine Prod.ext rfl (funext fun a => ?_)
  show (if i ≤ a then (match E (a - i) with
  | some e => some e
  | none => M.2 a) else M.2 a) = M.2 a
  by_cases h1 : i ≤ a
  · rw [if_pos h1]
    cases hE : E (a - i) with
    | some e =>
      have := h _ _ hE
      rw [show i + (a - i) = a by omega] at this
      exact this.symm
    | none => rfl
  · rw [if_neg h1]
theorem q_nd_og (M0 : qM) (i n : Nat) (k l r : Nat → Int32) (sz : Nat) : q_nd M0 i n k l r sz = q_og M0 i (ndE i n k l r sz) := by
  refine Prod.ext rfl (funext fun a => ?_)
  by_cases h : i ≤ a ∧ a < i + 4
  · have e : a = i + 0 ∨ a = i + 1 ∨ a = i + 2 ∨ a = i + 3 := by omega
    rcases e with e | e | e | e <;> rw [e]
    · exact nd_0.trans (q_og_k (E := ndE i n k l r sz) (k := 0) rfl).symm
    · exact nd_1.trans (q_og_k (E := ndE i n k l r sz) (k := 1) rfl).symm
    · exact nd_2.trans (q_og_k (E := ndE i n k l r sz) (k := 2) rfl).symm
    · exact nd_3.trans (q_og_k (E := ndE i n k l r sz) (k := 3) rfl).symm
  · have e1 : (q_nd M0 i n k l r sz).2 a = M0.2 a := q_ov_out M0 i 4 _ (by omega)
    rw [e1]
    by_cases h1 : a < i
    · exact (q_og_out (Or.inl h1)).symm
    · refine (q_og_out (Or.inr ?_)).symm
      obtain ⟨c, hc⟩ : ∃ c, a - i = c + 4 := ⟨a - i - 4, by omega⟩
      rw [hc]
      rfl
/-- au -/
def auO (i : Nat) (s : Nat → Int32) : List Value := [.ref (i + 1), .ref (i + 2), .ref (i + 3), .ref (i + 4), .ref (i + 5), .ref (i + 6), .int (s 6), .int (s 7), .int (s 8)]
def auE (i : Nat) (s : Nat → Int32) (A : Nat → Nat → Int32) : Nat → Option qE
  | 0 => some (.inr (0, auO i s))
  | 1 => some (.inl (3, 12, .inl (A 0)))
  | 2 => some (.inl (1, 12, .inl (A 1)))
  | 3 => some (.inl (1, 12, .inl (A 2)))
  | 4 => some (.inl (1, 6, .inl (A 3)))
  | 5 => some (.inl (1, 3, .inl (A 4)))
  | 6 => some (.inl (1, 195, .inl (A 5)))
  | _ => none
def q_au (M0 : qM) (i : Nat) (s : Nat → Int32) (A : Nat → Nat → Int32) : qM := q_og M0 i (auE i s A)
theorem au_0 {M0 : qM} {i : Nat} {s : Nat → Int32} {A : Nat → Nat → Int32} : (q_au M0 i s A).2 i = some (.inr (0, auO i s)) := q_og_k (k := 0) rfl
theorem auO_len {i : Nat} {s : Nat → Int32} : (auO i s).length = 9 := Eq.trans rfl rfl
theorem auO_0 {i : Nat} {s : Nat → Int32} : (auO i s)[0]? = some (.ref (i + 1)) := Eq.trans rfl rfl
theorem auO_1 {i : Nat} {s : Nat → Int32} : (auO i s)[1]? = some (.ref (i + 2)) := Eq.trans rfl rfl
theorem auO_2 {i : Nat} {s : Nat → Int32} : (auO i s)[2]? = some (.ref (i + 3)) := Eq.trans rfl rfl
theorem auO_3 {i : Nat} {s : Nat → Int32} : (auO i s)[3]? = some (.ref (i + 4)) := Eq.trans rfl rfl
theorem auO_4 {i : Nat} {s : Nat → Int32} : (auO i s)[4]? = some (.ref (i + 5)) := Eq.trans rfl rfl
theorem auO_5 {i : Nat} {s : Nat → Int32} : (auO i s)[5]? = some (.ref (i + 6)) := Eq.trans rfl rfl
theorem auO_6 {i : Nat} {s : Nat → Int32} : (auO i s)[6]? = some (.int (s 6)) := Eq.trans rfl rfl
theorem auOs_6 {M0 : qM} {i : Nat} {s : Nat → Int32} {A : Nat → Nat → Int32} {v : Int32} : q_set (q_au M0 i s A) i (.inr (0, (auO i s).set 6 (.int v))) = q_au M0 i (va_up s 6 v) A := q_og_set (k := 0) rfl (fun j h => match j, h with | 0, h => absurd rfl h | 1, h => rfl | 2, h => rfl | 3, h => rfl | 4, h => rfl | 5, h => rfl | 6, h => rfl | j + 7, _ => rfl)
theorem auO_7 {i : Nat} {s : Nat → Int32} : (auO i s)[7]? = some (.int (s 7)) := Eq.trans rfl rfl
theorem auOs_7 {M0 : qM} {i : Nat} {s : Nat → Int32} {A : Nat → Nat → Int32} {v : Int32} : q_set (q_au M0 i s A) i (.inr (0, (auO i s).set 7 (.int v))) = q_au M0 i (va_up s 7 v) A := q_og_set (k := 0) rfl (fun j h => match j, h with | 0, h => absurd rfl h | 1, h => rfl | 2, h => rfl | 3, h => rfl | 4, h => rfl | 5, h => rfl | 6, h => rfl | j + 7, _ => rfl)
theorem auO_8 {i : Nat} {s : Nat → Int32} : (auO i s)[8]? = some (.int (s 8)) := Eq.trans rfl rfl
theorem auOs_8 {M0 : qM} {i : Nat} {s : Nat → Int32} {A : Nat → Nat → Int32} {v : Int32} : q_set (q_au M0 i s A) i (.inr (0, (auO i s).set 8 (.int v))) = q_au M0 i (va_up s 8 v) A := q_og_set (k := 0) rfl (fun j h => match j, h with | 0, h => absurd rfl h | 1, h => rfl | 2, h => rfl | 3, h => rfl | 4, h => rfl | 5, h => rfl | 6, h => rfl | j + 7, _ => rfl)
theorem au_a0 {M0 : qM} {i : Nat} {s : Nat → Int32} {A : Nat → Nat → Int32} : (q_au M0 i s A).2 (i + 1) = some (.inl (3, 12, .inl (A 0))) := q_og_k (k := 1) rfl
theorem aus_a0 {M0 : qM} {i : Nat} {s : Nat → Int32} {A : Nat → Nat → Int32} {g : Nat → Int32} : q_set (q_au M0 i s A) (i + 1) (.inl (3, 12, .inl g)) = q_au M0 i s (va_up A 0 g) := q_og_set (k := 1) rfl (fun j h => match j, h with | 0, h => rfl | 1, h => absurd rfl h | 2, h => rfl | 3, h => rfl | 4, h => rfl | 5, h => rfl | 6, h => rfl | j + 7, _ => rfl)
theorem au_a1 {M0 : qM} {i : Nat} {s : Nat → Int32} {A : Nat → Nat → Int32} : (q_au M0 i s A).2 (i + 2) = some (.inl (1, 12, .inl (A 1))) := q_og_k (k := 2) rfl
theorem aus_a1 {M0 : qM} {i : Nat} {s : Nat → Int32} {A : Nat → Nat → Int32} {g : Nat → Int32} : q_set (q_au M0 i s A) (i + 2) (.inl (1, 12, .inl g)) = q_au M0 i s (va_up A 1 g) := q_og_set (k := 2) rfl (fun j h => match j, h with | 0, h => rfl | 1, h => rfl | 2, h => absurd rfl h | 3, h => rfl | 4, h => rfl | 5, h => rfl | 6, h => rfl | j + 7, _ => rfl)
theorem au_a2 {M0 : qM} {i : Nat} {s : Nat → Int32} {A : Nat → Nat → Int32} : (q_au M0 i s A).2 (i + 3) = some (.inl (1, 12, .inl (A 2))) := q_og_k (k := 3) rfl
theorem aus_a2 {M0 : qM} {i : Nat} {s : Nat → Int32} {A : Nat → Nat → Int32} {g : Nat → Int32} : q_set (q_au M0 i s A) (i + 3) (.inl (1, 12, .inl g)) = q_au M0 i s (va_up A 2 g) := q_og_set (k := 3) rfl (fun j h => match j, h with | 0, h => rfl | 1, h => rfl | 2, h => rfl | 3, h => absurd rfl h | 4, h => rfl | 5, h => rfl | 6, h => rfl | j + 7, _ => rfl)
theorem au_a3 {M0 : qM} {i : Nat} {s : Nat → Int32} {A : Nat → Nat → Int32} : (q_au M0 i s A).2 (i + 4) = some (.inl (1, 6, .inl (A 3))) := q_og_k (k := 4) rfl
theorem aus_a3 {M0 : qM} {i : Nat} {s : Nat → Int32} {A : Nat → Nat → Int32} {g : Nat → Int32} : q_set (q_au M0 i s A) (i + 4) (.inl (1, 6, .inl g)) = q_au M0 i s (va_up A 3 g) := q_og_set (k := 4) rfl (fun j h => match j, h with | 0, h => rfl | 1, h => rfl | 2, h => rfl | 3, h => rfl | 4, h => absurd rfl h | 5, h => rfl | 6, h => rfl | j + 7, _ => rfl)
theorem au_a4 {M0 : qM} {i : Nat} {s : Nat → Int32} {A : Nat → Nat → Int32} : (q_au M0 i s A).2 (i + 5) = some (.inl (1, 3, .inl (A 4))) := q_og_k (k := 5) rfl
theorem aus_a4 {M0 : qM} {i : Nat} {s : Nat → Int32} {A : Nat → Nat → Int32} {g : Nat → Int32} : q_set (q_au M0 i s A) (i + 5) (.inl (1, 3, .inl g)) = q_au M0 i s (va_up A 4 g) := q_og_set (k := 5) rfl (fun j h => match j, h with | 0, h => rfl | 1, h => rfl | 2, h => rfl | 3, h => rfl | 4, h => rfl | 5, h => absurd rfl h | 6, h => rfl | j + 7, _ => rfl)
theorem au_a5 {M0 : qM} {i : Nat} {s : Nat → Int32} {A : Nat → Nat → Int32} : (q_au M0 i s A).2 (i + 6) = some (.inl (1, 195, .inl (A 5))) := q_og_k (k := 6) rfl
theorem aus_a5 {M0 : qM} {i : Nat} {s : Nat → Int32} {A : Nat → Nat → Int32} {g : Nat → Int32} : q_set (q_au M0 i s A) (i + 6) (.inl (1, 195, .inl g)) = q_au M0 i s (va_up A 5 g) := q_og_set (k := 6) rfl (fun j h => match j, h with | 0, h => rfl | 1, h => rfl | 2, h => rfl | 3, h => rfl | 4, h => rfl | 5, h => rfl | 6, h => absurd rfl h | j + 7, _ => rfl)
/-- rd -/
def rdO (i : Nat) (s : Nat → Int32) : List Value := [.ref (i + 1), .int (s 1), .ref (i + 2), .ref (i + 6), .int (s 4), .int (s 5), .int (s 6)]
def rdE (i : Nat) (s : Nat → Int32) (A : Nat → Nat → Int32) : Nat → Option qE
  | 0 => some (.inr (6, rdO i s))
  | 1 => some (.inl (1, 60, .inl (A 0)))
  | 6 => some (.inl (1, 60, .inl (A 3)))
  | _ => none
def q_rd (M0 : qM) (i : Nat) (s : Nat → Int32) (A : Nat → Nat → Int32) : qM := q_og M0 i (rdE i s A)
theorem rd_0 {M0 : qM} {i : Nat} {s : Nat → Int32} {A : Nat → Nat → Int32} : (q_rd M0 i s A).2 i = some (.inr (6, rdO i s)) := q_og_k (k := 0) rfl
theorem rdO_len {i : Nat} {s : Nat → Int32} : (rdO i s).length = 7 := Eq.trans rfl rfl
theorem rdO_0 {i : Nat} {s : Nat → Int32} : (rdO i s)[0]? = some (.ref (i + 1)) := Eq.trans rfl rfl
theorem rdO_1 {i : Nat} {s : Nat → Int32} : (rdO i s)[1]? = some (.int (s 1)) := Eq.trans rfl rfl
theorem rdOs_1 {M0 : qM} {i : Nat} {s : Nat → Int32} {A : Nat → Nat → Int32} {v : Int32} : q_set (q_rd M0 i s A) i (.inr (6, (rdO i s).set 1 (.int v))) = q_rd M0 i (va_up s 1 v) A := q_og_set (k := 0) rfl (fun j h => match j, h with | 0, h => absurd rfl h | 1, h => rfl | 2, h => rfl | 3, h => rfl | 4, h => rfl | 5, h => rfl | 6, h => rfl | j + 7, _ => rfl)
theorem rdO_2 {i : Nat} {s : Nat → Int32} : (rdO i s)[2]? = some (.ref (i + 2)) := Eq.trans rfl rfl
theorem rdO_3 {i : Nat} {s : Nat → Int32} : (rdO i s)[3]? = some (.ref (i + 6)) := Eq.trans rfl rfl
theorem rdO_4 {i : Nat} {s : Nat → Int32} : (rdO i s)[4]? = some (.int (s 4)) := Eq.trans rfl rfl
theorem rdOs_4 {M0 : qM} {i : Nat} {s : Nat → Int32} {A : Nat → Nat → Int32} {v : Int32} : q_set (q_rd M0 i s A) i (.inr (6, (rdO i s).set 4 (.int v))) = q_rd M0 i (va_up s 4 v) A := q_og_set (k := 0) rfl (fun j h => match j, h with | 0, h => absurd rfl h | 1, h => rfl | 2, h => rfl | 3, h => rfl | 4, h => rfl | 5, h => rfl | 6, h => rfl | j + 7, _ => rfl)
theorem rdO_5 {i : Nat} {s : Nat → Int32} : (rdO i s)[5]? = some (.int (s 5)) := Eq.trans rfl rfl
theorem rdOs_5 {M0 : qM} {i : Nat} {s : Nat → Int32} {A : Nat → Nat → Int32} {v : Int32} : q_set (q_rd M0 i s A) i (.inr (6, (rdO i s).set 5 (.int v))) = q_rd M0 i (va_up s 5 v) A := q_og_set (k := 0) rfl (fun j h => match j, h with | 0, h => absurd rfl h | 1, h => rfl | 2, h => rfl | 3, h => rfl | 4, h => rfl | 5, h => rfl | 6, h => rfl | j + 7, _ => rfl)
theorem rdO_6 {i : Nat} {s : Nat → Int32} : (rdO i s)[6]? = some (.int (s 6)) := Eq.trans rfl rfl
theorem rdOs_6 {M0 : qM} {i : Nat} {s : Nat → Int32} {A : Nat → Nat → Int32} {v : Int32} : q_set (q_rd M0 i s A) i (.inr (6, (rdO i s).set 6 (.int v))) = q_rd M0 i (va_up s 6 v) A := q_og_set (k := 0) rfl (fun j h => match j, h with | 0, h => absurd rfl h | 1, h => rfl | 2, h => rfl | 3, h => rfl | 4, h => rfl | 5, h => rfl | 6, h => rfl | j + 7, _ => rfl)
theorem rd_a0 {M0 : qM} {i : Nat} {s : Nat → Int32} {A : Nat → Nat → Int32} : (q_rd M0 i s A).2 (i + 1) = some (.inl (1, 60, .inl (A 0))) := q_og_k (k := 1) rfl
theorem rds_a0 {M0 : qM} {i : Nat} {s : Nat → Int32} {A : Nat → Nat → Int32} {g : Nat → Int32} : q_set (q_rd M0 i s A) (i + 1) (.inl (1, 60, .inl g)) = q_rd M0 i s (va_up A 0 g) := q_og_set (k := 1) rfl (fun j h => match j, h with | 0, h => rfl | 1, h => absurd rfl h | 2, h => rfl | 3, h => rfl | 4, h => rfl | 5, h => rfl | 6, h => rfl | j + 7, _ => rfl)
theorem rd_a3 {M0 : qM} {i : Nat} {s : Nat → Int32} {A : Nat → Nat → Int32} : (q_rd M0 i s A).2 (i + 6) = some (.inl (1, 60, .inl (A 3))) := q_og_k (k := 6) rfl
theorem rds_a3 {M0 : qM} {i : Nat} {s : Nat → Int32} {A : Nat → Nat → Int32} {g : Nat → Int32} : q_set (q_rd M0 i s A) (i + 6) (.inl (1, 60, .inl g)) = q_rd M0 i s (va_up A 3 g) := q_og_set (k := 6) rfl (fun j h => match j, h with | 0, h => rfl | 1, h => rfl | 2, h => rfl | 3, h => rfl | 4, h => rfl | 5, h => rfl | 6, h => absurd rfl h | j + 7, _ => rfl)
/-- wr -/
def wrO (i : Nat) (s : Nat → Int32) : List Value := [.ref (i + 1), .int (s 1)]
def wrE (i : Nat) (s : Nat → Int32) (A : Nat → Nat → Int32) : Nat → Option qE
  | 0 => some (.inr (10, wrO i s))
  | 1 => some (.inl (1, 128, .inl (A 0)))
  | _ => none
def q_wr (M0 : qM) (i : Nat) (s : Nat → Int32) (A : Nat → Nat → Int32) : qM := q_og M0 i (wrE i s A)
theorem wr_0 {M0 : qM} {i : Nat} {s : Nat → Int32} {A : Nat → Nat → Int32} : (q_wr M0 i s A).2 i = some (.inr (10, wrO i s)) := q_og_k (k := 0) rfl
theorem wrO_len {i : Nat} {s : Nat → Int32} : (wrO i s).length = 2 := Eq.trans rfl rfl
theorem wrO_0 {i : Nat} {s : Nat → Int32} : (wrO i s)[0]? = some (.ref (i + 1)) := Eq.trans rfl rfl
theorem wrO_1 {i : Nat} {s : Nat → Int32} : (wrO i s)[1]? = some (.int (s 1)) := Eq.trans rfl rfl
theorem wrOs_1 {M0 : qM} {i : Nat} {s : Nat → Int32} {A : Nat → Nat → Int32} {v : Int32} : q_set (q_wr M0 i s A) i (.inr (10, (wrO i s).set 1 (.int v))) = q_wr M0 i (va_up s 1 v) A := q_og_set (k := 0) rfl (fun j h => match j, h with | 0, h => absurd rfl h | 1, h => rfl | j + 2, _ => rfl)
theorem wr_a0 {M0 : qM} {i : Nat} {s : Nat → Int32} {A : Nat → Nat → Int32} : (q_wr M0 i s A).2 (i + 1) = some (.inl (1, 128, .inl (A 0))) := q_og_k (k := 1) rfl
theorem wrs_a0 {M0 : qM} {i : Nat} {s : Nat → Int32} {A : Nat → Nat → Int32} {g : Nat → Int32} : q_set (q_wr M0 i s A) (i + 1) (.inl (1, 128, .inl g)) = q_wr M0 i s (va_up A 0 g) := q_og_set (k := 1) rfl (fun j h => match j, h with | 0, h => rfl | 1, h => absurd rfl h | j + 2, _ => rfl)
/-- wa -/
def waO (i : Nat) : List Value := [.ref (i + 1)]
def waE (i : Nat) (A : Nat → Nat → Int32) : Nat → Option qE
  | 0 => some (.inr (9, waO i))
  | 1 => some (.inl (1, 845, .inl (A 0)))
  | _ => none
def q_wa (M0 : qM) (i : Nat) (A : Nat → Nat → Int32) : qM := q_og M0 i (waE i A)
theorem wa_0 {M0 : qM} {i : Nat} {A : Nat → Nat → Int32} : (q_wa M0 i A).2 i = some (.inr (9, waO i)) := q_og_k (k := 0) rfl
theorem waO_len {i : Nat} : (waO i).length = 1 := Eq.trans rfl rfl
theorem waO_0 {i : Nat} : (waO i)[0]? = some (.ref (i + 1)) := Eq.trans rfl rfl
theorem wa_a0 {M0 : qM} {i : Nat} {A : Nat → Nat → Int32} : (q_wa M0 i A).2 (i + 1) = some (.inl (1, 845, .inl (A 0))) := q_og_k (k := 1) rfl
theorem was_a0 {M0 : qM} {i : Nat} {A : Nat → Nat → Int32} {g : Nat → Int32} : q_set (q_wa M0 i A) (i + 1) (.inl (1, 845, .inl g)) = q_wa M0 i (va_up A 0 g) := q_og_set (k := 1) rfl (fun j h => match j, h with | 0, h => rfl | 1, h => absurd rfl h | j + 2, _ => rfl)
/-- sp -/
def spO (i : Nat) : List Value := [.ref (i + 2), .ref (i + 1)]
def spE (i : Nat) (n : Nat) (B : Nat → Nat → Int64) : Nat → Option qE
  | 0 => some (.inr (8, spO i))
  | 1 => some (.inl (2, 3, .inr (.inl (B 1))))
  | 2 => some (.inl (2, n, .inr (.inl (B 0))))
  | _ => none
def q_sp (M0 : qM) (i : Nat) (n : Nat) (B : Nat → Nat → Int64) : qM := q_og M0 i (spE i n B)
theorem sp_0 {M0 : qM} {i : Nat} {n : Nat} {B : Nat → Nat → Int64} : (q_sp M0 i n B).2 i = some (.inr (8, spO i)) := q_og_k (k := 0) rfl
theorem spO_len {i : Nat} : (spO i).length = 2 := Eq.trans rfl rfl
theorem spO_0 {i : Nat} : (spO i)[0]? = some (.ref (i + 2)) := Eq.trans rfl rfl
theorem spO_1 {i : Nat} : (spO i)[1]? = some (.ref (i + 1)) := Eq.trans rfl rfl
theorem sp_a0 {M0 : qM} {i : Nat} {n : Nat} {B : Nat → Nat → Int64} : (q_sp M0 i n B).2 (i + 2) = some (.inl (2, n, .inr (.inl (B 0)))) := q_og_k (k := 2) rfl
theorem sps_a0 {M0 : qM} {i : Nat} {n : Nat} {B : Nat → Nat → Int64} {g : Nat → Int64} : q_set (q_sp M0 i n B) (i + 2) (.inl (2, n, .inr (.inl g))) = q_sp M0 i n (va_up B 0 g) := q_og_set (k := 2) rfl (fun j h => match j, h with | 0, h => rfl | 1, h => rfl | 2, h => absurd rfl h | j + 3, _ => rfl)
theorem sp_a1 {M0 : qM} {i : Nat} {n : Nat} {B : Nat → Nat → Int64} : (q_sp M0 i n B).2 (i + 1) = some (.inl (2, 3, .inr (.inl (B 1)))) := q_og_k (k := 1) rfl
theorem sps_a1 {M0 : qM} {i : Nat} {n : Nat} {B : Nat → Nat → Int64} {g : Nat → Int64} : q_set (q_sp M0 i n B) (i + 1) (.inl (2, 3, .inr (.inl g))) = q_sp M0 i n (va_up B 1 g) := q_og_set (k := 1) rfl (fun j h => match j, h with | 0, h => rfl | 1, h => absurd rfl h | 2, h => rfl | j + 3, _ => rfl)
/-- sh -/
def shO (i : Nat) (s : Nat → Int32) : List Value := [.ref (i + 1), .ref (i + 2), .ref (i + 3), .ref (i + 4), .int (s 4), .int (s 5)]
def shE (i : Nat) (s : Nat → Int32) (A : Nat → Nat → Int32) : Nat → Option qE
  | 0 => some (.inr (7, shO i s))
  | 1 => some (.inl (1, 20, .inl (A 0)))
  | 2 => some (.inl (1, 20, .inl (A 1)))
  | 3 => some (.inl (1, 20, .inl (A 2)))
  | 4 => some (.inl (1, 20, .inl (A 3)))
  | _ => none
def q_sh (M0 : qM) (i : Nat) (s : Nat → Int32) (A : Nat → Nat → Int32) : qM := q_og M0 i (shE i s A)
theorem sh_0 {M0 : qM} {i : Nat} {s : Nat → Int32} {A : Nat → Nat → Int32} : (q_sh M0 i s A).2 i = some (.inr (7, shO i s)) := q_og_k (k := 0) rfl
theorem shO_len {i : Nat} {s : Nat → Int32} : (shO i s).length = 6 := Eq.trans rfl rfl
theorem shO_0 {i : Nat} {s : Nat → Int32} : (shO i s)[0]? = some (.ref (i + 1)) := Eq.trans rfl rfl
theorem shO_1 {i : Nat} {s : Nat → Int32} : (shO i s)[1]? = some (.ref (i + 2)) := Eq.trans rfl rfl
theorem shO_2 {i : Nat} {s : Nat → Int32} : (shO i s)[2]? = some (.ref (i + 3)) := Eq.trans rfl rfl
theorem shO_3 {i : Nat} {s : Nat → Int32} : (shO i s)[3]? = some (.ref (i + 4)) := Eq.trans rfl rfl
theorem shO_4 {i : Nat} {s : Nat → Int32} : (shO i s)[4]? = some (.int (s 4)) := Eq.trans rfl rfl
theorem shOs_4 {M0 : qM} {i : Nat} {s : Nat → Int32} {A : Nat → Nat → Int32} {v : Int32} : q_set (q_sh M0 i s A) i (.inr (7, (shO i s).set 4 (.int v))) = q_sh M0 i (va_up s 4 v) A := q_og_set (k := 0) rfl (fun j h => match j, h with | 0, h => absurd rfl h | 1, h => rfl | 2, h => rfl | 3, h => rfl | 4, h => rfl | j + 5, _ => rfl)
theorem shO_5 {i : Nat} {s : Nat → Int32} : (shO i s)[5]? = some (.int (s 5)) := Eq.trans rfl rfl
theorem shOs_5 {M0 : qM} {i : Nat} {s : Nat → Int32} {A : Nat → Nat → Int32} {v : Int32} : q_set (q_sh M0 i s A) i (.inr (7, (shO i s).set 5 (.int v))) = q_sh M0 i (va_up s 5 v) A := q_og_set (k := 0) rfl (fun j h => match j, h with | 0, h => absurd rfl h | 1, h => rfl | 2, h => rfl | 3, h => rfl | 4, h => rfl | j + 5, _ => rfl)
theorem sh_a0 {M0 : qM} {i : Nat} {s : Nat → Int32} {A : Nat → Nat → Int32} : (q_sh M0 i s A).2 (i + 1) = some (.inl (1, 20, .inl (A 0))) := q_og_k (k := 1) rfl
theorem shs_a0 {M0 : qM} {i : Nat} {s : Nat → Int32} {A : Nat → Nat → Int32} {g : Nat → Int32} : q_set (q_sh M0 i s A) (i + 1) (.inl (1, 20, .inl g)) = q_sh M0 i s (va_up A 0 g) := q_og_set (k := 1) rfl (fun j h => match j, h with | 0, h => rfl | 1, h => absurd rfl h | 2, h => rfl | 3, h => rfl | 4, h => rfl | j + 5, _ => rfl)
theorem sh_a1 {M0 : qM} {i : Nat} {s : Nat → Int32} {A : Nat → Nat → Int32} : (q_sh M0 i s A).2 (i + 2) = some (.inl (1, 20, .inl (A 1))) := q_og_k (k := 2) rfl
theorem shs_a1 {M0 : qM} {i : Nat} {s : Nat → Int32} {A : Nat → Nat → Int32} {g : Nat → Int32} : q_set (q_sh M0 i s A) (i + 2) (.inl (1, 20, .inl g)) = q_sh M0 i s (va_up A 1 g) := q_og_set (k := 2) rfl (fun j h => match j, h with | 0, h => rfl | 1, h => rfl | 2, h => absurd rfl h | 3, h => rfl | 4, h => rfl | j + 5, _ => rfl)
theorem sh_a2 {M0 : qM} {i : Nat} {s : Nat → Int32} {A : Nat → Nat → Int32} : (q_sh M0 i s A).2 (i + 3) = some (.inl (1, 20, .inl (A 2))) := q_og_k (k := 3) rfl
theorem shs_a2 {M0 : qM} {i : Nat} {s : Nat → Int32} {A : Nat → Nat → Int32} {g : Nat → Int32} : q_set (q_sh M0 i s A) (i + 3) (.inl (1, 20, .inl g)) = q_sh M0 i s (va_up A 2 g) := q_og_set (k := 3) rfl (fun j h => match j, h with | 0, h => rfl | 1, h => rfl | 2, h => rfl | 3, h => absurd rfl h | 4, h => rfl | j + 5, _ => rfl)
theorem sh_a3 {M0 : qM} {i : Nat} {s : Nat → Int32} {A : Nat → Nat → Int32} : (q_sh M0 i s A).2 (i + 4) = some (.inl (1, 20, .inl (A 3))) := q_og_k (k := 4) rfl
theorem shs_a3 {M0 : qM} {i : Nat} {s : Nat → Int32} {A : Nat → Nat → Int32} {g : Nat → Int32} : q_set (q_sh M0 i s A) (i + 4) (.inl (1, 20, .inl g)) = q_sh M0 i s (va_up A 3 g) := q_og_set (k := 4) rfl (fun j h => match j, h with | 0, h => rfl | 1, h => rfl | 2, h => rfl | 3, h => rfl | 4, h => absurd rfl h | j + 5, _ => rfl)
/-- pa -/
def paO (i : Nat) (s : Nat → Int32) : List Value := [.ref (i + 1), .ref (i + 2), .int (s 2)]
def paE (i : Nat) (s : Nat → Int32) (A : Nat → Nat → Int32) : Nat → Option qE
  | 0 => some (.inr (5, paO i s))
  | 1 => some (.inl (1, 4225, .inl (A 0)))
  | 2 => some (.inl (1, 4225, .inl (A 1)))
  | _ => none
def q_pa (M0 : qM) (i : Nat) (s : Nat → Int32) (A : Nat → Nat → Int32) : qM := q_og M0 i (paE i s A)
theorem pa_0 {M0 : qM} {i : Nat} {s : Nat → Int32} {A : Nat → Nat → Int32} : (q_pa M0 i s A).2 i = some (.inr (5, paO i s)) := q_og_k (k := 0) rfl
theorem paO_len {i : Nat} {s : Nat → Int32} : (paO i s).length = 3 := Eq.trans rfl rfl
theorem paO_0 {i : Nat} {s : Nat → Int32} : (paO i s)[0]? = some (.ref (i + 1)) := Eq.trans rfl rfl
theorem paO_1 {i : Nat} {s : Nat → Int32} : (paO i s)[1]? = some (.ref (i + 2)) := Eq.trans rfl rfl
theorem paO_2 {i : Nat} {s : Nat → Int32} : (paO i s)[2]? = some (.int (s 2)) := Eq.trans rfl rfl
theorem paOs_2 {M0 : qM} {i : Nat} {s : Nat → Int32} {A : Nat → Nat → Int32} {v : Int32} : q_set (q_pa M0 i s A) i (.inr (5, (paO i s).set 2 (.int v))) = q_pa M0 i (va_up s 2 v) A := q_og_set (k := 0) rfl (fun j h => match j, h with | 0, h => absurd rfl h | 1, h => rfl | 2, h => rfl | j + 3, _ => rfl)
theorem pa_a0 {M0 : qM} {i : Nat} {s : Nat → Int32} {A : Nat → Nat → Int32} : (q_pa M0 i s A).2 (i + 1) = some (.inl (1, 4225, .inl (A 0))) := q_og_k (k := 1) rfl
theorem pas_a0 {M0 : qM} {i : Nat} {s : Nat → Int32} {A : Nat → Nat → Int32} {g : Nat → Int32} : q_set (q_pa M0 i s A) (i + 1) (.inl (1, 4225, .inl g)) = q_pa M0 i s (va_up A 0 g) := q_og_set (k := 1) rfl (fun j h => match j, h with | 0, h => rfl | 1, h => absurd rfl h | 2, h => rfl | j + 3, _ => rfl)
theorem pa_a1 {M0 : qM} {i : Nat} {s : Nat → Int32} {A : Nat → Nat → Int32} : (q_pa M0 i s A).2 (i + 2) = some (.inl (1, 4225, .inl (A 1))) := q_og_k (k := 2) rfl
theorem pas_a1 {M0 : qM} {i : Nat} {s : Nat → Int32} {A : Nat → Nat → Int32} {g : Nat → Int32} : q_set (q_pa M0 i s A) (i + 2) (.inl (1, 4225, .inl g)) = q_pa M0 i s (va_up A 1 g) := q_og_set (k := 2) rfl (fun j h => match j, h with | 0, h => rfl | 1, h => rfl | 2, h => absurd rfl h | j + 3, _ => rfl)
/-- ca -/
def caO (i : Nat) : List Value := [.ref (i + 1), .ref (i + 5), .ref (i + 6), .ref (i + 7), .ref (i + 8)]
def caE (i : Nat) (A : Nat → Nat → Int32) : Nat → Option qE
  | 0 => some (.inr (1, caO i))
  | 5 => some (.inl (1, 12, .inl (A 1)))
  | 6 => some (.inl (1, 4937, .inl (A 2)))
  | 7 => some (.inl (1, 12, .inl (A 3)))
  | 8 => some (.inl (1, 12, .inl (A 4)))
  | _ => none
def q_ca (M0 : qM) (i : Nat) (A : Nat → Nat → Int32) : qM := q_og M0 i (caE i A)
theorem ca_0 {M0 : qM} {i : Nat} {A : Nat → Nat → Int32} : (q_ca M0 i A).2 i = some (.inr (1, caO i)) := q_og_k (k := 0) rfl
theorem caO_len {i : Nat} : (caO i).length = 5 := Eq.trans rfl rfl
theorem caO_0 {i : Nat} : (caO i)[0]? = some (.ref (i + 1)) := Eq.trans rfl rfl
theorem caO_1 {i : Nat} : (caO i)[1]? = some (.ref (i + 5)) := Eq.trans rfl rfl
theorem caO_2 {i : Nat} : (caO i)[2]? = some (.ref (i + 6)) := Eq.trans rfl rfl
theorem caO_3 {i : Nat} : (caO i)[3]? = some (.ref (i + 7)) := Eq.trans rfl rfl
theorem caO_4 {i : Nat} : (caO i)[4]? = some (.ref (i + 8)) := Eq.trans rfl rfl
theorem ca_a1 {M0 : qM} {i : Nat} {A : Nat → Nat → Int32} : (q_ca M0 i A).2 (i + 5) = some (.inl (1, 12, .inl (A 1))) := q_og_k (k := 5) rfl
theorem cas_a1 {M0 : qM} {i : Nat} {A : Nat → Nat → Int32} {g : Nat → Int32} : q_set (q_ca M0 i A) (i + 5) (.inl (1, 12, .inl g)) = q_ca M0 i (va_up A 1 g) := q_og_set (k := 5) rfl (fun j h => match j, h with | 0, h => rfl | 1, h => rfl | 2, h => rfl | 3, h => rfl | 4, h => rfl | 5, h => absurd rfl h | 6, h => rfl | 7, h => rfl | 8, h => rfl | j + 9, _ => rfl)
theorem ca_a2 {M0 : qM} {i : Nat} {A : Nat → Nat → Int32} : (q_ca M0 i A).2 (i + 6) = some (.inl (1, 4937, .inl (A 2))) := q_og_k (k := 6) rfl
theorem cas_a2 {M0 : qM} {i : Nat} {A : Nat → Nat → Int32} {g : Nat → Int32} : q_set (q_ca M0 i A) (i + 6) (.inl (1, 4937, .inl g)) = q_ca M0 i (va_up A 2 g) := q_og_set (k := 6) rfl (fun j h => match j, h with | 0, h => rfl | 1, h => rfl | 2, h => rfl | 3, h => rfl | 4, h => rfl | 5, h => rfl | 6, h => absurd rfl h | 7, h => rfl | 8, h => rfl | j + 9, _ => rfl)
theorem ca_a3 {M0 : qM} {i : Nat} {A : Nat → Nat → Int32} : (q_ca M0 i A).2 (i + 7) = some (.inl (1, 12, .inl (A 3))) := q_og_k (k := 7) rfl
theorem cas_a3 {M0 : qM} {i : Nat} {A : Nat → Nat → Int32} {g : Nat → Int32} : q_set (q_ca M0 i A) (i + 7) (.inl (1, 12, .inl g)) = q_ca M0 i (va_up A 3 g) := q_og_set (k := 7) rfl (fun j h => match j, h with | 0, h => rfl | 1, h => rfl | 2, h => rfl | 3, h => rfl | 4, h => rfl | 5, h => rfl | 6, h => rfl | 7, h => absurd rfl h | 8, h => rfl | j + 9, _ => rfl)
theorem ca_a4 {M0 : qM} {i : Nat} {A : Nat → Nat → Int32} : (q_ca M0 i A).2 (i + 8) = some (.inl (1, 12, .inl (A 4))) := q_og_k (k := 8) rfl
theorem cas_a4 {M0 : qM} {i : Nat} {A : Nat → Nat → Int32} {g : Nat → Int32} : q_set (q_ca M0 i A) (i + 8) (.inl (1, 12, .inl g)) = q_ca M0 i (va_up A 4 g) := q_og_set (k := 8) rfl (fun j h => match j, h with | 0, h => rfl | 1, h => rfl | 2, h => rfl | 3, h => rfl | 4, h => rfl | 5, h => rfl | 6, h => rfl | 7, h => rfl | 8, h => absurd rfl h | j + 9, _ => rfl)
/-- me -/
def meO (i : Nat) (s : Nat → Int32) : List Value := [.ref (i + 1), .ref (i + 2), .ref (i + 3), .ref (i + 4), .ref (i + 5), .int (s 5)]
def meE (i : Nat) (s : Nat → Int32) (A : Nat → Nat → Int32) : Nat → Option qE
  | 0 => some (.inr (3, meO i s))
  | 1 => some (.inl (1, 6420, .inl (A 0)))
  | 2 => some (.inl (1, 4096, .inl (A 1)))
  | 3 => some (.inl (1, 5, .inl (A 2)))
  | 4 => some (.inl (1, 5, .inl (A 3)))
  | 5 => some (.inl (1, 5, .inl (A 4)))
  | _ => none
def q_me (M0 : qM) (i : Nat) (s : Nat → Int32) (A : Nat → Nat → Int32) : qM := q_og M0 i (meE i s A)
theorem me_0 {M0 : qM} {i : Nat} {s : Nat → Int32} {A : Nat → Nat → Int32} : (q_me M0 i s A).2 i = some (.inr (3, meO i s)) := q_og_k (k := 0) rfl
theorem meO_len {i : Nat} {s : Nat → Int32} : (meO i s).length = 6 := Eq.trans rfl rfl
theorem meO_0 {i : Nat} {s : Nat → Int32} : (meO i s)[0]? = some (.ref (i + 1)) := Eq.trans rfl rfl
theorem meO_1 {i : Nat} {s : Nat → Int32} : (meO i s)[1]? = some (.ref (i + 2)) := Eq.trans rfl rfl
theorem meO_2 {i : Nat} {s : Nat → Int32} : (meO i s)[2]? = some (.ref (i + 3)) := Eq.trans rfl rfl
theorem meO_3 {i : Nat} {s : Nat → Int32} : (meO i s)[3]? = some (.ref (i + 4)) := Eq.trans rfl rfl
theorem meO_4 {i : Nat} {s : Nat → Int32} : (meO i s)[4]? = some (.ref (i + 5)) := Eq.trans rfl rfl
theorem meO_5 {i : Nat} {s : Nat → Int32} : (meO i s)[5]? = some (.int (s 5)) := Eq.trans rfl rfl
theorem meOs_5 {M0 : qM} {i : Nat} {s : Nat → Int32} {A : Nat → Nat → Int32} {v : Int32} : q_set (q_me M0 i s A) i (.inr (3, (meO i s).set 5 (.int v))) = q_me M0 i (va_up s 5 v) A := q_og_set (k := 0) rfl (fun j h => match j, h with | 0, h => absurd rfl h | 1, h => rfl | 2, h => rfl | 3, h => rfl | 4, h => rfl | 5, h => rfl | j + 6, _ => rfl)
theorem me_a0 {M0 : qM} {i : Nat} {s : Nat → Int32} {A : Nat → Nat → Int32} : (q_me M0 i s A).2 (i + 1) = some (.inl (1, 6420, .inl (A 0))) := q_og_k (k := 1) rfl
theorem mes_a0 {M0 : qM} {i : Nat} {s : Nat → Int32} {A : Nat → Nat → Int32} {g : Nat → Int32} : q_set (q_me M0 i s A) (i + 1) (.inl (1, 6420, .inl g)) = q_me M0 i s (va_up A 0 g) := q_og_set (k := 1) rfl (fun j h => match j, h with | 0, h => rfl | 1, h => absurd rfl h | 2, h => rfl | 3, h => rfl | 4, h => rfl | 5, h => rfl | j + 6, _ => rfl)
theorem me_a1 {M0 : qM} {i : Nat} {s : Nat → Int32} {A : Nat → Nat → Int32} : (q_me M0 i s A).2 (i + 2) = some (.inl (1, 4096, .inl (A 1))) := q_og_k (k := 2) rfl
theorem mes_a1 {M0 : qM} {i : Nat} {s : Nat → Int32} {A : Nat → Nat → Int32} {g : Nat → Int32} : q_set (q_me M0 i s A) (i + 2) (.inl (1, 4096, .inl g)) = q_me M0 i s (va_up A 1 g) := q_og_set (k := 2) rfl (fun j h => match j, h with | 0, h => rfl | 1, h => rfl | 2, h => absurd rfl h | 3, h => rfl | 4, h => rfl | 5, h => rfl | j + 6, _ => rfl)
theorem me_a2 {M0 : qM} {i : Nat} {s : Nat → Int32} {A : Nat → Nat → Int32} : (q_me M0 i s A).2 (i + 3) = some (.inl (1, 5, .inl (A 2))) := q_og_k (k := 3) rfl
theorem mes_a2 {M0 : qM} {i : Nat} {s : Nat → Int32} {A : Nat → Nat → Int32} {g : Nat → Int32} : q_set (q_me M0 i s A) (i + 3) (.inl (1, 5, .inl g)) = q_me M0 i s (va_up A 2 g) := q_og_set (k := 3) rfl (fun j h => match j, h with | 0, h => rfl | 1, h => rfl | 2, h => rfl | 3, h => absurd rfl h | 4, h => rfl | 5, h => rfl | j + 6, _ => rfl)
theorem me_a3 {M0 : qM} {i : Nat} {s : Nat → Int32} {A : Nat → Nat → Int32} : (q_me M0 i s A).2 (i + 4) = some (.inl (1, 5, .inl (A 3))) := q_og_k (k := 4) rfl
theorem mes_a3 {M0 : qM} {i : Nat} {s : Nat → Int32} {A : Nat → Nat → Int32} {g : Nat → Int32} : q_set (q_me M0 i s A) (i + 4) (.inl (1, 5, .inl g)) = q_me M0 i s (va_up A 3 g) := q_og_set (k := 4) rfl (fun j h => match j, h with | 0, h => rfl | 1, h => rfl | 2, h => rfl | 3, h => rfl | 4, h => absurd rfl h | 5, h => rfl | j + 6, _ => rfl)
theorem me_a4 {M0 : qM} {i : Nat} {s : Nat → Int32} {A : Nat → Nat → Int32} : (q_me M0 i s A).2 (i + 5) = some (.inl (1, 5, .inl (A 4))) := q_og_k (k := 5) rfl
theorem mes_a4 {M0 : qM} {i : Nat} {s : Nat → Int32} {A : Nat → Nat → Int32} {g : Nat → Int32} : q_set (q_me M0 i s A) (i + 5) (.inl (1, 5, .inl g)) = q_me M0 i s (va_up A 4 g) := q_og_set (k := 5) rfl (fun j h => match j, h with | 0, h => rfl | 1, h => rfl | 2, h => rfl | 3, h => rfl | 4, h => rfl | 5, h => absurd rfl h | j + 6, _ => rfl)
/-- fi -/
def fiO (i : Nat) (X : Nat → Nat) (s : Nat → Int32) : List Value := [.ref (X 0), .ref (X 1), .ref (i + 1), .ref (i + 7), .ref (i + 8), .ref (i + 9), .int (s 6), .ref (i + 12), .int (s 8), .ref (i + 13), .int (s 10), .ref (i + 14), .int (s 12), .int (s 13), .int (s 14), .int (s 15), .int (s 16)]
def fiE (i : Nat) (X : Nat → Nat) (s : Nat → Int32) (A : Nat → Nat → Int32) : Nat → Option qE
  | 0 => some (.inr (2, fiO i X s))
  | 7 => some (.inl (1, 4937, .inl (A 3)))
  | 8 => some (.inl (1, 4937, .inl (A 4)))
  | 12 => some (.inl (1, 1284, .inl (A 7)))
  | 13 => some (.inl (1, 40, .inl (A 9)))
  | 14 => some (.inl (1, 1284, .inl (A 11)))
  | _ => none
def q_fi (M0 : qM) (i : Nat) (X : Nat → Nat) (s : Nat → Int32) (A : Nat → Nat → Int32) : qM := q_og M0 i (fiE i X s A)
theorem fi_0 {M0 : qM} {i : Nat} {X : Nat → Nat} {s : Nat → Int32} {A : Nat → Nat → Int32} : (q_fi M0 i X s A).2 i = some (.inr (2, fiO i X s)) := q_og_k (k := 0) rfl
theorem fiO_len {i : Nat} {X : Nat → Nat} {s : Nat → Int32} : (fiO i X s).length = 17 := Eq.trans rfl rfl
theorem fiO_0 {i : Nat} {X : Nat → Nat} {s : Nat → Int32} : (fiO i X s)[0]? = some (.ref (X 0)) := Eq.trans rfl rfl
theorem fiO_1 {i : Nat} {X : Nat → Nat} {s : Nat → Int32} : (fiO i X s)[1]? = some (.ref (X 1)) := Eq.trans rfl rfl
theorem fiO_2 {i : Nat} {X : Nat → Nat} {s : Nat → Int32} : (fiO i X s)[2]? = some (.ref (i + 1)) := Eq.trans rfl rfl
theorem fiO_3 {i : Nat} {X : Nat → Nat} {s : Nat → Int32} : (fiO i X s)[3]? = some (.ref (i + 7)) := Eq.trans rfl rfl
theorem fiO_4 {i : Nat} {X : Nat → Nat} {s : Nat → Int32} : (fiO i X s)[4]? = some (.ref (i + 8)) := Eq.trans rfl rfl
theorem fiO_5 {i : Nat} {X : Nat → Nat} {s : Nat → Int32} : (fiO i X s)[5]? = some (.ref (i + 9)) := Eq.trans rfl rfl
theorem fiO_6 {i : Nat} {X : Nat → Nat} {s : Nat → Int32} : (fiO i X s)[6]? = some (.int (s 6)) := Eq.trans rfl rfl
theorem fiOs_6 {M0 : qM} {i : Nat} {X : Nat → Nat} {s : Nat → Int32} {A : Nat → Nat → Int32} {v : Int32} : q_set (q_fi M0 i X s A) i (.inr (2, (fiO i X s).set 6 (.int v))) = q_fi M0 i X (va_up s 6 v) A := q_og_set (k := 0) rfl (fun j h => match j, h with | 0, h => absurd rfl h | 1, h => rfl | 2, h => rfl | 3, h => rfl | 4, h => rfl | 5, h => rfl | 6, h => rfl | 7, h => rfl | 8, h => rfl | 9, h => rfl | 10, h => rfl | 11, h => rfl | 12, h => rfl | 13, h => rfl | 14, h => rfl | j + 15, _ => rfl)
theorem fiO_7 {i : Nat} {X : Nat → Nat} {s : Nat → Int32} : (fiO i X s)[7]? = some (.ref (i + 12)) := Eq.trans rfl rfl
theorem fiO_8 {i : Nat} {X : Nat → Nat} {s : Nat → Int32} : (fiO i X s)[8]? = some (.int (s 8)) := Eq.trans rfl rfl
theorem fiOs_8 {M0 : qM} {i : Nat} {X : Nat → Nat} {s : Nat → Int32} {A : Nat → Nat → Int32} {v : Int32} : q_set (q_fi M0 i X s A) i (.inr (2, (fiO i X s).set 8 (.int v))) = q_fi M0 i X (va_up s 8 v) A := q_og_set (k := 0) rfl (fun j h => match j, h with | 0, h => absurd rfl h | 1, h => rfl | 2, h => rfl | 3, h => rfl | 4, h => rfl | 5, h => rfl | 6, h => rfl | 7, h => rfl | 8, h => rfl | 9, h => rfl | 10, h => rfl | 11, h => rfl | 12, h => rfl | 13, h => rfl | 14, h => rfl | j + 15, _ => rfl)
theorem fiO_9 {i : Nat} {X : Nat → Nat} {s : Nat → Int32} : (fiO i X s)[9]? = some (.ref (i + 13)) := Eq.trans rfl rfl
theorem fiO_10 {i : Nat} {X : Nat → Nat} {s : Nat → Int32} : (fiO i X s)[10]? = some (.int (s 10)) := Eq.trans rfl rfl
theorem fiOs_10 {M0 : qM} {i : Nat} {X : Nat → Nat} {s : Nat → Int32} {A : Nat → Nat → Int32} {v : Int32} : q_set (q_fi M0 i X s A) i (.inr (2, (fiO i X s).set 10 (.int v))) = q_fi M0 i X (va_up s 10 v) A := q_og_set (k := 0) rfl (fun j h => match j, h with | 0, h => absurd rfl h | 1, h => rfl | 2, h => rfl | 3, h => rfl | 4, h => rfl | 5, h => rfl | 6, h => rfl | 7, h => rfl | 8, h => rfl | 9, h => rfl | 10, h => rfl | 11, h => rfl | 12, h => rfl | 13, h => rfl | 14, h => rfl | j + 15, _ => rfl)
theorem fiO_11 {i : Nat} {X : Nat → Nat} {s : Nat → Int32} : (fiO i X s)[11]? = some (.ref (i + 14)) := Eq.trans rfl rfl
theorem fiO_12 {i : Nat} {X : Nat → Nat} {s : Nat → Int32} : (fiO i X s)[12]? = some (.int (s 12)) := Eq.trans rfl rfl
theorem fiOs_12 {M0 : qM} {i : Nat} {X : Nat → Nat} {s : Nat → Int32} {A : Nat → Nat → Int32} {v : Int32} : q_set (q_fi M0 i X s A) i (.inr (2, (fiO i X s).set 12 (.int v))) = q_fi M0 i X (va_up s 12 v) A := q_og_set (k := 0) rfl (fun j h => match j, h with | 0, h => absurd rfl h | 1, h => rfl | 2, h => rfl | 3, h => rfl | 4, h => rfl | 5, h => rfl | 6, h => rfl | 7, h => rfl | 8, h => rfl | 9, h => rfl | 10, h => rfl | 11, h => rfl | 12, h => rfl | 13, h => rfl | 14, h => rfl | j + 15, _ => rfl)
theorem fiO_13 {i : Nat} {X : Nat → Nat} {s : Nat → Int32} : (fiO i X s)[13]? = some (.int (s 13)) := Eq.trans rfl rfl
theorem fiOs_13 {M0 : qM} {i : Nat} {X : Nat → Nat} {s : Nat → Int32} {A : Nat → Nat → Int32} {v : Int32} : q_set (q_fi M0 i X s A) i (.inr (2, (fiO i X s).set 13 (.int v))) = q_fi M0 i X (va_up s 13 v) A := q_og_set (k := 0) rfl (fun j h => match j, h with | 0, h => absurd rfl h | 1, h => rfl | 2, h => rfl | 3, h => rfl | 4, h => rfl | 5, h => rfl | 6, h => rfl | 7, h => rfl | 8, h => rfl | 9, h => rfl | 10, h => rfl | 11, h => rfl | 12, h => rfl | 13, h => rfl | 14, h => rfl | j + 15, _ => rfl)
theorem fiO_14 {i : Nat} {X : Nat → Nat} {s : Nat → Int32} : (fiO i X s)[14]? = some (.int (s 14)) := Eq.trans rfl rfl
theorem fiOs_14 {M0 : qM} {i : Nat} {X : Nat → Nat} {s : Nat → Int32} {A : Nat → Nat → Int32} {v : Int32} : q_set (q_fi M0 i X s A) i (.inr (2, (fiO i X s).set 14 (.int v))) = q_fi M0 i X (va_up s 14 v) A := q_og_set (k := 0) rfl (fun j h => match j, h with | 0, h => absurd rfl h | 1, h => rfl | 2, h => rfl | 3, h => rfl | 4, h => rfl | 5, h => rfl | 6, h => rfl | 7, h => rfl | 8, h => rfl | 9, h => rfl | 10, h => rfl | 11, h => rfl | 12, h => rfl | 13, h => rfl | 14, h => rfl | j + 15, _ => rfl)
theorem fiO_15 {i : Nat} {X : Nat → Nat} {s : Nat → Int32} : (fiO i X s)[15]? = some (.int (s 15)) := Eq.trans rfl rfl
theorem fiOs_15 {M0 : qM} {i : Nat} {X : Nat → Nat} {s : Nat → Int32} {A : Nat → Nat → Int32} {v : Int32} : q_set (q_fi M0 i X s A) i (.inr (2, (fiO i X s).set 15 (.int v))) = q_fi M0 i X (va_up s 15 v) A := q_og_set (k := 0) rfl (fun j h => match j, h with | 0, h => absurd rfl h | 1, h => rfl | 2, h => rfl | 3, h => rfl | 4, h => rfl | 5, h => rfl | 6, h => rfl | 7, h => rfl | 8, h => rfl | 9, h => rfl | 10, h => rfl | 11, h => rfl | 12, h => rfl | 13, h => rfl | 14, h => rfl | j + 15, _ => rfl)
theorem fiO_16 {i : Nat} {X : Nat → Nat} {s : Nat → Int32} : (fiO i X s)[16]? = some (.int (s 16)) := Eq.trans rfl rfl
theorem fiOs_16 {M0 : qM} {i : Nat} {X : Nat → Nat} {s : Nat → Int32} {A : Nat → Nat → Int32} {v : Int32} : q_set (q_fi M0 i X s A) i (.inr (2, (fiO i X s).set 16 (.int v))) = q_fi M0 i X (va_up s 16 v) A := q_og_set (k := 0) rfl (fun j h => match j, h with | 0, h => absurd rfl h | 1, h => rfl | 2, h => rfl | 3, h => rfl | 4, h => rfl | 5, h => rfl | 6, h => rfl | 7, h => rfl | 8, h => rfl | 9, h => rfl | 10, h => rfl | 11, h => rfl | 12, h => rfl | 13, h => rfl | 14, h => rfl | j + 15, _ => rfl)
theorem fi_a3 {M0 : qM} {i : Nat} {X : Nat → Nat} {s : Nat → Int32} {A : Nat → Nat → Int32} : (q_fi M0 i X s A).2 (i + 7) = some (.inl (1, 4937, .inl (A 3))) := q_og_k (k := 7) rfl
theorem fis_a3 {M0 : qM} {i : Nat} {X : Nat → Nat} {s : Nat → Int32} {A : Nat → Nat → Int32} {g : Nat → Int32} : q_set (q_fi M0 i X s A) (i + 7) (.inl (1, 4937, .inl g)) = q_fi M0 i X s (va_up A 3 g) := q_og_set (k := 7) rfl (fun j h => match j, h with | 0, h => rfl | 1, h => rfl | 2, h => rfl | 3, h => rfl | 4, h => rfl | 5, h => rfl | 6, h => rfl | 7, h => absurd rfl h | 8, h => rfl | 9, h => rfl | 10, h => rfl | 11, h => rfl | 12, h => rfl | 13, h => rfl | 14, h => rfl | j + 15, _ => rfl)
theorem fi_a4 {M0 : qM} {i : Nat} {X : Nat → Nat} {s : Nat → Int32} {A : Nat → Nat → Int32} : (q_fi M0 i X s A).2 (i + 8) = some (.inl (1, 4937, .inl (A 4))) := q_og_k (k := 8) rfl
theorem fis_a4 {M0 : qM} {i : Nat} {X : Nat → Nat} {s : Nat → Int32} {A : Nat → Nat → Int32} {g : Nat → Int32} : q_set (q_fi M0 i X s A) (i + 8) (.inl (1, 4937, .inl g)) = q_fi M0 i X s (va_up A 4 g) := q_og_set (k := 8) rfl (fun j h => match j, h with | 0, h => rfl | 1, h => rfl | 2, h => rfl | 3, h => rfl | 4, h => rfl | 5, h => rfl | 6, h => rfl | 7, h => rfl | 8, h => absurd rfl h | 9, h => rfl | 10, h => rfl | 11, h => rfl | 12, h => rfl | 13, h => rfl | 14, h => rfl | j + 15, _ => rfl)
theorem fi_a7 {M0 : qM} {i : Nat} {X : Nat → Nat} {s : Nat → Int32} {A : Nat → Nat → Int32} : (q_fi M0 i X s A).2 (i + 12) = some (.inl (1, 1284, .inl (A 7))) := q_og_k (k := 12) rfl
theorem fis_a7 {M0 : qM} {i : Nat} {X : Nat → Nat} {s : Nat → Int32} {A : Nat → Nat → Int32} {g : Nat → Int32} : q_set (q_fi M0 i X s A) (i + 12) (.inl (1, 1284, .inl g)) = q_fi M0 i X s (va_up A 7 g) := q_og_set (k := 12) rfl (fun j h => match j, h with | 0, h => rfl | 1, h => rfl | 2, h => rfl | 3, h => rfl | 4, h => rfl | 5, h => rfl | 6, h => rfl | 7, h => rfl | 8, h => rfl | 9, h => rfl | 10, h => rfl | 11, h => rfl | 12, h => absurd rfl h | 13, h => rfl | 14, h => rfl | j + 15, _ => rfl)
theorem fi_a9 {M0 : qM} {i : Nat} {X : Nat → Nat} {s : Nat → Int32} {A : Nat → Nat → Int32} : (q_fi M0 i X s A).2 (i + 13) = some (.inl (1, 40, .inl (A 9))) := q_og_k (k := 13) rfl
theorem fis_a9 {M0 : qM} {i : Nat} {X : Nat → Nat} {s : Nat → Int32} {A : Nat → Nat → Int32} {g : Nat → Int32} : q_set (q_fi M0 i X s A) (i + 13) (.inl (1, 40, .inl g)) = q_fi M0 i X s (va_up A 9 g) := q_og_set (k := 13) rfl (fun j h => match j, h with | 0, h => rfl | 1, h => rfl | 2, h => rfl | 3, h => rfl | 4, h => rfl | 5, h => rfl | 6, h => rfl | 7, h => rfl | 8, h => rfl | 9, h => rfl | 10, h => rfl | 11, h => rfl | 12, h => rfl | 13, h => absurd rfl h | 14, h => rfl | j + 15, _ => rfl)
theorem fi_a11 {M0 : qM} {i : Nat} {X : Nat → Nat} {s : Nat → Int32} {A : Nat → Nat → Int32} : (q_fi M0 i X s A).2 (i + 14) = some (.inl (1, 1284, .inl (A 11))) := q_og_k (k := 14) rfl
theorem fis_a11 {M0 : qM} {i : Nat} {X : Nat → Nat} {s : Nat → Int32} {A : Nat → Nat → Int32} {g : Nat → Int32} : q_set (q_fi M0 i X s A) (i + 14) (.inl (1, 1284, .inl g)) = q_fi M0 i X s (va_up A 11 g) := q_og_set (k := 14) rfl (fun j h => match j, h with | 0, h => rfl | 1, h => rfl | 2, h => rfl | 3, h => rfl | 4, h => rfl | 5, h => rfl | 6, h => rfl | 7, h => rfl | 8, h => rfl | 9, h => rfl | 10, h => rfl | 11, h => rfl | 12, h => rfl | 13, h => rfl | 14, h => absurd rfl h | j + 15, _ => rfl)
