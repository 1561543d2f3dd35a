/-! the reference: its object and its rows -/
def mO (r : Nat) (s : Nat → Int32) : List Value := [.int (s 0), .ref (r + 1), .int (s 2), .ref (r + 2), .ref (r + 3), .ref (r + 4), .ref (r + 5), .ref (r + 6), .ref (r + 7), .ref (r + 8), .int (s 10), .int (s 11), .ref (r + 9), .ref (r + 10), .ref (r + 11), .ref (r + 12), .int (s 16), .ref (r + 13), .int (s 18), .int (s 19), .int (s 20), .int (s 21), .int (s 22), .ref (r + 14), .ref (r + 15), .ref (r + 16), .ref (r + 17), .ref (r + 18), .ref (r + 19), .ref (r + 20), .int (s 30), .int (s 31), .int (s 32), .ref (r + 21), .ref (r + 22), .ref (r + 23), .ref (r + 24), .int (s 37), .int (s 38), .ref (r + 25), .ref (r + 26), .ref (r + 27), .ref (r + 28), .ref (r + 29), .ref (r + 30), .ref (r + 31), .ref (r + 32), .ref (r + 33), .int (s 48), .int (s 49), .int (s 50), .int (s 51), .ref (r + 34), .ref (r + 35), .int (s 54), .ref (r + 36), .ref (r + 37), .int (s 57)]
def mdT : List (Nat × Nat × Nat) := [(1, 12, 1), (1, 6400, 3), (1, 6400, 4), (1, 6400, 5), (1, 6400, 6), (1, 6400, 7), (1, 6400, 8), (1, 6400, 9), (1, 12, 12), (1, 10, 13), (1, 120, 14), (1, 120, 15), (4, 60, 17), (1, 200, 23), (1, 2, 24), (1, 16, 25), (1, 16, 26), (1, 2, 27), (1, 2, 28), (3, 2, 29), (1, 3328, 33), (1, 65536, 34), (1, 65536, 35), (3, 65536, 36), (1, 20, 39), (1, 20, 40), (1, 20, 41), (1, 20, 42), (3, 20, 43), (3, 6000, 44), (2, 6000, 45), (2, 6000, 46), (1, 121, 47), (2, 6000, 52), (2, 6000, 53), (2, 6000, 55), (2, 6000, 56)]
def mdE (r : Nat) (s : Nat → Int32) (A : Nat → Nat → Int32) (B : Nat → Nat → Int64) : Nat → Option qE
  | 0 => some (.inr (12, mO r s))
  | k + 1 => match mdT[k]? with
    | some q => some (.inl (q.1, q.2.1, if q.1 = 2 then .inr (.inl (B q.2.2)) else .inl (A q.2.2)))
    | none => none
def q_md (M0 : qM) (r : Nat) (s : Nat → Int32) (A : Nat → Nat → Int32) (B : Nat → Nat → Int64) : qM := (M0.1, fun a => if r ≤ a ∧ a < r + 38 then mdE r s A B (a - r) else M0.2 a)
theorem q_md_1 (M0 : qM) (r : Nat) (s : Nat → Int32) (A : Nat → Nat → Int32) (B : Nat → Nat → Int64) : (q_md M0 r s A B).1 = M0.1 := Eq.trans rfl rfl
theorem q_md_k (M0 : qM) (r : Nat) (s : Nat → Int32) (A : Nat → Nat → Int32) (B : Nat → Nat → Int64) {k : Nat} (hk : k < 38) : (q_md M0 r s A B).2 (r + k) = mdE r s A B k := by
  show (if r ≤ r + k ∧ r + k < r + 38 then mdE r s A B (r + k - r) else M0.2 (r + k)) = _
  rw [if_pos ⟨Nat.le_add_right _ _, by omega⟩, Nat.add_sub_cancel_left]
theorem q_md_out (M0 : qM) (r : Nat) (s : Nat → Int32) (A : Nat → Nat → Int32) (B : Nat → Nat → Int64) {a : Nat} (h : a < r ∨ r + 38 ≤ a) : (q_md M0 r s A B).2 a = M0.2 a := by
  show (if r ≤ a ∧ a < r + 38 then mdE r s A B (a - r) else M0.2 a) = _
  rw [if_neg (by omega)]
theorem q_md_set {M0 : qM} {r : Nat} {s s' : Nat → Int32} {A A' : Nat → Nat → Int32} {B B' : Nat → Nat → Int64} {k : Nat} {e : qE} (hk : k < 38) (he : mdE r s' A' B' k = some e) (ho : ∀ j, j < 38 → j ≠ k → mdE r s' A' B' j = mdE r s A B j) : q_set (q_md M0 r s A B) (r + k) e = q_md M0 r s' A' B' := by
  refine Prod.ext rfl (funext fun a => ?_)
  show va_up (q_md M0 r s A B).2 (r + k) (some e) a = (if r ≤ a ∧ a < r + 38 then mdE r s' A' B' (a - r) else M0.2 a)
  by_cases h : a = r + k
  · subst h
    rw [va_up_self, if_pos ⟨Nat.le_add_right _ _, by omega⟩, Nat.add_sub_cancel_left]
    exact he.symm
  · rw [va_up_ne _ _ h]
    show (if r ≤ a ∧ a < r + 38 then mdE r s A B (a - r) else M0.2 a) = _
    by_cases h2 : r ≤ a ∧ a < r + 38
    · rw [if_pos h2, if_pos h2, ho (a - r) (by omega) (by omega)]
    · rw [if_neg h2, if_neg h2]
theorem mdT_inj : ∀ i, i < 37 → ∀ j, j < 37 → i ≠ j → (mdT[i]?).map (fun q => q.2.2) ≠ (mdT[j]?).map (fun q => q.2.2) := by decide +kernel
theorem q_md_A {M0 : qM} {r : Nat} {s : Nat → Int32} {A : Nat → Nat → Int32} {B : Nat → Nat → Int64} {k t l fd : Nat} {g : Nat → Int32} (hk : k < 37) (hq : mdT[k]? = some (t, l, fd)) (ht : t ≠ 2) : q_set (q_md M0 r s A B) (r + (k + 1)) (.inl (t, l, .inl g)) = q_md M0 r s (va_up A fd g) B := by
  refine q_md_set (by omega) ?_ ?_
  · simp only [mdE, hq]
    rw [if_neg ht, va_up_self]
  · intro j hj hne
    cases j with
    | zero => rfl
    | succ j =>
      simp only [mdE]
      have hx := mdT_inj j (by omega) k hk (by omega)
      rw [hq] at hx
      cases hz : mdT[j]? with
      | none => rfl
      | some q =>
        rw [hz] at hx
        have hne2 : q.2.2 ≠ fd := fun e => hx (by simp [e])
        simp only [va_up_ne _ _ hne2]
theorem q_md_B {M0 : qM} {r : Nat} {s : Nat → Int32} {A : Nat → Nat → Int32} {B : Nat → Nat → Int64} {k l fd : Nat} {g : Nat → Int64} (hk : k < 37) (hq : mdT[k]? = some (2, l, fd)) : q_set (q_md M0 r s A B) (r + (k + 1)) (.inl (2, l, .inr (.inl g))) = q_md M0 r s A (va_up B fd g) := by
  refine q_md_set (by omega) ?_ ?_
  · simp only [mdE, hq]
    rw [if_pos trivial, va_up_self]
  · intro j hj hne
    cases j with
    | zero => rfl
    | succ j =>
      simp only [mdE]
      have hx := mdT_inj j (by omega) k hk (by omega)
      rw [hq] at hx
      cases hz : mdT[j]? with
      | none => rfl
      | some q =>
        rw [hz] at hx
        have hne2 : q.2.2 ≠ fd := fun e => hx (by simp [e])
        simp only [va_up_ne _ _ hne2]
theorem q_md_0 (M0 : qM) (r : Nat) (s : Nat → Int32) (A : Nat → Nat → Int32) (B : Nat → Nat → Int64) : (q_md M0 r s A B).2 r = some (.inr (12, mO r s)) := q_md_k M0 r s A B (k := 0) (by decide)
theorem q_md_S {M0 : qM} {r : Nat} {s s' : Nat → Int32} {A : Nat → Nat → Int32} {B : Nat → Nat → Int64} {fs : List Value} (h : fs = mO r s') : q_set (q_md M0 r s A B) r (.inr (12, fs)) = q_md M0 r s' A B := by
  refine q_md_set (k := 0) (by decide) (by rw [h]; rfl) ?_
  intro j hj hne
  cases j with
  | zero => exact absurd rfl hne
  | succ j => rfl
theorem mO_len (r : Nat) (s : Nat → Int32) : (mO r s).length = 58 := Eq.trans rfl rfl
theorem mO_0 (r : Nat) (s : Nat → Int32) : (mO r s)[0]? = some (.int (s 0)) := Eq.trans rfl rfl
theorem mOs_0 (M0 : qM) (r : Nat) (s : Nat → Int32) (A : Nat → Nat → Int32) (B : Nat → Nat → Int64) (v : Int32) : q_set (q_md M0 r s A B) r (.inr (12, (mO r s).set 0 (.int v))) = q_md M0 r (va_up s 0 v) A B := q_md_S rfl
theorem mO_1 (r : Nat) (s : Nat → Int32) : (mO r s)[1]? = some (.ref (r + 1)) := Eq.trans rfl rfl
theorem mO_2 (r : Nat) (s : Nat → Int32) : (mO r s)[2]? = some (.int (s 2)) := Eq.trans rfl rfl
theorem mOs_2 (M0 : qM) (r : Nat) (s : Nat → Int32) (A : Nat → Nat → Int32) (B : Nat → Nat → Int64) (v : Int32) : q_set (q_md M0 r s A B) r (.inr (12, (mO r s).set 2 (.int v))) = q_md M0 r (va_up s 2 v) A B := q_md_S rfl
theorem mO_3 (r : Nat) (s : Nat → Int32) : (mO r s)[3]? = some (.ref (r + 2)) := Eq.trans rfl rfl
theorem mO_4 (r : Nat) (s : Nat → Int32) : (mO r s)[4]? = some (.ref (r + 3)) := Eq.trans rfl rfl
theorem mO_5 (r : Nat) (s : Nat → Int32) : (mO r s)[5]? = some (.ref (r + 4)) := Eq.trans rfl rfl
theorem mO_6 (r : Nat) (s : Nat → Int32) : (mO r s)[6]? = some (.ref (r + 5)) := Eq.trans rfl rfl
theorem mO_7 (r : Nat) (s : Nat → Int32) : (mO r s)[7]? = some (.ref (r + 6)) := Eq.trans rfl rfl
theorem mO_8 (r : Nat) (s : Nat → Int32) : (mO r s)[8]? = some (.ref (r + 7)) := Eq.trans rfl rfl
theorem mO_9 (r : Nat) (s : Nat → Int32) : (mO r s)[9]? = some (.ref (r + 8)) := Eq.trans rfl rfl
theorem mO_10 (r : Nat) (s : Nat → Int32) : (mO r s)[10]? = some (.int (s 10)) := Eq.trans rfl rfl
theorem mOs_10 (M0 : qM) (r : Nat) (s : Nat → Int32) (A : Nat → Nat → Int32) (B : Nat → Nat → Int64) (v : Int32) : q_set (q_md M0 r s A B) r (.inr (12, (mO r s).set 10 (.int v))) = q_md M0 r (va_up s 10 v) A B := q_md_S rfl
theorem mO_11 (r : Nat) (s : Nat → Int32) : (mO r s)[11]? = some (.int (s 11)) := Eq.trans rfl rfl
theorem mOs_11 (M0 : qM) (r : Nat) (s : Nat → Int32) (A : Nat → Nat → Int32) (B : Nat → Nat → Int64) (v : Int32) : q_set (q_md M0 r s A B) r (.inr (12, (mO r s).set 11 (.int v))) = q_md M0 r (va_up s 11 v) A B := q_md_S rfl
theorem mO_12 (r : Nat) (s : Nat → Int32) : (mO r s)[12]? = some (.ref (r + 9)) := Eq.trans rfl rfl
theorem mO_13 (r : Nat) (s : Nat → Int32) : (mO r s)[13]? = some (.ref (r + 10)) := Eq.trans rfl rfl
theorem mO_14 (r : Nat) (s : Nat → Int32) : (mO r s)[14]? = some (.ref (r + 11)) := Eq.trans rfl rfl
theorem mO_15 (r : Nat) (s : Nat → Int32) : (mO r s)[15]? = some (.ref (r + 12)) := Eq.trans rfl rfl
theorem mO_16 (r : Nat) (s : Nat → Int32) : (mO r s)[16]? = some (.int (s 16)) := Eq.trans rfl rfl
theorem mOs_16 (M0 : qM) (r : Nat) (s : Nat → Int32) (A : Nat → Nat → Int32) (B : Nat → Nat → Int64) (v : Int32) : q_set (q_md M0 r s A B) r (.inr (12, (mO r s).set 16 (.int v))) = q_md M0 r (va_up s 16 v) A B := q_md_S rfl
theorem mO_17 (r : Nat) (s : Nat → Int32) : (mO r s)[17]? = some (.ref (r + 13)) := Eq.trans rfl rfl
theorem mO_18 (r : Nat) (s : Nat → Int32) : (mO r s)[18]? = some (.int (s 18)) := Eq.trans rfl rfl
theorem mOs_18 (M0 : qM) (r : Nat) (s : Nat → Int32) (A : Nat → Nat → Int32) (B : Nat → Nat → Int64) (v : Int32) : q_set (q_md M0 r s A B) r (.inr (12, (mO r s).set 18 (.int v))) = q_md M0 r (va_up s 18 v) A B := q_md_S rfl
theorem mO_19 (r : Nat) (s : Nat → Int32) : (mO r s)[19]? = some (.int (s 19)) := Eq.trans rfl rfl
theorem mOs_19 (M0 : qM) (r : Nat) (s : Nat → Int32) (A : Nat → Nat → Int32) (B : Nat → Nat → Int64) (v : Int32) : q_set (q_md M0 r s A B) r (.inr (12, (mO r s).set 19 (.int v))) = q_md M0 r (va_up s 19 v) A B := q_md_S rfl
theorem mO_20 (r : Nat) (s : Nat → Int32) : (mO r s)[20]? = some (.int (s 20)) := Eq.trans rfl rfl
theorem mOs_20 (M0 : qM) (r : Nat) (s : Nat → Int32) (A : Nat → Nat → Int32) (B : Nat → Nat → Int64) (v : Int32) : q_set (q_md M0 r s A B) r (.inr (12, (mO r s).set 20 (.int v))) = q_md M0 r (va_up s 20 v) A B := q_md_S rfl
theorem mO_21 (r : Nat) (s : Nat → Int32) : (mO r s)[21]? = some (.int (s 21)) := Eq.trans rfl rfl
theorem mOs_21 (M0 : qM) (r : Nat) (s : Nat → Int32) (A : Nat → Nat → Int32) (B : Nat → Nat → Int64) (v : Int32) : q_set (q_md M0 r s A B) r (.inr (12, (mO r s).set 21 (.int v))) = q_md M0 r (va_up s 21 v) A B := q_md_S rfl
theorem mO_22 (r : Nat) (s : Nat → Int32) : (mO r s)[22]? = some (.int (s 22)) := Eq.trans rfl rfl
theorem mOs_22 (M0 : qM) (r : Nat) (s : Nat → Int32) (A : Nat → Nat → Int32) (B : Nat → Nat → Int64) (v : Int32) : q_set (q_md M0 r s A B) r (.inr (12, (mO r s).set 22 (.int v))) = q_md M0 r (va_up s 22 v) A B := q_md_S rfl
theorem mO_23 (r : Nat) (s : Nat → Int32) : (mO r s)[23]? = some (.ref (r + 14)) := Eq.trans rfl rfl
theorem mO_24 (r : Nat) (s : Nat → Int32) : (mO r s)[24]? = some (.ref (r + 15)) := Eq.trans rfl rfl
theorem mO_25 (r : Nat) (s : Nat → Int32) : (mO r s)[25]? = some (.ref (r + 16)) := Eq.trans rfl rfl
theorem mO_26 (r : Nat) (s : Nat → Int32) : (mO r s)[26]? = some (.ref (r + 17)) := Eq.trans rfl rfl
theorem mO_27 (r : Nat) (s : Nat → Int32) : (mO r s)[27]? = some (.ref (r + 18)) := Eq.trans rfl rfl
theorem mO_28 (r : Nat) (s : Nat → Int32) : (mO r s)[28]? = some (.ref (r + 19)) := Eq.trans rfl rfl
theorem mO_29 (r : Nat) (s : Nat → Int32) : (mO r s)[29]? = some (.ref (r + 20)) := Eq.trans rfl rfl
theorem mO_30 (r : Nat) (s : Nat → Int32) : (mO r s)[30]? = some (.int (s 30)) := Eq.trans rfl rfl
theorem mOs_30 (M0 : qM) (r : Nat) (s : Nat → Int32) (A : Nat → Nat → Int32) (B : Nat → Nat → Int64) (v : Int32) : q_set (q_md M0 r s A B) r (.inr (12, (mO r s).set 30 (.int v))) = q_md M0 r (va_up s 30 v) A B := q_md_S rfl
theorem mO_31 (r : Nat) (s : Nat → Int32) : (mO r s)[31]? = some (.int (s 31)) := Eq.trans rfl rfl
theorem mOs_31 (M0 : qM) (r : Nat) (s : Nat → Int32) (A : Nat → Nat → Int32) (B : Nat → Nat → Int64) (v : Int32) : q_set (q_md M0 r s A B) r (.inr (12, (mO r s).set 31 (.int v))) = q_md M0 r (va_up s 31 v) A B := q_md_S rfl
theorem mO_32 (r : Nat) (s : Nat → Int32) : (mO r s)[32]? = some (.int (s 32)) := Eq.trans rfl rfl
theorem mOs_32 (M0 : qM) (r : Nat) (s : Nat → Int32) (A : Nat → Nat → Int32) (B : Nat → Nat → Int64) (v : Int32) : q_set (q_md M0 r s A B) r (.inr (12, (mO r s).set 32 (.int v))) = q_md M0 r (va_up s 32 v) A B := q_md_S rfl
theorem mO_33 (r : Nat) (s : Nat → Int32) : (mO r s)[33]? = some (.ref (r + 21)) := Eq.trans rfl rfl
theorem mO_34 (r : Nat) (s : Nat → Int32) : (mO r s)[34]? = some (.ref (r + 22)) := Eq.trans rfl rfl
theorem mO_35 (r : Nat) (s : Nat → Int32) : (mO r s)[35]? = some (.ref (r + 23)) := Eq.trans rfl rfl
theorem mO_36 (r : Nat) (s : Nat → Int32) : (mO r s)[36]? = some (.ref (r + 24)) := Eq.trans rfl rfl
theorem mO_37 (r : Nat) (s : Nat → Int32) : (mO r s)[37]? = some (.int (s 37)) := Eq.trans rfl rfl
theorem mOs_37 (M0 : qM) (r : Nat) (s : Nat → Int32) (A : Nat → Nat → Int32) (B : Nat → Nat → Int64) (v : Int32) : q_set (q_md M0 r s A B) r (.inr (12, (mO r s).set 37 (.int v))) = q_md M0 r (va_up s 37 v) A B := q_md_S rfl
theorem mO_38 (r : Nat) (s : Nat → Int32) : (mO r s)[38]? = some (.int (s 38)) := Eq.trans rfl rfl
theorem mOs_38 (M0 : qM) (r : Nat) (s : Nat → Int32) (A : Nat → Nat → Int32) (B : Nat → Nat → Int64) (v : Int32) : q_set (q_md M0 r s A B) r (.inr (12, (mO r s).set 38 (.int v))) = q_md M0 r (va_up s 38 v) A B := q_md_S rfl
theorem mO_39 (r : Nat) (s : Nat → Int32) : (mO r s)[39]? = some (.ref (r + 25)) := Eq.trans rfl rfl
theorem mO_40 (r : Nat) (s : Nat → Int32) : (mO r s)[40]? = some (.ref (r + 26)) := Eq.trans rfl rfl
theorem mO_41 (r : Nat) (s : Nat → Int32) : (mO r s)[41]? = some (.ref (r + 27)) := Eq.trans rfl rfl
theorem mO_42 (r : Nat) (s : Nat → Int32) : (mO r s)[42]? = some (.ref (r + 28)) := Eq.trans rfl rfl
theorem mO_43 (r : Nat) (s : Nat → Int32) : (mO r s)[43]? = some (.ref (r + 29)) := Eq.trans rfl rfl
theorem mO_44 (r : Nat) (s : Nat → Int32) : (mO r s)[44]? = some (.ref (r + 30)) := Eq.trans rfl rfl
theorem mO_45 (r : Nat) (s : Nat → Int32) : (mO r s)[45]? = some (.ref (r + 31)) := Eq.trans rfl rfl
theorem mO_46 (r : Nat) (s : Nat → Int32) : (mO r s)[46]? = some (.ref (r + 32)) := Eq.trans rfl rfl
theorem mO_47 (r : Nat) (s : Nat → Int32) : (mO r s)[47]? = some (.ref (r + 33)) := Eq.trans rfl rfl
theorem mO_48 (r : Nat) (s : Nat → Int32) : (mO r s)[48]? = some (.int (s 48)) := Eq.trans rfl rfl
theorem mOs_48 (M0 : qM) (r : Nat) (s : Nat → Int32) (A : Nat → Nat → Int32) (B : Nat → Nat → Int64) (v : Int32) : q_set (q_md M0 r s A B) r (.inr (12, (mO r s).set 48 (.int v))) = q_md M0 r (va_up s 48 v) A B := q_md_S rfl
theorem mO_49 (r : Nat) (s : Nat → Int32) : (mO r s)[49]? = some (.int (s 49)) := Eq.trans rfl rfl
theorem mOs_49 (M0 : qM) (r : Nat) (s : Nat → Int32) (A : Nat → Nat → Int32) (B : Nat → Nat → Int64) (v : Int32) : q_set (q_md M0 r s A B) r (.inr (12, (mO r s).set 49 (.int v))) = q_md M0 r (va_up s 49 v) A B := q_md_S rfl
theorem mO_50 (r : Nat) (s : Nat → Int32) : (mO r s)[50]? = some (.int (s 50)) := Eq.trans rfl rfl
theorem mOs_50 (M0 : qM) (r : Nat) (s : Nat → Int32) (A : Nat → Nat → Int32) (B : Nat → Nat → Int64) (v : Int32) : q_set (q_md M0 r s A B) r (.inr (12, (mO r s).set 50 (.int v))) = q_md M0 r (va_up s 50 v) A B := q_md_S rfl
theorem mO_51 (r : Nat) (s : Nat → Int32) : (mO r s)[51]? = some (.int (s 51)) := Eq.trans rfl rfl
theorem mOs_51 (M0 : qM) (r : Nat) (s : Nat → Int32) (A : Nat → Nat → Int32) (B : Nat → Nat → Int64) (v : Int32) : q_set (q_md M0 r s A B) r (.inr (12, (mO r s).set 51 (.int v))) = q_md M0 r (va_up s 51 v) A B := q_md_S rfl
theorem mO_52 (r : Nat) (s : Nat → Int32) : (mO r s)[52]? = some (.ref (r + 34)) := Eq.trans rfl rfl
theorem mO_53 (r : Nat) (s : Nat → Int32) : (mO r s)[53]? = some (.ref (r + 35)) := Eq.trans rfl rfl
theorem mO_54 (r : Nat) (s : Nat → Int32) : (mO r s)[54]? = some (.int (s 54)) := Eq.trans rfl rfl
theorem mOs_54 (M0 : qM) (r : Nat) (s : Nat → Int32) (A : Nat → Nat → Int32) (B : Nat → Nat → Int64) (v : Int32) : q_set (q_md M0 r s A B) r (.inr (12, (mO r s).set 54 (.int v))) = q_md M0 r (va_up s 54 v) A B := q_md_S rfl
theorem mO_55 (r : Nat) (s : Nat → Int32) : (mO r s)[55]? = some (.ref (r + 36)) := Eq.trans rfl rfl
theorem mO_56 (r : Nat) (s : Nat → Int32) : (mO r s)[56]? = some (.ref (r + 37)) := Eq.trans rfl rfl
theorem mO_57 (r : Nat) (s : Nat → Int32) : (mO r s)[57]? = some (.int (s 57)) := Eq.trans rfl rfl
theorem mOs_57 (M0 : qM) (r : Nat) (s : Nat → Int32) (A : Nat → Nat → Int32) (B : Nat → Nat → Int64) (v : Int32) : q_set (q_md M0 r s A B) r (.inr (12, (mO r s).set 57 (.int v))) = q_md M0 r (va_up s 57 v) A B := q_md_S rfl
theorem md_1 (M0 : qM) (r : Nat) (s : Nat → Int32) (A : Nat → Nat → Int32) (B : Nat → Nat → Int64) : (q_md M0 r s A B).2 (r + 1) = some (.inl (1, 12, .inl (A 1))) := q_md_k M0 r s A B (k := 1) (by decide)
theorem mds_1 (M0 : qM) (r : Nat) (s : Nat → Int32) (A : Nat → Nat → Int32) (B : Nat → Nat → Int64) (g : Nat → Int32) : q_set (q_md M0 r s A B) (r + 1) (.inl (1, 12, .inl g)) = q_md M0 r s (va_up A 1 g) B := q_md_A (k := 0) (by decide) rfl (by decide)
theorem md_3 (M0 : qM) (r : Nat) (s : Nat → Int32) (A : Nat → Nat → Int32) (B : Nat → Nat → Int64) : (q_md M0 r s A B).2 (r + 2) = some (.inl (1, 6400, .inl (A 3))) := q_md_k M0 r s A B (k := 2) (by decide)
theorem mds_3 (M0 : qM) (r : Nat) (s : Nat → Int32) (A : Nat → Nat → Int32) (B : Nat → Nat → Int64) (g : Nat → Int32) : q_set (q_md M0 r s A B) (r + 2) (.inl (1, 6400, .inl g)) = q_md M0 r s (va_up A 3 g) B := q_md_A (k := 1) (by decide) rfl (by decide)
theorem md_4 (M0 : qM) (r : Nat) (s : Nat → Int32) (A : Nat → Nat → Int32) (B : Nat → Nat → Int64) : (q_md M0 r s A B).2 (r + 3) = some (.inl (1, 6400, .inl (A 4))) := q_md_k M0 r s A B (k := 3) (by decide)
theorem mds_4 (M0 : qM) (r : Nat) (s : Nat → Int32) (A : Nat → Nat → Int32) (B : Nat → Nat → Int64) (g : Nat → Int32) : q_set (q_md M0 r s A B) (r + 3) (.inl (1, 6400, .inl g)) = q_md M0 r s (va_up A 4 g) B := q_md_A (k := 2) (by decide) rfl (by decide)
theorem md_5 (M0 : qM) (r : Nat) (s : Nat → Int32) (A : Nat → Nat → Int32) (B : Nat → Nat → Int64) : (q_md M0 r s A B).2 (r + 4) = some (.inl (1, 6400, .inl (A 5))) := q_md_k M0 r s A B (k := 4) (by decide)
theorem mds_5 (M0 : qM) (r : Nat) (s : Nat → Int32) (A : Nat → Nat → Int32) (B : Nat → Nat → Int64) (g : Nat → Int32) : q_set (q_md M0 r s A B) (r + 4) (.inl (1, 6400, .inl g)) = q_md M0 r s (va_up A 5 g) B := q_md_A (k := 3) (by decide) rfl (by decide)
theorem md_6 (M0 : qM) (r : Nat) (s : Nat → Int32) (A : Nat → Nat → Int32) (B : Nat → Nat → Int64) : (q_md M0 r s A B).2 (r + 5) = some (.inl (1, 6400, .inl (A 6))) := q_md_k M0 r s A B (k := 5) (by decide)
theorem mds_6 (M0 : qM) (r : Nat) (s : Nat → Int32) (A : Nat → Nat → Int32) (B : Nat → Nat → Int64) (g : Nat → Int32) : q_set (q_md M0 r s A B) (r + 5) (.inl (1, 6400, .inl g)) = q_md M0 r s (va_up A 6 g) B := q_md_A (k := 4) (by decide) rfl (by decide)
theorem md_7 (M0 : qM) (r : Nat) (s : Nat → Int32) (A : Nat → Nat → Int32) (B : Nat → Nat → Int64) : (q_md M0 r s A B).2 (r + 6) = some (.inl (1, 6400, .inl (A 7))) := q_md_k M0 r s A B (k := 6) (by decide)
theorem mds_7 (M0 : qM) (r : Nat) (s : Nat → Int32) (A : Nat → Nat → Int32) (B : Nat → Nat → Int64) (g : Nat → Int32) : q_set (q_md M0 r s A B) (r + 6) (.inl (1, 6400, .inl g)) = q_md M0 r s (va_up A 7 g) B := q_md_A (k := 5) (by decide) rfl (by decide)
theorem md_8 (M0 : qM) (r : Nat) (s : Nat → Int32) (A : Nat → Nat → Int32) (B : Nat → Nat → Int64) : (q_md M0 r s A B).2 (r + 7) = some (.inl (1, 6400, .inl (A 8))) := q_md_k M0 r s A B (k := 7) (by decide)
theorem mds_8 (M0 : qM) (r : Nat) (s : Nat → Int32) (A : Nat → Nat → Int32) (B : Nat → Nat → Int64) (g : Nat → Int32) : q_set (q_md M0 r s A B) (r + 7) (.inl (1, 6400, .inl g)) = q_md M0 r s (va_up A 8 g) B := q_md_A (k := 6) (by decide) rfl (by decide)
theorem md_9 (M0 : qM) (r : Nat) (s : Nat → Int32) (A : Nat → Nat → Int32) (B : Nat → Nat → Int64) : (q_md M0 r s A B).2 (r + 8) = some (.inl (1, 6400, .inl (A 9))) := q_md_k M0 r s A B (k := 8) (by decide)
theorem mds_9 (M0 : qM) (r : Nat) (s : Nat → Int32) (A : Nat → Nat → Int32) (B : Nat → Nat → Int64) (g : Nat → Int32) : q_set (q_md M0 r s A B) (r + 8) (.inl (1, 6400, .inl g)) = q_md M0 r s (va_up A 9 g) B := q_md_A (k := 7) (by decide) rfl (by decide)
theorem md_12 (M0 : qM) (r : Nat) (s : Nat → Int32) (A : Nat → Nat → Int32) (B : Nat → Nat → Int64) : (q_md M0 r s A B).2 (r + 9) = some (.inl (1, 12, .inl (A 12))) := q_md_k M0 r s A B (k := 9) (by decide)
theorem mds_12 (M0 : qM) (r : Nat) (s : Nat → Int32) (A : Nat → Nat → Int32) (B : Nat → Nat → Int64) (g : Nat → Int32) : q_set (q_md M0 r s A B) (r + 9) (.inl (1, 12, .inl g)) = q_md M0 r s (va_up A 12 g) B := q_md_A (k := 8) (by decide) rfl (by decide)
theorem md_13 (M0 : qM) (r : Nat) (s : Nat → Int32) (A : Nat → Nat → Int32) (B : Nat → Nat → Int64) : (q_md M0 r s A B).2 (r + 10) = some (.inl (1, 10, .inl (A 13))) := q_md_k M0 r s A B (k := 10) (by decide)
theorem mds_13 (M0 : qM) (r : Nat) (s : Nat → Int32) (A : Nat → Nat → Int32) (B : Nat → Nat → Int64) (g : Nat → Int32) : q_set (q_md M0 r s A B) (r + 10) (.inl (1, 10, .inl g)) = q_md M0 r s (va_up A 13 g) B := q_md_A (k := 9) (by decide) rfl (by decide)
theorem md_14 (M0 : qM) (r : Nat) (s : Nat → Int32) (A : Nat → Nat → Int32) (B : Nat → Nat → Int64) : (q_md M0 r s A B).2 (r + 11) = some (.inl (1, 120, .inl (A 14))) := q_md_k M0 r s A B (k := 11) (by decide)
theorem mds_14 (M0 : qM) (r : Nat) (s : Nat → Int32) (A : Nat → Nat → Int32) (B : Nat → Nat → Int64) (g : Nat → Int32) : q_set (q_md M0 r s A B) (r + 11) (.inl (1, 120, .inl g)) = q_md M0 r s (va_up A 14 g) B := q_md_A (k := 10) (by decide) rfl (by decide)
theorem md_15 (M0 : qM) (r : Nat) (s : Nat → Int32) (A : Nat → Nat → Int32) (B : Nat → Nat → Int64) : (q_md M0 r s A B).2 (r + 12) = some (.inl (1, 120, .inl (A 15))) := q_md_k M0 r s A B (k := 12) (by decide)
theorem mds_15 (M0 : qM) (r : Nat) (s : Nat → Int32) (A : Nat → Nat → Int32) (B : Nat → Nat → Int64) (g : Nat → Int32) : q_set (q_md M0 r s A B) (r + 12) (.inl (1, 120, .inl g)) = q_md M0 r s (va_up A 15 g) B := q_md_A (k := 11) (by decide) rfl (by decide)
theorem md_17 (M0 : qM) (r : Nat) (s : Nat → Int32) (A : Nat → Nat → Int32) (B : Nat → Nat → Int64) : (q_md M0 r s A B).2 (r + 13) = some (.inl (4, 60, .inl (A 17))) := q_md_k M0 r s A B (k := 13) (by decide)
theorem mds_17 (M0 : qM) (r : Nat) (s : Nat → Int32) (A : Nat → Nat → Int32) (B : Nat → Nat → Int64) (g : Nat → Int32) : q_set (q_md M0 r s A B) (r + 13) (.inl (4, 60, .inl g)) = q_md M0 r s (va_up A 17 g) B := q_md_A (k := 12) (by decide) rfl (by decide)
theorem md_23 (M0 : qM) (r : Nat) (s : Nat → Int32) (A : Nat → Nat → Int32) (B : Nat → Nat → Int64) : (q_md M0 r s A B).2 (r + 14) = some (.inl (1, 200, .inl (A 23))) := q_md_k M0 r s A B (k := 14) (by decide)
theorem mds_23 (M0 : qM) (r : Nat) (s : Nat → Int32) (A : Nat → Nat → Int32) (B : Nat → Nat → Int64) (g : Nat → Int32) : q_set (q_md M0 r s A B) (r + 14) (.inl (1, 200, .inl g)) = q_md M0 r s (va_up A 23 g) B := q_md_A (k := 13) (by decide) rfl (by decide)
theorem md_24 (M0 : qM) (r : Nat) (s : Nat → Int32) (A : Nat → Nat → Int32) (B : Nat → Nat → Int64) : (q_md M0 r s A B).2 (r + 15) = some (.inl (1, 2, .inl (A 24))) := q_md_k M0 r s A B (k := 15) (by decide)
theorem mds_24 (M0 : qM) (r : Nat) (s : Nat → Int32) (A : Nat → Nat → Int32) (B : Nat → Nat → Int64) (g : Nat → Int32) : q_set (q_md M0 r s A B) (r + 15) (.inl (1, 2, .inl g)) = q_md M0 r s (va_up A 24 g) B := q_md_A (k := 14) (by decide) rfl (by decide)
theorem md_25 (M0 : qM) (r : Nat) (s : Nat → Int32) (A : Nat → Nat → Int32) (B : Nat → Nat → Int64) : (q_md M0 r s A B).2 (r + 16) = some (.inl (1, 16, .inl (A 25))) := q_md_k M0 r s A B (k := 16) (by decide)
theorem mds_25 (M0 : qM) (r : Nat) (s : Nat → Int32) (A : Nat → Nat → Int32) (B : Nat → Nat → Int64) (g : Nat → Int32) : q_set (q_md M0 r s A B) (r + 16) (.inl (1, 16, .inl g)) = q_md M0 r s (va_up A 25 g) B := q_md_A (k := 15) (by decide) rfl (by decide)
theorem md_26 (M0 : qM) (r : Nat) (s : Nat → Int32) (A : Nat → Nat → Int32) (B : Nat → Nat → Int64) : (q_md M0 r s A B).2 (r + 17) = some (.inl (1, 16, .inl (A 26))) := q_md_k M0 r s A B (k := 17) (by decide)
theorem mds_26 (M0 : qM) (r : Nat) (s : Nat → Int32) (A : Nat → Nat → Int32) (B : Nat → Nat → Int64) (g : Nat → Int32) : q_set (q_md M0 r s A B) (r + 17) (.inl (1, 16, .inl g)) = q_md M0 r s (va_up A 26 g) B := q_md_A (k := 16) (by decide) rfl (by decide)
theorem md_27 (M0 : qM) (r : Nat) (s : Nat → Int32) (A : Nat → Nat → Int32) (B : Nat → Nat → Int64) : (q_md M0 r s A B).2 (r + 18) = some (.inl (1, 2, .inl (A 27))) := q_md_k M0 r s A B (k := 18) (by decide)
theorem mds_27 (M0 : qM) (r : Nat) (s : Nat → Int32) (A : Nat → Nat → Int32) (B : Nat → Nat → Int64) (g : Nat → Int32) : q_set (q_md M0 r s A B) (r + 18) (.inl (1, 2, .inl g)) = q_md M0 r s (va_up A 27 g) B := q_md_A (k := 17) (by decide) rfl (by decide)
theorem md_28 (M0 : qM) (r : Nat) (s : Nat → Int32) (A : Nat → Nat → Int32) (B : Nat → Nat → Int64) : (q_md M0 r s A B).2 (r + 19) = some (.inl (1, 2, .inl (A 28))) := q_md_k M0 r s A B (k := 19) (by decide)
theorem mds_28 (M0 : qM) (r : Nat) (s : Nat → Int32) (A : Nat → Nat → Int32) (B : Nat → Nat → Int64) (g : Nat → Int32) : q_set (q_md M0 r s A B) (r + 19) (.inl (1, 2, .inl g)) = q_md M0 r s (va_up A 28 g) B := q_md_A (k := 18) (by decide) rfl (by decide)
theorem md_29 (M0 : qM) (r : Nat) (s : Nat → Int32) (A : Nat → Nat → Int32) (B : Nat → Nat → Int64) : (q_md M0 r s A B).2 (r + 20) = some (.inl (3, 2, .inl (A 29))) := q_md_k M0 r s A B (k := 20) (by decide)
theorem mds_29 (M0 : qM) (r : Nat) (s : Nat → Int32) (A : Nat → Nat → Int32) (B : Nat → Nat → Int64) (g : Nat → Int32) : q_set (q_md M0 r s A B) (r + 20) (.inl (3, 2, .inl g)) = q_md M0 r s (va_up A 29 g) B := q_md_A (k := 19) (by decide) rfl (by decide)
theorem md_33 (M0 : qM) (r : Nat) (s : Nat → Int32) (A : Nat → Nat → Int32) (B : Nat → Nat → Int64) : (q_md M0 r s A B).2 (r + 21) = some (.inl (1, 3328, .inl (A 33))) := q_md_k M0 r s A B (k := 21) (by decide)
theorem mds_33 (M0 : qM) (r : Nat) (s : Nat → Int32) (A : Nat → Nat → Int32) (B : Nat → Nat → Int64) (g : Nat → Int32) : q_set (q_md M0 r s A B) (r + 21) (.inl (1, 3328, .inl g)) = q_md M0 r s (va_up A 33 g) B := q_md_A (k := 20) (by decide) rfl (by decide)
theorem md_34 (M0 : qM) (r : Nat) (s : Nat → Int32) (A : Nat → Nat → Int32) (B : Nat → Nat → Int64) : (q_md M0 r s A B).2 (r + 22) = some (.inl (1, 65536, .inl (A 34))) := q_md_k M0 r s A B (k := 22) (by decide)
theorem mds_34 (M0 : qM) (r : Nat) (s : Nat → Int32) (A : Nat → Nat → Int32) (B : Nat → Nat → Int64) (g : Nat → Int32) : q_set (q_md M0 r s A B) (r + 22) (.inl (1, 65536, .inl g)) = q_md M0 r s (va_up A 34 g) B := q_md_A (k := 21) (by decide) rfl (by decide)
theorem md_35 (M0 : qM) (r : Nat) (s : Nat → Int32) (A : Nat → Nat → Int32) (B : Nat → Nat → Int64) : (q_md M0 r s A B).2 (r + 23) = some (.inl (1, 65536, .inl (A 35))) := q_md_k M0 r s A B (k := 23) (by decide)
theorem mds_35 (M0 : qM) (r : Nat) (s : Nat → Int32) (A : Nat → Nat → Int32) (B : Nat → Nat → Int64) (g : Nat → Int32) : q_set (q_md M0 r s A B) (r + 23) (.inl (1, 65536, .inl g)) = q_md M0 r s (va_up A 35 g) B := q_md_A (k := 22) (by decide) rfl (by decide)
theorem md_36 (M0 : qM) (r : Nat) (s : Nat → Int32) (A : Nat → Nat → Int32) (B : Nat → Nat → Int64) : (q_md M0 r s A B).2 (r + 24) = some (.inl (3, 65536, .inl (A 36))) := q_md_k M0 r s A B (k := 24) (by decide)
theorem mds_36 (M0 : qM) (r : Nat) (s : Nat → Int32) (A : Nat → Nat → Int32) (B : Nat → Nat → Int64) (g : Nat → Int32) : q_set (q_md M0 r s A B) (r + 24) (.inl (3, 65536, .inl g)) = q_md M0 r s (va_up A 36 g) B := q_md_A (k := 23) (by decide) rfl (by decide)
theorem md_39 (M0 : qM) (r : Nat) (s : Nat → Int32) (A : Nat → Nat → Int32) (B : Nat → Nat → Int64) : (q_md M0 r s A B).2 (r + 25) = some (.inl (1, 20, .inl (A 39))) := q_md_k M0 r s A B (k := 25) (by decide)
theorem mds_39 (M0 : qM) (r : Nat) (s : Nat → Int32) (A : Nat → Nat → Int32) (B : Nat → Nat → Int64) (g : Nat → Int32) : q_set (q_md M0 r s A B) (r + 25) (.inl (1, 20, .inl g)) = q_md M0 r s (va_up A 39 g) B := q_md_A (k := 24) (by decide) rfl (by decide)
theorem md_40 (M0 : qM) (r : Nat) (s : Nat → Int32) (A : Nat → Nat → Int32) (B : Nat → Nat → Int64) : (q_md M0 r s A B).2 (r + 26) = some (.inl (1, 20, .inl (A 40))) := q_md_k M0 r s A B (k := 26) (by decide)
theorem mds_40 (M0 : qM) (r : Nat) (s : Nat → Int32) (A : Nat → Nat → Int32) (B : Nat → Nat → Int64) (g : Nat → Int32) : q_set (q_md M0 r s A B) (r + 26) (.inl (1, 20, .inl g)) = q_md M0 r s (va_up A 40 g) B := q_md_A (k := 25) (by decide) rfl (by decide)
theorem md_41 (M0 : qM) (r : Nat) (s : Nat → Int32) (A : Nat → Nat → Int32) (B : Nat → Nat → Int64) : (q_md M0 r s A B).2 (r + 27) = some (.inl (1, 20, .inl (A 41))) := q_md_k M0 r s A B (k := 27) (by decide)
theorem mds_41 (M0 : qM) (r : Nat) (s : Nat → Int32) (A : Nat → Nat → Int32) (B : Nat → Nat → Int64) (g : Nat → Int32) : q_set (q_md M0 r s A B) (r + 27) (.inl (1, 20, .inl g)) = q_md M0 r s (va_up A 41 g) B := q_md_A (k := 26) (by decide) rfl (by decide)
theorem md_42 (M0 : qM) (r : Nat) (s : Nat → Int32) (A : Nat → Nat → Int32) (B : Nat → Nat → Int64) : (q_md M0 r s A B).2 (r + 28) = some (.inl (1, 20, .inl (A 42))) := q_md_k M0 r s A B (k := 28) (by decide)
theorem mds_42 (M0 : qM) (r : Nat) (s : Nat → Int32) (A : Nat → Nat → Int32) (B : Nat → Nat → Int64) (g : Nat → Int32) : q_set (q_md M0 r s A B) (r + 28) (.inl (1, 20, .inl g)) = q_md M0 r s (va_up A 42 g) B := q_md_A (k := 27) (by decide) rfl (by decide)
theorem md_43 (M0 : qM) (r : Nat) (s : Nat → Int32) (A : Nat → Nat → Int32) (B : Nat → Nat → Int64) : (q_md M0 r s A B).2 (r + 29) = some (.inl (3, 20, .inl (A 43))) := q_md_k M0 r s A B (k := 29) (by decide)
theorem mds_43 (M0 : qM) (r : Nat) (s : Nat → Int32) (A : Nat → Nat → Int32) (B : Nat → Nat → Int64) (g : Nat → Int32) : q_set (q_md M0 r s A B) (r + 29) (.inl (3, 20, .inl g)) = q_md M0 r s (va_up A 43 g) B := q_md_A (k := 28) (by decide) rfl (by decide)
theorem md_44 (M0 : qM) (r : Nat) (s : Nat → Int32) (A : Nat → Nat → Int32) (B : Nat → Nat → Int64) : (q_md M0 r s A B).2 (r + 30) = some (.inl (3, 6000, .inl (A 44))) := q_md_k M0 r s A B (k := 30) (by decide)
theorem mds_44 (M0 : qM) (r : Nat) (s : Nat → Int32) (A : Nat → Nat → Int32) (B : Nat → Nat → Int64) (g : Nat → Int32) : q_set (q_md M0 r s A B) (r + 30) (.inl (3, 6000, .inl g)) = q_md M0 r s (va_up A 44 g) B := q_md_A (k := 29) (by decide) rfl (by decide)
theorem md_45 (M0 : qM) (r : Nat) (s : Nat → Int32) (A : Nat → Nat → Int32) (B : Nat → Nat → Int64) : (q_md M0 r s A B).2 (r + 31) = some (.inl (2, 6000, .inr (.inl (B 45)))) := q_md_k M0 r s A B (k := 31) (by decide)
theorem mds_45 (M0 : qM) (r : Nat) (s : Nat → Int32) (A : Nat → Nat → Int32) (B : Nat → Nat → Int64) (g : Nat → Int64) : q_set (q_md M0 r s A B) (r + 31) (.inl (2, 6000, .inr (.inl g))) = q_md M0 r s A (va_up B 45 g) := q_md_B (k := 30) (by decide) rfl
theorem md_46 (M0 : qM) (r : Nat) (s : Nat → Int32) (A : Nat → Nat → Int32) (B : Nat → Nat → Int64) : (q_md M0 r s A B).2 (r + 32) = some (.inl (2, 6000, .inr (.inl (B 46)))) := q_md_k M0 r s A B (k := 32) (by decide)
theorem mds_46 (M0 : qM) (r : Nat) (s : Nat → Int32) (A : Nat → Nat → Int32) (B : Nat → Nat → Int64) (g : Nat → Int64) : q_set (q_md M0 r s A B) (r + 32) (.inl (2, 6000, .inr (.inl g))) = q_md M0 r s A (va_up B 46 g) := q_md_B (k := 31) (by decide) rfl
theorem md_47 (M0 : qM) (r : Nat) (s : Nat → Int32) (A : Nat → Nat → Int32) (B : Nat → Nat → Int64) : (q_md M0 r s A B).2 (r + 33) = some (.inl (1, 121, .inl (A 47))) := q_md_k M0 r s A B (k := 33) (by decide)
theorem mds_47 (M0 : qM) (r : Nat) (s : Nat → Int32) (A : Nat → Nat → Int32) (B : Nat → Nat → Int64) (g : Nat → Int32) : q_set (q_md M0 r s A B) (r + 33) (.inl (1, 121, .inl g)) = q_md M0 r s (va_up A 47 g) B := q_md_A (k := 32) (by decide) rfl (by decide)
theorem md_52 (M0 : qM) (r : Nat) (s : Nat → Int32) (A : Nat → Nat → Int32) (B : Nat → Nat → Int64) : (q_md M0 r s A B).2 (r + 34) = some (.inl (2, 6000, .inr (.inl (B 52)))) := q_md_k M0 r s A B (k := 34) (by decide)
theorem mds_52 (M0 : qM) (r : Nat) (s : Nat → Int32) (A : Nat → Nat → Int32) (B : Nat → Nat → Int64) (g : Nat → Int64) : q_set (q_md M0 r s A B) (r + 34) (.inl (2, 6000, .inr (.inl g))) = q_md M0 r s A (va_up B 52 g) := q_md_B (k := 33) (by decide) rfl
theorem md_53 (M0 : qM) (r : Nat) (s : Nat → Int32) (A : Nat → Nat → Int32) (B : Nat → Nat → Int64) : (q_md M0 r s A B).2 (r + 35) = some (.inl (2, 6000, .inr (.inl (B 53)))) := q_md_k M0 r s A B (k := 35) (by decide)
theorem mds_53 (M0 : qM) (r : Nat) (s : Nat → Int32) (A : Nat → Nat → Int32) (B : Nat → Nat → Int64) (g : Nat → Int64) : q_set (q_md M0 r s A B) (r + 35) (.inl (2, 6000, .inr (.inl g))) = q_md M0 r s A (va_up B 53 g) := q_md_B (k := 34) (by decide) rfl
theorem md_55 (M0 : qM) (r : Nat) (s : Nat → Int32) (A : Nat → Nat → Int32) (B : Nat → Nat → Int64) : (q_md M0 r s A B).2 (r + 36) = some (.inl (2, 6000, .inr (.inl (B 55)))) := q_md_k M0 r s A B (k := 36) (by decide)
theorem mds_55 (M0 : qM) (r : Nat) (s : Nat → Int32) (A : Nat → Nat → Int32) (B : Nat → Nat → Int64) (g : Nat → Int64) : q_set (q_md M0 r s A B) (r + 36) (.inl (2, 6000, .inr (.inl g))) = q_md M0 r s A (va_up B 55 g) := q_md_B (k := 35) (by decide) rfl
theorem md_56 (M0 : qM) (r : Nat) (s : Nat → Int32) (A : Nat → Nat → Int32) (B : Nat → Nat → Int64) : (q_md M0 r s A B).2 (r + 37) = some (.inl (2, 6000, .inr (.inl (B 56)))) := q_md_k M0 r s A B (k := 37) (by decide)
theorem mds_56 (M0 : qM) (r : Nat) (s : Nat → Int32) (A : Nat → Nat → Int32) (B : Nat → Nat → Int64) (g : Nat → Int64) : q_set (q_md M0 r s A B) (r + 37) (.inl (2, 6000, .inr (.inl g))) = q_md M0 r s A (va_up B 56 g) := q_md_B (k := 36) (by decide) rfl
