/-! how many patterns there are; each one stands in the table -/
def k_n (c : Nat) : Nat := (k_new c (k_T c) k_F).length
def k_b (c : Nat) : Nat := (k_prs 2 1 c (k_T c) k_F (k_T c).length).length
def k_S (h : qT → Nat) (T : List kE) : Nat := (T.map fun e => h e.2.2).sum
theorem k_S_app (h : qT → Nat) (T T' : List kE) : k_S h (T ++ T') = k_S h T + k_S h T' := by
  unfold k_S
  rw [List.map_append, List.sum_append]
theorem k_S_const {h : qT → Nat} {v : Nat} : ∀ {T : List kE}, (∀ e, e ∈ T → h e.2.2 = v) → k_S h T = T.length * v
  | [], _ => by rw [List.length_nil, Nat.zero_mul]; rfl
  | e :: T, hc => by
    have h1 := k_S_const (h := h) (v := v) (T := T) fun e he => hc e (List.mem_cons_of_mem _ he)
    have h2 := hc e List.mem_cons_self
    show h e.2.2 + k_S h T = (T.length + 1) * v
    rw [h1, h2, Nat.add_mul, Nat.one_mul, Nat.add_comm]
theorem k_range_S (h : qT → Nat) (T : List kE) : ((List.range T.length).map fun x => h (k_t T x)).sum = k_S h T := by
  unfold k_S
  congr 1
  apply List.ext_getElem
  · rw [List.length_map, List.length_map, List.length_range]
  · intro i h1 h2
    rw [List.getElem_map, List.getElem_map, List.getElem_range]
    rw [List.length_map] at h2
    rw [k_t_at (List.getElem?_eq_getElem h2)]
def k_g (kd own c : Nat) (th : Bool) (m : Nat) : Nat := if (kd = 2 ∧ th = true) ∨ c < own + m + 2 then 0 else k_n (c - own - m)
theorem k_n_F (c : Nat) : k_F (c + 1) - k_F c = k_n c := by
  rw [k_F_s]
  show k_F c + k_n c - k_F c = k_n c
  omega
theorem k_prs_len (kd own c : Nat) (T : List kE) : (k_prs kd own c T k_F T.length).length = k_S (fun u => k_g kd own c (decide (t_kind u = 2)) (t_cost u)) T := by
  unfold k_prs
  rw [List.length_flatMap, ← k_range_S]
  congr 2
  funext x
  unfold k_row k_rn k_g
  rw [List.length_map, List.length_range, k_n_F]
  simp only [decide_eq_true_eq]
def k_sm (kd own c : Nat) : Nat → Nat
  | 0 => 0
  | m + 1 => k_sm kd own c m + (k_b m * k_g kd own c true m + (k_n m - k_b m) * k_g kd own c false m)
theorem k_S_T (kd own c : Nat) : ∀ m, k_S (fun u => k_g kd own c (decide (t_kind u = 2)) (t_cost u)) (k_T m) = k_sm kd own c m
  | 0 => rfl
  | m + 1 => by
    rw [k_T_s, k_S_app, k_S_T kd own c m]
    show _ = k_sm kd own c m + (k_b m * k_g kd own c true m + (k_n m - k_b m) * k_g kd own c false m)
    congr 1
    have cost : ∀ e, e ∈ k_new m (k_T m) k_F → t_cost e.2.2 = m := by
      intro e he
      obtain ⟨q, hq, hqe⟩ := List.mem_iff_getElem.mp he
      refine (k_Bl_all m (k_F m + q) e ?_ (by omega)).1
      rw [k_T_s, List.getElem?_append_right (by show k_F m ≤ _; omega), show k_F m + q - (k_T m).length = q by show k_F m + q - k_F m = q; omega, List.getElem?_eq_getElem hq, hqe]
    have hn : k_n m = (k_new m (k_T m) k_F).length := rfl
    have hb : k_b m = (k_prs 2 1 m (k_T m) k_F (k_T m).length).length := rfl
    have kT : ∀ e, e ∈ k_prs 2 1 m (k_T m) k_F (k_T m).length → t_kind e.2.2 = 2 := by
      intro e he
      unfold k_prs k_row at he
      rw [List.mem_flatMap] at he
      obtain ⟨x, -, he⟩ := he
      rw [List.mem_map] at he
      obtain ⟨y, -, he⟩ := he
      subst he
      rfl
    have kP : ∀ e, e ∈ k_prs 3 2 m (k_T m) k_F (k_T m).length → t_kind e.2.2 ≠ 2 := by
      intro e he
      unfold k_prs k_row at he
      rw [List.mem_flatMap] at he
      obtain ⟨x, -, he⟩ := he
      rw [List.mem_map] at he
      obtain ⟨y, -, he⟩ := he
      subst he
      show (3 : Nat) ≠ 2
      decide
    have kS : ∀ kd', kd' = 4 ∨ kd' = 5 → ∀ e, e ∈ k_sg kd' m (k_T m) k_F (k_sn m k_F) → t_kind e.2.2 ≠ 2 := by
      intro kd' hk e he
      unfold k_sg at he
      rw [List.mem_map] at he
      obtain ⟨y, -, he⟩ := he
      subst he
      rcases hk with h | h <;> subst h
      · show (4 : Nat) ≠ 2; decide
      · show (5 : Nat) ≠ 2; decide
    have kA : ∀ q e, e ∈ k_lA q → t_kind e.2.2 ≠ 2 := by
      intro q e he
      unfold k_lA at he
      rw [List.mem_map] at he
      obtain ⟨y, -, he⟩ := he
      subst he
      show (0 : Nat) ≠ 2
      decide
    have kB : ∀ q e, e ∈ k_lB q → t_kind e.2.2 ≠ 2 := by
      intro q e he
      unfold k_lB at he
      rw [List.mem_map] at he
      obtain ⟨y, -, he⟩ := he
      subst he
      show (1 : Nat) ≠ 2
      decide
    have hF : ∀ e, e ∈ k_new m (k_T m) k_F → t_kind e.2.2 ≠ 2 → k_g kd own c (decide (t_kind e.2.2 = 2)) (t_cost e.2.2) = k_g kd own c false m := fun e he g => by rw [cost e he, decide_eq_false g]
    have hT : ∀ e, e ∈ k_new m (k_T m) k_F → t_kind e.2.2 = 2 → k_g kd own c (decide (t_kind e.2.2 = 2)) (t_cost e.2.2) = k_g kd own c true m := fun e he g => by rw [cost e he, decide_eq_true g]
    rw [hn, hb]
    unfold k_new at hF hT ⊢
    simp only [List.mem_append] at hF hT
    rw [k_S_app, k_S_app, k_S_app, k_S_app, k_S_app, k_S_const (v := k_g kd own c false m) fun e he => hF e (Or.inl he) (kA _ e he), k_S_const (v := k_g kd own c false m) fun e he => hF e (Or.inr (Or.inl he)) (kB _ e he), k_S_const (v := k_g kd own c true m) fun e he => hT e (Or.inr (Or.inr (Or.inl he))) (kT e he), k_S_const (v := k_g kd own c false m) fun e he => hF e (Or.inr (Or.inr (Or.inr (Or.inl he)))) (kP e he), k_S_const (v := k_g kd own c false m) fun e he => hF e (Or.inr (Or.inr (Or.inr (Or.inr (Or.inl he))))) (kS 4 (Or.inl rfl) e he), k_S_const (v := k_g kd own c false m) fun e he => hF e (Or.inr (Or.inr (Or.inr (Or.inr (Or.inr he))))) (kS 5 (Or.inr rfl) e he)]
    simp only [List.length_append]
    generalize k_g kd own c false m = gf
    generalize k_g kd own c true m = gt
    generalize (k_lA (if m = 2 then 3 else 0)).length = a1
    generalize (k_lB (if m = 3 then 7 else 0)).length = a2
    generalize (k_prs 2 1 m (k_T m) k_F (k_T m).length).length = a3
    generalize (k_prs 3 2 m (k_T m) k_F (k_T m).length).length = a4
    generalize (k_sg 4 m (k_T m) k_F (k_sn m k_F)).length = a5
    generalize (k_sg 5 m (k_T m) k_F (k_sn m k_F)).length = a6
    rw [show a1 + (a2 + (a3 + (a4 + (a5 + a6)))) - a3 = a1 + (a2 + (a4 + (a5 + a6))) by omega]
    simp only [Nat.add_mul]
    omega
theorem k_b_eq (c : Nat) : k_b c = k_sm 2 1 c c := by
  unfold k_b
  rw [k_prs_len, k_S_T]
theorem k_n_eq (c : Nat) : k_n c = (if c = 2 then 3 else 0) + ((if c = 3 then 7 else 0) + (k_sm 2 1 c c + (k_sm 3 2 c c + ((if c < 4 then 0 else k_n (c - 2)) + (if c < 4 then 0 else k_n (c - 2)))))) := by
  have e : (if c < 4 then 0 else k_n (c - 2)) = k_sn c k_F := by
    unfold k_sn
    by_cases g : c < 4
    · rw [if_pos g, if_pos g]
    · rw [if_neg g, if_neg g, ← k_n_F, show c - 2 + 1 = c - 1 by omega]
  rw [e]
  show (k_new c (k_T c) k_F).length = _
  unfold k_new
  simp only [List.length_append]
  rw [k_prs_len, k_prs_len, k_S_T, k_S_T]
  unfold k_lA k_lB k_sg
  simp only [List.length_map, List.length_range]
def k_gA (n : Nat → Nat) (kd own c : Nat) (th : Bool) (m : Nat) : Nat := if (kd = 2 ∧ th = true) ∨ c < own + m + 2 then 0 else n (c - own - m)
def k_smA (n b : Nat → Nat) (kd own c : Nat) : Nat → Nat
  | 0 => 0
  | m + 1 => k_smA n b kd own c m + (b m * k_gA n kd own c true m + (n m - b m) * k_gA n kd own c false m)
theorem k_sm_A (kd own c : Nat) : ∀ m, k_sm kd own c m = k_smA k_n k_b kd own c m
  | 0 => rfl
  | m + 1 => by
    show k_sm kd own c m + (k_b m * k_g kd own c true m + (k_n m - k_b m) * k_g kd own c false m) = k_smA k_n k_b kd own c m + (k_b m * k_gA k_n kd own c true m + (k_n m - k_b m) * k_gA k_n kd own c false m)
    rw [k_sm_A kd own c m]
    rfl
theorem k_num (n b : Nat → Nat) (hb : ∀ c, b c = k_smA n b 2 1 c c) (hn : ∀ c, n c = (if c = 2 then 3 else 0) + ((if c = 3 then 7 else 0) + (k_smA n b 2 1 c c + (k_smA n b 3 2 c c + ((if c < 4 then 0 else n (c - 2)) + (if c < 4 then 0 else n (c - 2))))))) : n 2 + n 3 + n 4 + n 5 + n 6 + n 7 + n 8 + n 9 + n 10 = 4937 := by
  have v0 : n 0 = 0 ∧ b 0 = 0 := by
    rw [hn, hb]
    simp [k_smA, k_gA]
  have v1 : n 1 = 0 ∧ b 1 = 0 := by
    rw [hn, hb]
    simp [k_smA, k_gA, v0.1, v0.2]
  have v2 : n 2 = 3 ∧ b 2 = 0 := by
    rw [hn, hb]
    simp [k_smA, k_gA, v0.1, v0.2, v1.1, v1.2]
  have v3 : n 3 = 7 ∧ b 3 = 0 := by
    rw [hn, hb]
    simp [k_smA, k_gA, v0.1, v0.2, v1.1, v1.2, v2.1, v2.2]
  have v4 : n 4 = 6 ∧ b 4 = 0 := by
    rw [hn, hb]
    simp [k_smA, k_gA, v0.1, v0.2, v1.1, v1.2, v2.1, v2.2, v3.1, v3.2]
  have v5 : n 5 = 23 ∧ b 5 = 9 := by
    rw [hn, hb]
    simp [k_smA, k_gA, v0.1, v0.2, v1.1, v1.2, v2.1, v2.2, v3.1, v3.2, v4.1, v4.2]
  have v6 : n 6 = 63 ∧ b 6 = 42 := by
    rw [hn, hb]
    simp [k_smA, k_gA, v0.1, v0.2, v1.1, v1.2, v2.1, v2.2, v3.1, v3.2, v4.1, v4.2, v5.1, v5.2]
  have v7 : n 7 = 173 ∧ b 7 = 85 := by
    rw [hn, hb]
    simp [k_smA, k_gA, v0.1, v0.2, v1.1, v1.2, v2.1, v2.2, v3.1, v3.2, v4.1, v4.2, v5.1, v5.2, v6.1, v6.2]
  have v8 : n 8 = 406 ∧ b 8 = 195 := by
    rw [hn, hb]
    simp [k_smA, k_gA, v0.1, v0.2, v1.1, v1.2, v2.1, v2.2, v3.1, v3.2, v4.1, v4.2, v5.1, v5.2, v6.1, v6.2, v7.1, v7.2]
  have v9 : n 9 = 1115 ∧ b 9 = 547 := by
    rw [hn, hb]
    simp [k_smA, k_gA, v0.1, v0.2, v1.1, v1.2, v2.1, v2.2, v3.1, v3.2, v4.1, v4.2, v5.1, v5.2, v6.1, v6.2, v7.1, v7.2, v8.1, v8.2]
  have v10 : n 10 = 3141 ∧ b 10 = 1593 := by
    rw [hn, hb]
    simp [k_smA, k_gA, v0.1, v0.2, v1.1, v1.2, v2.1, v2.2, v3.1, v3.2, v4.1, v4.2, v5.1, v5.2, v6.1, v6.2, v7.1, v7.2, v8.1, v8.2, v9.1, v9.2]
  rw [v2.1, v3.1, v4.1, v5.1, v6.1, v7.1, v8.1, v9.1, v10.1]
theorem k_4937 : k_F 11 = 4937 := by
  have h := k_num k_n k_b (fun c => (k_b_eq c).trans (k_sm_A _ _ _ _)) (fun c => by
    have e := k_n_eq c
    rw [k_sm_A, k_sm_A] at e
    exact e)
  have f : ∀ c, k_F (c + 1) = k_F c + k_n c := k_F_s
  have f2 : k_F 3 = k_F 2 + k_n 2 := f 2
  have f3 : k_F 4 = k_F 3 + k_n 3 := f 3
  have f4 : k_F 5 = k_F 4 + k_n 4 := f 4
  have f5 : k_F 6 = k_F 5 + k_n 5 := f 5
  have f6 : k_F 7 = k_F 6 + k_n 6 := f 6
  have f7 : k_F 8 = k_F 7 + k_n 7 := f 7
  have f8 : k_F 9 = k_F 8 + k_n 8 := f 8
  have f9 : k_F 10 = k_F 9 + k_n 9 := f 9
  have f10 : k_F 11 = k_F 10 + k_n 10 := f 10
  have f0 := k_F2
  generalize k_n = n at *
  generalize k_F = F at *
  omega
