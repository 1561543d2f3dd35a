/-! all patterns of a cost of at most 10, in their order: the pure table -/
abbrev kE : Type := Nat × Nat × qT
def k_t (T : List kE) (x : Nat) : qT := (T[x]?.getD (0, 0, .num 0)).2.2
theorem k_t_at {T : List kE} {x : Nat} {e : kE} (h : T[x]? = some e) : k_t T x = e.2.2 := by
  unfold k_t
  rw [h]
  rfl
def k_row (kd own c : Nat) (T : List kE) (F : Nat → Nat) (x q : Nat) : List kE := (List.range q).map fun y => (x, F (c - own - t_cost (k_t T x)) + y, t_2 kd (k_t T x) (k_t T (F (c - own - t_cost (k_t T x)) + y)))
def k_rn (kd own c : Nat) (T : List kE) (F : Nat → Nat) (x : Nat) : Nat := if (kd = 2 ∧ t_kind (k_t T x) = 2) ∨ c < own + t_cost (k_t T x) + 2 then 0 else F (c - own - t_cost (k_t T x) + 1) - F (c - own - t_cost (k_t T x))
def k_prs (kd own c : Nat) (T : List kE) (F : Nat → Nat) (n : Nat) : List kE := (List.range n).flatMap fun x => k_row kd own c T F x (k_rn kd own c T F x)
def k_sg (kd c : Nat) (T : List kE) (F : Nat → Nat) (q : Nat) : List kE := (List.range q).map fun y => (F (c - 2) + y, 0, t_1 kd (k_t T (F (c - 2) + y)))
def k_sn (c : Nat) (F : Nat → Nat) : Nat := if c < 4 then 0 else F (c - 1) - F (c - 2)
def k_lA (n : Nat) : List kE := (List.range n).map fun v => (v, 0, .num (v : Int))
def k_lB (n : Nat) : List kE := (List.range n).map fun v => (v + 1, 0, .var (v + 1))
def k_new (c : Nat) (T : List kE) (F : Nat → Nat) : List kE := k_lA (if c = 2 then 3 else 0) ++ (k_lB (if c = 3 then 7 else 0) ++ (k_prs 2 1 c T F T.length ++ (k_prs 3 2 c T F T.length ++ (k_sg 4 c T F (k_sn c F) ++ k_sg 5 c T F (k_sn c F)))))
def k_st : Nat → List kE × (Nat → Nat)
  | 0 => ([], fun _ => 0)
  | c + 1 => ((k_st c).1 ++ k_new c (k_st c).1 (va_up (k_st c).2 c (k_st c).1.length), va_up (k_st c).2 c (k_st c).1.length)
def k_T (c : Nat) : List kE := (k_st c).1
def k_F (c : Nat) : Nat := (k_T c).length
theorem k_st_F : ∀ (c c' : Nat), c' < c → (k_st c).2 c' = k_F c'
  | 0, _, h => absurd h (by omega)
  | c + 1, c', h => by
    show va_up (k_st c).2 c (k_st c).1.length c' = _
    rcases Nat.lt_or_eq_of_le (Nat.le_of_lt_succ h) with g | g
    · rw [va_up_ne _ _ (by omega)]
      exact k_st_F c c' g
    · subst g
      rw [va_up_self]
      rfl
theorem k_row_F {kd own c : Nat} {T : List kE} {F F' : Nat → Nat} (h : ∀ c', c' ≤ c → F c' = F' c') (x q : Nat) : k_row kd own c T F x q = k_row kd own c T F' x q := by
  unfold k_row
  rw [h (c - own - t_cost (k_t T x)) (by omega)]
theorem k_rn_F {kd own c : Nat} {T : List kE} {F F' : Nat → Nat} (ho : 1 ≤ own) (h : ∀ c', c' ≤ c → F c' = F' c') (x : Nat) : k_rn kd own c T F x = k_rn kd own c T F' x := by
  unfold k_rn
  by_cases g : (kd = 2 ∧ t_kind (k_t T x) = 2) ∨ c < own + t_cost (k_t T x) + 2
  · rw [if_pos g, if_pos g]
  · rw [if_neg g, if_neg g, h _ (by omega), h _ (by omega)]
theorem k_prs_F {kd own c : Nat} {T : List kE} {F F' : Nat → Nat} (ho : 1 ≤ own) (h : ∀ c', c' ≤ c → F c' = F' c') (n : Nat) : k_prs kd own c T F n = k_prs kd own c T F' n := by
  unfold k_prs
  congr 1
  funext x
  rw [k_rn_F ho h, k_row_F h]
theorem k_sg_F {kd c : Nat} {T : List kE} {F F' : Nat → Nat} (h : ∀ c', c' ≤ c → F c' = F' c') (q : Nat) : k_sg kd c T F q = k_sg kd c T F' q := by
  unfold k_sg
  rw [h (c - 2) (by omega)]
theorem k_sn_F {c : Nat} {F F' : Nat → Nat} (h : ∀ c', c' ≤ c → F c' = F' c') : k_sn c F = k_sn c F' := by
  unfold k_sn
  rw [h (c - 2) (by omega), h (c - 1) (by omega)]
theorem k_new_F {c : Nat} {T : List kE} {F F' : Nat → Nat} (h : ∀ c', c' ≤ c → F c' = F' c') : k_new c T F = k_new c T F' := by
  unfold k_new
  rw [k_prs_F (by decide) h, k_prs_F (own := 2) (by decide) h, k_sn_F h, k_sg_F h, k_sg_F (kd := 5) h]
theorem k_T_s (c : Nat) : k_T (c + 1) = k_T c ++ k_new c (k_T c) k_F := by
  show (k_st c).1 ++ k_new c (k_st c).1 (va_up (k_st c).2 c (k_st c).1.length) = _
  rw [k_new_F (F' := k_F)]
  · rfl
  · intro c' hc'
    exact k_st_F (c + 1) c' (by omega)
theorem k_F_s (c : Nat) : k_F (c + 1) = k_F c + (k_new c (k_T c) k_F).length := by
  show (k_T (c + 1)).length = _
  rw [k_T_s, List.length_append]
  rfl
theorem k_F_le (c : Nat) : k_F c ≤ k_F (c + 1) := by
  rw [k_F_s]
  omega
theorem k_F_mono {c c' : Nat} (h : c ≤ c') : k_F c ≤ k_F c' := by
  induction c' with
  | zero => rw [Nat.le_zero_eq] at h; rw [h]; exact Nat.le_refl _
  | succ n ih =>
    rcases Nat.lt_or_eq_of_le h with g | g
    · exact Nat.le_trans (ih (by omega)) (k_F_le n)
    · rw [g]; exact Nat.le_refl _
theorem k_T_pre {c c' : Nat} (h : c ≤ c') : ∀ {j : Nat} {e : kE}, (k_T c)[j]? = some e → (k_T c')[j]? = some e := by
  induction c' with
  | zero => rw [Nat.le_zero_eq] at h; rw [h]; exact fun h => h
  | succ n ih =>
    intro j e hj
    rcases Nat.lt_or_eq_of_le h with g | g
    · rw [k_T_s, List.getElem?_append_left]
      · exact ih (by omega) hj
      · have := ih (by omega) hj
        exact (List.getElem?_eq_some_iff.mp this).1
    · rw [← g]; exact hj
/-- u stands at x -/
def k_at (T : List kE) (x : Nat) (u : qT) : Prop := ∃ a b, T[x]? = some (a, b, u)
theorem k_at_t {T : List kE} {x : Nat} {u : qT} (h : k_at T x u) : k_t T x = u := by
  obtain ⟨a, b, h⟩ := h
  exact k_t_at h
theorem k_t_k {T : List kE} {x : Nat} (h : x < T.length) : k_at T x (k_t T x) := by
  have e := List.getElem?_eq_getElem h
  refine ⟨T[x].1, T[x].2.1, ?_⟩
  rw [k_t_at e, e]
/-- an entry is as its tree says, its parts stand ahead -/
def k_E (T : List kE) (j x y : Nat) : qT → Prop
  | .num v => x = v.toNat ∧ y = 0 ∧ 0 ≤ v ∧ v.toNat < 3
  | .var s => x = s ∧ y = 0 ∧ t_vok s
  | .add u w => x < j ∧ y < j ∧ k_at T x u ∧ k_at T y w
  | .sub u w => x < j ∧ y < j ∧ k_at T x u ∧ k_at T y w
  | .neg u => x < j ∧ y = 0 ∧ k_at T x u
  | .mulL q u => q = 0 ∧ x < j ∧ y = 0 ∧ k_at T x u
  | .mulR _ _ => False
theorem k_at_app {T T' : List kE} {x : Nat} {u : qT} (h : k_at T x u) : k_at (T ++ T') x u := by
  obtain ⟨a, b, h⟩ := h
  exact ⟨a, b, by rw [List.getElem?_append_left (List.getElem?_eq_some_iff.mp h).1]; exact h⟩
theorem k_E_app {T T' : List kE} {j x y : Nat} : ∀ {t : qT}, k_E T j x y t → k_E (T ++ T') j x y t
  | .num _, h => h
  | .var _, h => h
  | .add _ _, h => ⟨h.1, h.2.1, k_at_app h.2.2.1, k_at_app h.2.2.2⟩
  | .sub _ _, h => ⟨h.1, h.2.1, k_at_app h.2.2.1, k_at_app h.2.2.2⟩
  | .neg _, h => ⟨h.1, h.2.1, k_at_app h.2.2⟩
  | .mulL _ _, h => ⟨h.1, h.2.1, h.2.2.1, k_at_app h.2.2.2⟩
  | .mulR _ _, h => h.elim
theorem k_E_j {T : List kE} {j j' x y : Nat} (hj : j ≤ j') : ∀ {t : qT}, k_E T j x y t → k_E T j' x y t
  | .num _, h => h
  | .var _, h => h
  | .add _ _, h => ⟨by have := h.1; omega, by have := h.2.1; omega, h.2.2⟩
  | .sub _ _, h => ⟨by have := h.1; omega, by have := h.2.1; omega, h.2.2⟩
  | .neg _, h => ⟨by have := h.1; omega, h.2⟩
  | .mulL _ _, h => ⟨h.1, by have := h.2.1; omega, h.2.2⟩
  | .mulR _ _, h => h.elim
theorem k_F2 : k_F 2 = 0 := rfl
/-- all that is known of the entries of cost c -/
def k_Bl (c : Nat) : Prop := ∀ j e, (k_T (c + 1))[j]? = some e → k_F c ≤ j → t_cost e.2.2 = c ∧ t_wf e.2.2 ∧ k_E (k_T c) (k_F c) e.1 e.2.1 e.2.2
theorem k_2_cost {kd : Nat} {u w : qT} (h : kd = 2 ∨ kd = 3) : t_cost (t_2 kd u w) = (if kd = 2 then 1 else 2) + t_cost u + t_cost w := by
  rcases h with h | h <;> subst h <;> rfl
theorem k_1_cost {kd : Nat} {u : qT} (h : kd = 4 ∨ kd = 5) : t_cost (t_1 kd u) = 2 + t_cost u := by
  rcases h with h | h <;> subst h <;> rfl
/-- the entries of the costs below c are known -/
theorem k_cost_at {c : Nat} (hB : ∀ c', c' < c → k_Bl c') {c' j : Nat} (h1 : c' < c) (h2 : k_F c' ≤ j) (h3 : j < k_F (c' + 1)) : t_cost (k_t (k_T c) j) = c' ∧ t_wf (k_t (k_T c) j) ∧ k_at (k_T c) j (k_t (k_T c) j) := by
  obtain ⟨a, b, h⟩ := k_t_k (T := k_T (c' + 1)) h3
  have h' := k_T_pre (c := c' + 1) (c' := c) h1 h
  have g := hB c' h1 j _ h h2
  have e : k_t (k_T c) j = k_t (k_T (c' + 1)) j := by
    rw [k_t_at h']
  rw [e]
  exact ⟨g.1, g.2.1, a, b, h'⟩
theorem k_all_at {c : Nat} (hB : ∀ c', c' < c → k_Bl c') : ∀ {j : Nat}, j < k_F c → t_wf (k_t (k_T c) j) ∧ k_at (k_T c) j (k_t (k_T c) j) ∧ ∃ c', c' < c ∧ k_F c' ≤ j ∧ j < k_F (c' + 1) ∧ t_cost (k_t (k_T c) j) = c' := by
  intro j hj
  have ex : ∀ n, j < k_F n → ∃ c', c' < n ∧ k_F c' ≤ j ∧ j < k_F (c' + 1) := by
    intro n
    induction n with
    | zero => intro h; exact absurd h (by show ¬ j < 0; omega)
    | succ n ih =>
      intro h
      by_cases g : j < k_F n
      · obtain ⟨c', h1, h2⟩ := ih g
        exact ⟨c', by omega, h2⟩
      · exact ⟨n, by omega, by omega, h⟩
  obtain ⟨c', h1, h2, h3⟩ := ex c hj
  obtain ⟨g1, g2, g3⟩ := k_cost_at hB h1 h2 h3
  exact ⟨g2, g3, c', h1, h2, h3, g1⟩
theorem k_app_at {T T' : List kE} {j : Nat} {e : kE} (h : (T ++ T')[j]? = some e) (hj : T.length ≤ j) : e ∈ T' := by
  rw [List.getElem?_append_right hj] at h
  exact List.mem_of_getElem? h
theorem k_Bl_all : ∀ c : Nat, k_Bl c := by
  intro c
  induction c using Nat.strongRecOn with
  | _ c ih =>
    intro j e he hj
    rw [k_T_s] at he
    have hm := k_app_at he hj
    unfold k_new at hm
    simp only [List.mem_append] at hm
    have pr : ∀ kd own, (kd = 2 ∧ own = 1) ∨ (kd = 3 ∧ own = 2) → e ∈ k_prs kd own c (k_T c) k_F (k_T c).length → t_cost e.2.2 = c ∧ t_wf e.2.2 ∧ k_E (k_T c) (k_F c) e.1 e.2.1 e.2.2 := by
      intro kd own hk hm
      unfold k_prs k_row at hm
      rw [List.mem_flatMap] at hm
      obtain ⟨x, hx, hm⟩ := hm
      rw [List.mem_range] at hx
      rw [List.mem_map] at hm
      obtain ⟨y, hy, he⟩ := hm
      rw [List.mem_range] at hy
      subst he
      unfold k_rn at hy
      by_cases g : (kd = 2 ∧ t_kind (k_t (k_T c) x) = 2) ∨ c < own + t_cost (k_t (k_T c) x) + 2
      · rw [if_pos g] at hy; omega
      · rw [if_neg g] at hy
        obtain ⟨wx, ax, cx, -, -, -, ecx⟩ := k_all_at ih hx
        have hle : k_F (c - own - t_cost (k_t (k_T c) x) + 1) ≤ k_F c := k_F_mono (by omega)
        obtain ⟨cy, wy, ay⟩ := k_cost_at ih (c' := c - own - t_cost (k_t (k_T c) x)) (j := k_F (c - own - t_cost (k_t (k_T c) x)) + y) (by omega) (by omega) (by omega)
        have hx' : x < k_F c := hx
        rcases hk with ⟨h1, h2⟩ | ⟨h1, h2⟩
        · subst h1 h2
          refine ⟨?_, ⟨fun h => g (Or.inl ⟨rfl, h⟩), wx, wy⟩, ⟨hx', by show _ + y < _; omega, ax, ay⟩⟩
          show 1 + t_cost (k_t (k_T c) x) + t_cost _ = c
          rw [cy]
          omega
        · subst h1 h2
          refine ⟨?_, ⟨wx, wy⟩, ⟨hx', by show _ + y < _; omega, ax, ay⟩⟩
          show 2 + t_cost (k_t (k_T c) x) + t_cost _ = c
          rw [cy]
          omega
    have sg : ∀ kd, kd = 4 ∨ kd = 5 → e ∈ k_sg kd c (k_T c) k_F (k_sn c k_F) → t_cost e.2.2 = c ∧ t_wf e.2.2 ∧ k_E (k_T c) (k_F c) e.1 e.2.1 e.2.2 := by
      intro kd hk hm
      unfold k_sg at hm
      rw [List.mem_map] at hm
      obtain ⟨y, hy, he⟩ := hm
      rw [List.mem_range] at hy
      subst he
      unfold k_sn at hy
      by_cases g : c < 4
      · rw [if_pos g] at hy; omega
      · rw [if_neg g] at hy
        have e1 : c - 2 + 1 = c - 1 := by omega
        have hle : k_F (c - 1) ≤ k_F c := k_F_mono (by omega)
        obtain ⟨cy, wy, ay⟩ := k_cost_at ih (c' := c - 2) (j := k_F (c - 2) + y) (by omega) (by omega) (by rw [e1]; omega)
        rcases hk with h1 | h1
        · subst h1
          refine ⟨?_, wy, ⟨by omega, rfl, ay⟩⟩
          show 2 + t_cost _ = c
          rw [cy]; omega
        · subst h1
          refine ⟨?_, wy, ⟨rfl, by omega, rfl, ay⟩⟩
          show 2 + t_cost _ = c
          rw [cy]; omega
    rcases hm with hm | hm | hm | hm | hm | hm
    · unfold k_lA at hm
      rw [List.mem_map] at hm
      obtain ⟨v, hv, he⟩ := hm
      rw [List.mem_range] at hv
      subst he
      by_cases g : c = 2
      · rw [if_pos g] at hv
        exact ⟨g.symm, trivial, ⟨rfl, rfl, by show (0 : Int) ≤ (v : Int); omega, by show ((v : Int)).toNat < 3; omega⟩⟩
      · rw [if_neg g] at hv; omega
    · unfold k_lB at hm
      rw [List.mem_map] at hm
      obtain ⟨v, hv, he⟩ := hm
      rw [List.mem_range] at hv
      subst he
      by_cases g : c = 3
      · rw [if_pos g] at hv
        exact ⟨g.symm, trivial, ⟨rfl, rfl, by omega, by omega⟩⟩
      · rw [if_neg g] at hv; omega
    · exact pr 2 1 (Or.inl ⟨rfl, rfl⟩) hm
    · exact pr 3 2 (Or.inr ⟨rfl, rfl⟩) hm
    · exact sg 4 (Or.inl rfl) hm
    · exact sg 5 (Or.inr rfl) hm
