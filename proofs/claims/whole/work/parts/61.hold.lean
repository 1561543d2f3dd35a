/-! the table, held by the reference -/
theorem k_map_pre {α : Type} (f : Nat → α) {q : Nat} : ∀ d : Nat, (List.range q).map f <+: (List.range (q + d)).map f
  | 0 => List.prefix_refl _
  | d + 1 => by
    rw [show q + (d + 1) = q + d + 1 by omega, List.range_succ, List.map_append]
    exact (k_map_pre f d).trans (List.prefix_append _ _)
theorem k_map_pre' {α : Type} (f : Nat → α) {q q' : Nat} (h : q ≤ q') : (List.range q).map f <+: (List.range q').map f := by
  obtain ⟨d, rfl⟩ : ∃ d, q' = q + d := ⟨q' - q, by omega⟩
  exact k_map_pre f d
theorem k_prs_s (kd own c : Nat) (T : List kE) (F : Nat → Nat) (x : Nat) : k_prs kd own c T F (x + 1) = k_prs kd own c T F x ++ k_row kd own c T F x (k_rn kd own c T F x) := by
  unfold k_prs
  rw [List.range_succ, List.flatMap_append, List.flatMap_cons, List.flatMap_nil, List.append_nil]
theorem k_prs_pre {kd own c : Nat} {T : List kE} {F : Nat → Nat} {x : Nat} : ∀ d : Nat, k_prs kd own c T F x <+: k_prs kd own c T F (x + d)
  | 0 => List.prefix_refl _
  | d + 1 => by
    rw [show x + (d + 1) = x + d + 1 by omega, k_prs_s]
    exact (k_prs_pre d).trans (List.prefix_append _ _)
theorem k_row_pre {kd own c : Nat} {T : List kE} {F : Nat → Nat} {x q n : Nat} (hx : x < n) (hq : q ≤ k_rn kd own c T F x) : k_prs kd own c T F x ++ k_row kd own c T F x q <+: k_prs kd own c T F n := by
  obtain ⟨d, rfl⟩ : ∃ d, n = x + 1 + d := ⟨n - (x + 1), by omega⟩
  refine List.IsPrefix.trans ?_ (k_prs_pre d)
  rw [k_prs_s]
  exact (List.prefix_append_right_inj _).mpr (k_map_pre' _ hq)
theorem k_row_s (kd own c : Nat) (T : List kE) (F : Nat → Nat) (x q : Nat) : k_row kd own c T F x (q + 1) = k_row kd own c T F x q ++ [(x, F (c - own - t_cost (k_t T x)) + q, t_2 kd (k_t T x) (k_t T (F (c - own - t_cost (k_t T x)) + q)))] := by
  unfold k_row
  rw [List.range_succ, List.map_append]
  rfl
theorem k_sg_s (kd c : Nat) (T : List kE) (F : Nat → Nat) (q : Nat) : k_sg kd c T F (q + 1) = k_sg kd c T F q ++ [(F (c - 2) + q, 0, t_1 kd (k_t T (F (c - 2) + q)))] := by
  unfold k_sg
  rw [List.range_succ, List.map_append]
  rfl
theorem k_lA_s (q : Nat) : k_lA (q + 1) = k_lA q ++ [(q, 0, .num (q : Int))] := by
  unfold k_lA
  rw [List.range_succ, List.map_append]
  rfl
theorem k_lB_s (q : Nat) : k_lB (q + 1) = k_lB q ++ [(q + 1, 0, .var (q + 1))] := by
  unfold k_lB
  rw [List.range_succ, List.map_append]
  rfl
/-- the table at cost c: behind the leaves, the THENs, the EITHERs, the AGAINs -/
def k_P3 (c : Nat) : List kE := k_T c ++ k_lA (if c = 2 then 3 else 0) ++ k_lB (if c = 3 then 7 else 0)
def k_P4 (c : Nat) : List kE := k_P3 c ++ k_prs 2 1 c (k_T c) k_F (k_F c)
def k_P5 (c : Nat) : List kE := k_P4 c ++ k_prs 3 2 c (k_T c) k_F (k_F c)
def k_P6 (c : Nat) : List kE := k_P5 c ++ k_sg 4 c (k_T c) k_F (k_sn c k_F)
theorem k_P7 (c : Nat) : k_T (c + 1) = k_P6 c ++ k_sg 5 c (k_T c) k_F (k_sn c k_F) := by
  rw [k_T_s]
  unfold k_P6 k_P5 k_P4 k_P3 k_new
  simp only [List.append_assoc]
  rfl
theorem k_pre6 (c : Nat) : k_P6 c <+: k_T (c + 1) := by rw [k_P7]; exact List.prefix_append _ _
theorem k_pre5 (c : Nat) : k_P5 c <+: k_T (c + 1) := (List.prefix_append _ _).trans (k_pre6 c)
theorem k_pre4 (c : Nat) : k_P4 c <+: k_T (c + 1) := (List.prefix_append _ _).trans (k_pre5 c)
theorem k_pre3 (c : Nat) : k_P3 c <+: k_T (c + 1) := (List.prefix_append _ _).trans (k_pre4 c)
theorem k_pre0 (c : Nat) : k_T c <+: k_T (c + 1) := by rw [k_T_s]; exact List.prefix_append _ _
theorem k_pre_at {T T' : List kE} (h : T <+: T') {x : Nat} {e : kE} (g : T[x]? = some e) : T'[x]? = some e := by
  obtain ⟨R, rfl⟩ := h
  rw [List.getElem?_append_left (List.getElem?_eq_some_iff.mp g).1]
  exact g
theorem k_pre_k {T T' : List kE} (h : T <+: T') {x : Nat} {u : qT} (g : k_at T x u) : k_at T' x u := by
  obtain ⟨a, b, g⟩ := g
  exact ⟨a, b, k_pre_at h g⟩
/-- what the next entry is -/
theorem k_next {c : Nat} {T : List kE} {e : kE} (h : T ++ [e] <+: k_T (c + 1)) (h0 : k_T c <+: T) : t_cost e.2.2 = c ∧ t_wf e.2.2 ∧ k_E T T.length e.1 e.2.1 e.2.2 := by
  have hl := h0.length_le
  have he : (T ++ [e])[T.length]? = some e := by
    rw [List.getElem?_append_right (Nat.le_refl _), Nat.sub_self]
    rfl
  obtain ⟨h1, h2, h3⟩ := k_Bl_all c T.length e (k_pre_at h he) hl
  obtain ⟨R, hR⟩ := h0
  refine ⟨h1, h2, ?_⟩
  rw [← hR]
  exact k_E_j (by rw [hR]; exact hl) (k_E_app h3)
theorem k_pre_len {c : Nat} {T : List kE} {e : kE} (hc : c ≤ 10) (h : T ++ [e] <+: k_T (c + 1)) : T.length < 4937 := by
  have h1 := h.length_le
  rw [List.length_append] at h1
  have h2 : k_F (c + 1) ≤ k_F 11 := k_F_mono (by omega)
  rw [k_4937] at h2
  have h1 : T.length + 1 ≤ k_F (c + 1) := h1
  omega
def k_val (e : kE) : Nat := if t_kind e.2.2 < 2 then e.1 else 0
def k_one (e : kE) : Option Nat := if t_kind e.2.2 < 2 then none else some e.1
def k_two (e : kE) : Option Nat := if t_kind e.2.2 = 2 ∨ t_kind e.2.2 = 3 then some e.2.1 else none
def k_hM (A : Nat → Nat → Int32) (T : List kE) : Prop := ∀ j e, T[j]? = some e → m_n A j (t_kind e.2.2) (k_val e) (k_one e) (k_two e) (t_cost e.2.2) (t_nodes e.2.2) (t_uses e.2.2)
theorem k_hM_at {A : Nat → Nat → Int32} {T : List kE} (h : k_hM A T) {x : Nat} {u : qT} (g : k_at T x u) : x < 6400 ∧ A 3 x = nI (t_kind u) ∧ A 7 x = nI (t_cost u) ∧ A 8 x = nI (t_nodes u) ∧ A 9 x = nI (t_uses u) := by
  obtain ⟨a, b, g⟩ := g
  obtain ⟨g0, g3, g4, g5, g6, g7, g8, g9⟩ := h x _ g
  exact ⟨g0, g3, g7, g8, g9⟩
theorem k_hM_app {A A' : Nat → Nat → Int32} {T : List kE} {e : kE} (h : k_hM A T) (hf : m_fr A A' T.length) (he : m_n A' T.length (t_kind e.2.2) (k_val e) (k_one e) (k_two e) (t_cost e.2.2) (t_nodes e.2.2) (t_uses e.2.2)) : k_hM A' (T ++ [e]) := by
  intro j e' hj
  by_cases c : j < T.length
  · rw [List.getElem?_append_left c] at hj
    exact hf.n c (h j e' hj)
  · rw [List.getElem?_append_right (by omega)] at hj
    by_cases c2 : j = T.length
    · subst c2
      rw [Nat.sub_self] at hj
      cases hj
      exact he
    · rw [List.getElem?_eq_none (by show 1 ≤ _; omega)] at hj
      cases hj
/-- the whole table gives its trees -/
theorem k_mr {A : Nat → Nat → Int32} {c : Nat} (h : k_hM A (k_T c)) : ∀ (j : Nat) (e : kE), (k_T c)[j]? = some e → t_mr A e.2.2 j := by
  intro j
  induction j using Nat.strongRecOn with
  | _ j ih =>
    intro e he
    have hE : ∃ c', k_E (k_T c) j e.1 e.2.1 e.2.2 ∧ c' = 0 := by
      obtain ⟨-, -, c', h1, h2, h3, -⟩ := k_all_at (c := c) (fun c' _ => k_Bl_all c') (List.getElem?_eq_some_iff.mp he).1
      obtain ⟨a, b, hq⟩ := k_t_k (T := k_T (c' + 1)) h3
      have hq' := k_T_pre (c := c' + 1) (c' := c) h1 hq
      rw [he] at hq'
      obtain ⟨-, -, g⟩ := k_Bl_all c' j _ hq h2
      have hp : ∀ n, c' ≤ n → k_T c' <+: k_T n := by
        intro n hn
        obtain ⟨d, rfl⟩ : ∃ d, n = c' + d := ⟨n - c', by omega⟩
        induction d with
        | zero => exact List.prefix_refl _
        | succ d ihd => exact (ihd (by omega)).trans (k_pre0 _)
      obtain ⟨R, hR⟩ := hp c (by omega)
      cases hq'
      rw [← hR]
      exact ⟨0, k_E_j h2 (k_E_app g), rfl⟩
    obtain ⟨-, hE, -⟩ := hE
    have hm := h j e he
    obtain ⟨x, y, t⟩ := e
    cases t with
    | num v =>
      obtain ⟨e1, e2, e3, e4⟩ := hE
      have e1 : x = v.toNat := e1
      subst e1
      exact ⟨hm, e3, e4⟩
    | var v =>
      obtain ⟨e1, e2, e3⟩ := hE
      have e1 : x = v := e1
      subst e1
      exact ⟨hm, e3⟩
    | add u w =>
      obtain ⟨e1, e2, ⟨a, b, e3⟩, ⟨a', b', e4⟩⟩ := hE
      exact ⟨x, y, e1, e2, hm, ih x e1 _ e3, ih y e2 _ e4⟩
    | sub u w =>
      obtain ⟨e1, e2, ⟨a, b, e3⟩, ⟨a', b', e4⟩⟩ := hE
      exact ⟨x, y, e1, e2, hm, ih x e1 _ e3, ih y e2 _ e4⟩
    | neg u =>
      obtain ⟨e1, e2, ⟨a, b, e3⟩⟩ := hE
      exact ⟨x, e1, hm, ih x e1 _ e3⟩
    | mulL q u =>
      obtain ⟨e0, e1, e2, ⟨a, b, e3⟩⟩ := hE
      exact ⟨e0, x, e1, hm, ih x e1 _ e3⟩
    | mulR u q => exact hE.elim
section
variable {G : qC} {L : Launch} {d : Nat} {Q : Option Value → qM → Prop} {M0 : qM} {r : Nat} {s : Nat → Int32} {A : Nat → Nat → Int32} {B : Nat → Nat → Int64}
theorem e12_add {c : Nat} {T : List kE} {e : kE} {a1 a2 a3 a4 : Int32} (g1 : a1 = nI (t_kind e.2.2)) (g2 : a2 = nI (k_val e)) (g3 : a3 = q_oi (k_one e)) (g4 : a4 = q_oi (k_two e)) (hc : c ≤ 10) (hp : T ++ [e] <+: k_T (c + 1)) (h0 : k_T c <+: T) (hd : 2 ≤ d) (h11 : s 11 = nI T.length) (hh : k_hM A T) (hQ : ∀ A', (∀ f, f < 3 ∨ 9 < f → A' f = A f) → k_hM A' (T ++ [e]) → Q none (q_md M0 r (va_up s 11 (nI (T.length + 1))) A' B)) : q_Call G L d mX12_add 0 0 [.ref r, .int a1, .int a2, .int a3, .int a4] (q_md M0 r s A B) Q := by
  have hlen := k_pre_len hc hp
  obtain ⟨-, -, hE⟩ := k_next hp h0
  have hk := t_kind_lt e.2.2
  have hlt : ∀ {x : Nat} {u : qT}, k_at T x u → x < 6400 := fun h => (k_hM_at hh h).1
  subst g1 g2 g3 g4
  have z7 : ∀ f, m_at A f none = nI 0 := fun _ => rfl
  have zs : ∀ f x, m_at A f (some x) = A f x := fun _ _ => rfl
  refine c12_add (n := T.length) (x := k_one e) (y := k_two e) hd h11 (by omega) hk ?_ ?_ (hQ _ (fun f hf => m_lays_f hf) (k_hM_app hh m_lays_fr ?_))
  · intro j hj
    obtain ⟨x, y, t⟩ := e
    cases t with
    | num v => cases hj
    | var v => cases hj
    | add u w => cases hj; exact hlt hE.2.2.1
    | sub u w => cases hj; exact hlt hE.2.2.1
    | neg u => cases hj; exact hlt hE.2.2
    | mulL q u => cases hj; exact hlt hE.2.2.2
    | mulR u q => exact hE.elim
  · intro j hj
    obtain ⟨x, y, t⟩ := e
    cases t with
    | num v => cases hj
    | var v => cases hj
    | add u w => cases hj; exact hlt hE.2.2.2
    | sub u w => cases hj; exact hlt hE.2.2.2
    | neg u => cases hj
    | mulL q u => cases hj
    | mulR u q => exact hE.elim
  · obtain ⟨x, y, t⟩ := e
    cases t with
    | num v => exact m_lays_n (x := none) (y := none) (by omega) rfl rfl (by show nI (2 ^ 0) ||| nI 0 ||| nI 0 = nI 1; decide)
    | var v => exact m_lays_n (x := none) (y := none) (by omega) rfl rfl (by show nI (2 ^ 1) ||| nI 0 ||| nI 0 = nI 2; decide)
    | add u w =>
      obtain ⟨-, b3, b7, b8, b9⟩ := k_hM_at hh hE.2.2.1
      obtain ⟨-, d3, d7, d8, d9⟩ := k_hM_at hh hE.2.2.2
      refine m_lays_n (x := some x) (y := some y) (by omega) ?_ ?_ ?_
      · show nI 1 + A 7 x + A 7 y = nI (1 + t_cost u + t_cost w)
        rw [b7, d7, z_add, z_add]
      · show nI 1 + A 8 x + A 8 y = nI (1 + t_nodes u + t_nodes w)
        rw [b8, d8, z_add, z_add]
      · show nI 4 ||| A 9 x ||| A 9 y = nI (4 ||| t_uses u ||| t_uses w)
        rw [b9, d9, z_or, z_or]
    | sub u w =>
      obtain ⟨-, b3, b7, b8, b9⟩ := k_hM_at hh hE.2.2.1
      obtain ⟨-, d3, d7, d8, d9⟩ := k_hM_at hh hE.2.2.2
      refine m_lays_n (x := some x) (y := some y) (by omega) ?_ ?_ ?_
      · show nI 2 + A 7 x + A 7 y = nI (2 + t_cost u + t_cost w)
        rw [b7, d7, z_add, z_add]
      · show nI 1 + A 8 x + A 8 y = nI (1 + t_nodes u + t_nodes w)
        rw [b8, d8, z_add, z_add]
      · show nI 8 ||| A 9 x ||| A 9 y = nI (8 ||| t_uses u ||| t_uses w)
        rw [b9, d9, z_or, z_or]
    | neg u =>
      obtain ⟨-, b3, b7, b8, b9⟩ := k_hM_at hh hE.2.2
      refine m_lays_n (x := some x) (y := none) (by omega) ?_ ?_ ?_
      · show nI 2 + A 7 x + nI 0 = nI (2 + t_cost u)
        rw [b7, z_add, z_add, Nat.add_zero]
      · show nI 1 + A 8 x + nI 0 = nI (1 + t_nodes u)
        rw [b8, z_add, z_add, Nat.add_zero]
      · show nI 16 ||| A 9 x ||| nI 0 = nI (16 ||| t_uses u)
        rw [b9, z_or, z_or, Nat.or_zero]
    | mulL q u =>
      obtain ⟨-, b3, b7, b8, b9⟩ := k_hM_at hh hE.2.2.2
      refine m_lays_n (x := some x) (y := none) (by omega) ?_ ?_ ?_
      · show nI 2 + A 7 x + nI 0 = nI (2 + t_cost u)
        rw [b7, z_add, z_add, Nat.add_zero]
      · show nI 1 + A 8 x + nI 0 = nI (1 + t_nodes u)
        rw [b8, z_add, z_add, Nat.add_zero]
      · show nI 32 ||| A 9 x ||| nI 0 = nI (32 ||| t_uses u)
        rw [b9, z_or, z_or, Nat.or_zero]
    | mulR u q => exact hE.elim
end
