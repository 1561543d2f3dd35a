/-! the number of a pattern in the table -/
def k_mt (p kd x y : Nat) : Prop := ∃ t, (k_T 11)[p]? = some (x, y, t) ∧ t_kind t = kd
def k_fst (c kd x y p : Nat) : Prop := k_F c ≤ p ∧ k_mt p kd x y ∧ ∀ q, k_F c ≤ q → q < p → ¬ k_mt q kd x y
def k_N : qT → Nat → Prop
  | .num v, p => k_fst 2 0 v.toNat 0 p
  | .var s, p => k_fst 3 1 s 0 p
  | .add u w, p => ∃ a b, k_N u a ∧ k_N w b ∧ k_fst (1 + t_cost u + t_cost w) 2 a b p
  | .sub u w, p => ∃ a b, k_N u a ∧ k_N w b ∧ k_fst (2 + t_cost u + t_cost w) 3 a b p
  | .neg u, p => ∃ a, k_N u a ∧ k_fst (2 + t_cost u) 4 a 0 p
  | .mulL _ u, p => ∃ a, k_N u a ∧ k_fst (2 + t_cost u) 5 a 0 p
  | .mulR _ _, _ => False
theorem k_fst_u {c kd x y p p' : Nat} (h : k_fst c kd x y p) (h' : k_fst c kd x y p') : p = p' := by
  rcases Nat.lt_trichotomy p p' with g | g | g
  · exact absurd h.2.1 (h'.2.2 p h.1 g)
  · exact g
  · exact absurd h'.2.1 (h.2.2 p' h'.1 g)
theorem k_N_u : ∀ (t : qT) (p p' : Nat), k_N t p → k_N t p' → p = p'
  | .num _, _, _, h, h' => k_fst_u h h'
  | .var _, _, _, h, h' => k_fst_u h h'
  | .add u w, _, _, ⟨a, b, h1, h2, h3⟩, ⟨a', b', g1, g2, g3⟩ => by
    have e1 := k_N_u u a a' h1 g1
    have e2 := k_N_u w b b' h2 g2
    subst e1 e2
    exact k_fst_u h3 g3
  | .sub u w, _, _, ⟨a, b, h1, h2, h3⟩, ⟨a', b', g1, g2, g3⟩ => by
    have e1 := k_N_u u a a' h1 g1
    have e2 := k_N_u w b b' h2 g2
    subst e1 e2
    exact k_fst_u h3 g3
  | .neg u, _, _, ⟨a, h1, h3⟩, ⟨a', g1, g3⟩ => by
    have e1 := k_N_u u a a' h1 g1
    subst e1
    exact k_fst_u h3 g3
  | .mulL _ u, _, _, ⟨a, h1, h3⟩, ⟨a', g1, g3⟩ => by
    have e1 := k_N_u u a a' h1 g1
    subst e1
    exact k_fst_u h3 g3
  | .mulR _ _, _, _, h, _ => h.elim
theorem k_fst_ex {c kd x y p0 : Nat} (h1 : k_F c ≤ p0) (h2 : k_mt p0 kd x y) : ∃ p, p ≤ p0 ∧ k_fst c kd x y p := by
  induction p0 using Nat.strongRecOn with
  | _ p0 ih =>
    by_cases h : ∃ q, k_F c ≤ q ∧ q < p0 ∧ k_mt q kd x y
    · obtain ⟨q, g1, g2, g3⟩ := h
      obtain ⟨p, g4, g5⟩ := ih q g2 g1 g3
      exact ⟨p, by omega, g5⟩
    · exact ⟨p0, Nat.le_refl _, h1, h2, fun q g1 g2 g3 => h ⟨q, g1, g2, g3⟩⟩
/-- its letters and classes are such -/
def t_vd : qT → Prop
  | .num v => 0 ≤ v ∧ v.toNat < 3
  | .var s => t_vok s
  | .add x y => t_vd x ∧ t_vd y
  | .sub x y => t_vd x ∧ t_vd y
  | .neg x => t_vd x
  | .mulL c x => c = 0 ∧ t_vd x
  | .mulR _ _ => False
theorem t_mr_vd {A : Nat → Nat → Int32} : ∀ (t : qT) (j : Nat), t_mr A t j → t_vd t
  | .num _, _, h => h.2
  | .var _, _, h => h.2
  | .add x y, _, ⟨a, b, _, _, _, h1, h2⟩ => ⟨t_mr_vd x a h1, t_mr_vd y b h2⟩
  | .sub x y, _, ⟨a, b, _, _, _, h1, h2⟩ => ⟨t_mr_vd x a h1, t_mr_vd y b h2⟩
  | .neg x, _, ⟨a, _, _, h1⟩ => t_mr_vd x a h1
  | .mulL _ x, _, ⟨h0, a, _, _, h1⟩ => ⟨h0, t_mr_vd x a h1⟩
  | .mulR _ _, _, h => h.elim
theorem k_new_at {c : Nat} {e : kE} (hc : c ≤ 10) (he : e ∈ k_new c (k_T c) k_F) : ∃ p, k_F c ≤ p ∧ p < k_F (c + 1) ∧ (k_T 11)[p]? = some e := by
  obtain ⟨q, hq, hqe⟩ := List.mem_iff_getElem.mp he
  have hF := k_F_s c
  refine ⟨k_F c + q, by omega, by omega, k_T_pre (c := c + 1) (c' := 11) (by omega) ?_⟩
  rw [k_T_s, List.getElem?_append_right (by show k_F c ≤ _; omega), show k_F c + q - (k_T c).length = q by show k_F c + q - k_F c = q; omega, List.getElem?_eq_getElem hq, hqe]
/-- what stands in the table ahead of cost c stands there in k_T c -/
theorem k_T_at {c p : Nat} {e : kE} (hc : c ≤ 11) (h : (k_T 11)[p]? = some e) (hp : p < k_F c) : (k_T c)[p]? = some e := by
  obtain ⟨a, b, g⟩ := k_t_k (T := k_T c) hp
  have g' := k_T_pre hc g
  rw [h] at g'
  rw [g, ← g']
theorem k_N_ex : ∀ (t : qT), t_vd t → t_wf t → t_cost t ≤ 10 → ∃ p, k_N t p ∧ k_F (t_cost t) ≤ p ∧ p < k_F (t_cost t + 1) ∧ ∃ x y t', (k_T 11)[p]? = some (x, y, t') ∧ t_kind t' = t_kind t := by
  have fin : ∀ (c kd x y : Nat) (t' : qT), c ≤ 10 → t_kind t' = kd → (x, y, t') ∈ k_new c (k_T c) k_F → ∃ p, k_fst c kd x y p ∧ k_F c ≤ p ∧ p < k_F (c + 1) ∧ ∃ x y t', (k_T 11)[p]? = some (x, y, t') ∧ t_kind t' = kd := by
    intro c kd x y t' hc hk he
    obtain ⟨p0, h1, h2, h3⟩ := k_new_at hc he
    obtain ⟨p, h4, h5⟩ := k_fst_ex (c := c) (kd := kd) (x := x) (y := y) h1 ⟨t', h3, hk⟩
    obtain ⟨t'', g1, g2⟩ := h5.2.1
    exact ⟨p, h5, h5.1, by omega, x, y, t'', g1, g2⟩
  have pair : ∀ (kd own cu cw c a b : Nat) (ku : Nat), (kd = 2 ∧ own = 1) ∨ (kd = 3 ∧ own = 2) → c = own + cu + cw → c ≤ 10 → 2 ≤ cu → 2 ≤ cw → (kd = 2 → ku ≠ 2) → k_F cu ≤ a → a < k_F (cu + 1) → k_F cw ≤ b → b < k_F (cw + 1) → (∃ x y t', (k_T 11)[a]? = some (x, y, t') ∧ t_kind t' = ku) → ∃ t', (a, b, t') ∈ k_prs kd own c (k_T c) k_F (k_F c) ∧ t_kind t' = kd := by
    intro kd own cu cw c a b ku hk ec hc h2u h2w hku a1 a2 b1 b2 hat
    obtain ⟨x, y, t', g1, g2⟩ := hat
    have hFa : k_F (cu + 1) ≤ k_F c := k_F_mono (by omega)
    have hac : a < k_F c := by omega
    have hcost := (k_cost_at (c := c) (fun c' _ => k_Bl_all c') (c' := cu) (j := a) (by omega) a1 a2).1
    have hkt : k_t (k_T c) a = t' := k_t_at (k_T_at (by omega) g1 hac)
    have hrn : k_rn kd own c (k_T c) k_F a = k_F (cw + 1) - k_F cw := by
      unfold k_rn
      rw [if_neg, hcost, show c - own - cu = cw by omega]
      rw [hcost, hkt, g2]
      intro h
      rcases h with h | h
      · exact hku h.1 h.2
      · omega
    refine ⟨t_2 kd (k_t (k_T c) a) (k_t (k_T c) (k_F (c - own - t_cost (k_t (k_T c) a)) + (b - k_F cw))), ?_, k_t2k (by omega)⟩
    unfold k_prs k_row
    rw [List.mem_flatMap]
    refine ⟨a, List.mem_range.mpr hac, List.mem_map.mpr ⟨b - k_F cw, List.mem_range.mpr (by omega), ?_⟩⟩
    rw [hcost, show c - own - cu = cw by omega, show k_F cw + (b - k_F cw) = b by omega]
  intro t
  induction t with
  | num v =>
    intro hv hw hc
    have e : ((v.toNat : Nat) : Int) = v := by have := hv.1; omega
    exact fin 2 0 v.toNat 0 (.num ((v.toNat : Nat) : Int)) (by decide) rfl (by
      unfold k_new
      refine List.mem_append_left _ ?_
      unfold k_lA
      exact List.mem_map.mpr ⟨v.toNat, List.mem_range.mpr hv.2, rfl⟩)
  | var s =>
    intro hv hw hc
    obtain ⟨h1, h2⟩ := hv
    have key : ∀ n : Nat, 1 ≤ n → n < 8 → ((n, 0, .var n) : kE) ∈ k_lB 7 := fun n h1 h2 => List.mem_map.mpr ⟨n - 1, List.mem_range.mpr (by omega), by rw [show n - 1 + 1 = n by omega]⟩
    refine fin 3 1 s 0 (.var s) (by decide) rfl ?_
    unfold k_new
    refine List.mem_append_right _ (List.mem_append_left _ ?_)
    exact key s h1 h2
  | add u w ihu ihw =>
    intro hv hw hc
    have hc' : 1 + t_cost u + t_cost w ≤ 10 := hc
    have h2u := t_cost_2 u
    have h2w := t_cost_2 w
    obtain ⟨a, a0, a1, a2, a3⟩ := ihu hv.1 hw.2.1 (by omega)
    obtain ⟨b, b0, b1, b2, -⟩ := ihw hv.2 hw.2.2 (by omega)
    obtain ⟨t', m1, m2⟩ := pair 2 1 (t_cost u) (t_cost w) (1 + t_cost u + t_cost w) a b (t_kind u) (Or.inl ⟨rfl, rfl⟩) rfl hc' h2u h2w (fun _ => hw.1) a1 a2 b1 b2 a3
    obtain ⟨p, p1, p2⟩ := fin (1 + t_cost u + t_cost w) 2 a b t' hc' m2 (List.mem_append_right _ (List.mem_append_right _ (List.mem_append_left _ m1)))
    exact ⟨p, ⟨a, b, a0, b0, p1⟩, p2⟩
  | sub u w ihu ihw =>
    intro hv hw hc
    have hc' : 2 + t_cost u + t_cost w ≤ 10 := hc
    have h2u := t_cost_2 u
    have h2w := t_cost_2 w
    obtain ⟨a, a0, a1, a2, a3⟩ := ihu hv.1 hw.1 (by omega)
    obtain ⟨b, b0, b1, b2, -⟩ := ihw hv.2 hw.2 (by omega)
    obtain ⟨t', m1, m2⟩ := pair 3 2 (t_cost u) (t_cost w) (2 + t_cost u + t_cost w) a b (t_kind u) (Or.inr ⟨rfl, rfl⟩) rfl hc' h2u h2w (fun h => absurd h (by decide)) a1 a2 b1 b2 a3
    obtain ⟨p, p1, p2⟩ := fin (2 + t_cost u + t_cost w) 3 a b t' hc' m2 (List.mem_append_right _ (List.mem_append_right _ (List.mem_append_right _ (List.mem_append_left _ m1))))
    exact ⟨p, ⟨a, b, a0, b0, p1⟩, p2⟩
  | neg u ihu =>
    intro hv hw hc
    have hc' : 2 + t_cost u ≤ 10 := hc
    have h2u := t_cost_2 u
    obtain ⟨a, a0, a1, a2, a3⟩ := ihu hv hw (by omega)
    obtain ⟨p, p1, p2⟩ := fin (2 + t_cost u) 4 a 0 (t_1 4 (k_t (k_T (2 + t_cost u)) (k_F (2 + t_cost u - 2) + (a - k_F (t_cost u))))) hc' rfl (List.mem_append_right _ (List.mem_append_right _ (List.mem_append_right _ (List.mem_append_right _ (List.mem_append_left _ (by
      unfold k_sg
      have e1 : k_sn (2 + t_cost u) k_F = k_F (t_cost u + 1) - k_F (t_cost u) := by
        unfold k_sn
        rw [if_neg (by omega), show 2 + t_cost u - 1 = t_cost u + 1 by omega, show 2 + t_cost u - 2 = t_cost u by omega]
      refine List.mem_map.mpr ⟨a - k_F (t_cost u), List.mem_range.mpr (by rw [e1]; omega), ?_⟩
      have e2 : k_F (2 + t_cost u - 2) + (a - k_F (t_cost u)) = a := by rw [show 2 + t_cost u - 2 = t_cost u by omega]; omega
      rw [e2]))))))
    exact ⟨p, ⟨a, a0, p1⟩, p2⟩
  | mulL q u ihu =>
    intro hv hw hc
    have hc' : 2 + t_cost u ≤ 10 := hc
    have h2u := t_cost_2 u
    obtain ⟨a, a0, a1, a2, a3⟩ := ihu hv.2 hw (by omega)
    obtain ⟨p, p1, p2⟩ := fin (2 + t_cost u) 5 a 0 (t_1 5 (k_t (k_T (2 + t_cost u)) (k_F (2 + t_cost u - 2) + (a - k_F (t_cost u))))) hc' rfl (List.mem_append_right _ (List.mem_append_right _ (List.mem_append_right _ (List.mem_append_right _ (List.mem_append_right _ (by
      unfold k_sg
      have e1 : k_sn (2 + t_cost u) k_F = k_F (t_cost u + 1) - k_F (t_cost u) := by
        unfold k_sn
        rw [if_neg (by omega), show 2 + t_cost u - 1 = t_cost u + 1 by omega, show 2 + t_cost u - 2 = t_cost u by omega]
      refine List.mem_map.mpr ⟨a - k_F (t_cost u), List.mem_range.mpr (by rw [e1]; omega), ?_⟩
      have e2 : k_F (2 + t_cost u - 2) + (a - k_F (t_cost u)) = a := by rw [show 2 + t_cost u - 2 = t_cost u by omega]; omega
      rw [e2]))))))
    exact ⟨p, ⟨a, a0, p1⟩, p2⟩
  | mulR u q ihu =>
    intro hv
    exact hv.elim
/-- entries of the whole table are as their trees say -/
theorem k_E_11 {j : Nat} {e : kE} (h : (k_T 11)[j]? = some e) : j < 4937 ∧ k_E (k_T 11) j e.1 e.2.1 e.2.2 ∧ t_wf e.2.2 ∧ t_cost e.2.2 ≤ 10 ∧ k_F (t_cost e.2.2) ≤ j ∧ j < k_F (t_cost e.2.2 + 1) := by
  have hj : j < k_F 11 := (List.getElem?_eq_some_iff.mp h).1
  obtain ⟨h1, -, c', g1, g2, g3, g4⟩ := k_all_at (c := 11) (fun c' _ => k_Bl_all c') hj
  rw [k_t_at h] at h1 g4
  have hb := k_Bl_all c' j e (k_T_at (by omega) h g3) g2
  rw [k_4937] at hj
  have hp : ∀ n, c' ≤ n → k_T c' <+: k_T n := by
    intro n hn
    obtain ⟨d, rfl⟩ : ∃ d, n = c' + d := ⟨n - c', by omega⟩
    induction d with
    | zero => exact List.prefix_refl _
    | succ d ihd => exact (ihd (by omega)).trans (k_pre0 _)
  obtain ⟨R, hR⟩ := hp 11 (by omega)
  refine ⟨hj, ?_, h1, by omega, by rw [g4]; exact g2, by rw [g4]; exact g3⟩
  rw [← hR]
  exact k_E_j g2 (k_E_app hb.2.2)
