/-! memory as a function from addresses to pictures; a step of the machine as a predicate transformer over it -/
abbrev qLv : Type := List (Nat × Value)
abbrev qE : Type := (Nat × vp_A) ⊕ (Nat × List Value)
abbrev qM : Type := Nat × (Nat → Option qE)
abbrev qMI : Type := MethodName × ByteArray × Nat × Option FieldType
/-- what is fixed for a run: class numbers, array classes by code (1 int, 2 long, 3 boolean, 4 byte, 5 Nodes[]; 6 is an int table that nobody writes), the heap at the law's entry, the two tables' addresses, the script's address, length and ints -/
abbrev qC : Type := va_G × (Nat → ClassId) × Heap × Nat × Nat × Nat × Nat × (Nat → Int32)
def q_A (G : qC) : Nat → Prop := fun q => G.2.2.1.size ≤ q
def q_tys (G : qC) : List (ClassId × FieldType) := [(G.2.1 1, .int), (G.2.1 2, .long), (G.2.1 3, .boolean), (G.2.1 4, .byte), (G.2.1 5, .object "ShownPatterns$Nodes")]
def q_own (k : Nat) : Int32 := match k with
  | 0 => 2
  | 1 => 3
  | 2 => 1
  | _ => 2
def q_pow (k : Nat) : Int32 := nI (3 ^ k)
def q_gw : List Cond := lw_tbl.filter goodWord
def q_nest : Cond → Bool
  | .methodLinkNest _ _ _ _ => true
  | .fieldLinkNest _ _ _ _ _ _ => true
  | _ => false
theorem q_in {w : Cond} {i : Nat} (h : tables_1[i]? = some w) (hg : goodWord w = true) : w ∈ q_gw := List.mem_filter.mpr ⟨List.mem_append_right _ (List.mem_of_getElem? h), hg⟩
theorem q_inS {w : Cond} {i : Nat} (h : (k2_sels lw_privs)[i]? = some w) (hg : goodWord w = true) : w ∈ q_gw := List.mem_filter.mpr ⟨List.mem_append_left _ (List.mem_of_getElem? h), hg⟩
theorem q_inN {w : Cond} {i : Nat} (h : tables_1[i]? = some w) : w ∈ lw_tbl := List.mem_append_right _ (List.mem_of_getElem? h)
def q_K (G : qC) (U : State) : Prop :=
  va_K G.1 vwCl (q_tys G) U ∧ (∀ w ∈ lw_tbl, q_nest w = true → va_Nw w U) ∧ va_AO "ShownPatterns$Nodes" U ∧
  va_Z "ShownPatterns" "OWN_COST" "[I" (.ref G.2.2.2.1) (q_A G) U G.2.2.1 ∧ va_T .int G.2.2.2.1 6 (fun j => .int (q_own j)) (q_A G) U G.2.2.1 ∧
  va_Z "ShownPatterns" "POWERS" "[I" (.ref G.2.2.2.2.1) (q_A G) U G.2.2.1 ∧ va_T .int G.2.2.2.2.1 13 (fun j => .int (q_pow j)) (q_A G) U G.2.2.1 ∧
  va_T .int G.2.2.2.2.2.1 G.2.2.2.2.2.2.1 (fun j => .int (G.2.2.2.2.2.2.2 j)) (q_A G) U G.2.2.1
theorem q_nest_warm {w : Cond} {s U : State} (hn : q_nest w = true) (hW : s.WarmedH U.vm) (h : va_Nw w s) : va_Nw w U := by
  cases w <;> first | exact va_Nw.warmM hW h | exact va_Nw.warmF hW h | cases hn
theorem q_K.warm {G : qC} {s U : State} (hW : s.WarmedH U.vm) (h : q_K G s) : q_K G U := by
  obtain ⟨h1, h2, h3, h4, h5, h6, h7, h8⟩ := h
  exact ⟨va_K.moved hW.alike h1, fun w hw hn => q_nest_warm hn hW (h2 w hw hn), va_AO.moved hW.alike h3, va_Z.moved hW.alike h4, va_T.moved hW.alike h5, va_Z.moved hW.alike h6, va_T.moved hW.alike h7, va_T.moved hW.alike h8⟩
def q_Pf (G : qC) (H : Heap) : Prop := G.2.2.1.size ≤ H.size ∧ ∀ q : Nat, q < G.2.2.1.size → H[q]? = G.2.2.1[q]?
def q_roO : qE := .inl (6, 6, .inl q_own)
def q_roW : qE := .inl (6, 13, .inl q_pow)
def q_roS (G : qC) : qE := .inl (6, G.2.2.2.2.2.2.1, .inl G.2.2.2.2.2.2.2)
/-- the heap holds the memory -/
def q_H (G : qC) (M : qM) (H : Heap) : Prop :=
  M.1 = H.size ∧ q_Pf G H ∧ (G.2.2.2.1 < G.2.2.1.size ∧ G.2.2.2.2.1 < G.2.2.1.size ∧ G.2.2.2.2.2.1 < G.2.2.1.size) ∧ (M.2 G.2.2.2.1 = some q_roO ∧ M.2 G.2.2.2.2.1 = some q_roW ∧ M.2 G.2.2.2.2.2.1 = some (q_roS G)) ∧
  (∀ (a : Nat) (x : vp_A), M.2 a = some (.inl (6, x)) → (a = G.2.2.2.1 ∧ x = (6, .inl q_own)) ∨ (a = G.2.2.2.2.1 ∧ x = (13, .inl q_pow)) ∨ (a = G.2.2.2.2.2.1 ∧ x = (G.2.2.2.2.2.2.1, .inl G.2.2.2.2.2.2.2))) ∧
  (∀ (a t : Nat) (x : vp_A), M.2 a = some (.inl (t, x)) → t ≠ 6 → G.2.2.1.size ≤ a ∧ H[a]? = some (vp_cell (G.2.1 t) x)) ∧
  (∀ (a : Nat) (y : Nat × List Value), M.2 a = some (.inr y) → G.2.2.1.size ≤ a ∧ va_at G.1 vwCl (a, .inr y) H)
def q_set (M : qM) (a : Nat) (e : qE) : qM := (M.1, va_up M.2 a (some e))
def q_new (M : qM) (e : qE) : qM := (M.1 + 1, va_up M.2 M.1 (some e))
/-- an address of the memory lies in the heap -/
theorem q_H.lt {G : qC} {M : qM} {H : Heap} (h : q_H G M H) {a : Nat} {e : qE} (ha : M.2 a = some e) : a < M.1 := by
  obtain ⟨h1, h2, h3, h4, h5, h6, h7⟩ := h
  rw [h1]
  rcases e with ⟨t, x⟩ | y
  · by_cases ht : t = 6
    · subst ht
      rcases h5 a x ha with ⟨rfl, -⟩ | ⟨rfl, -⟩ | ⟨rfl, -⟩
      · exact Nat.lt_of_lt_of_le h3.1 h2.1
      · exact Nat.lt_of_lt_of_le h3.2.1 h2.1
      · exact Nat.lt_of_lt_of_le h3.2.2 h2.1
    · exact (Array.getElem?_eq_some_iff.mp (h6 a t x ha ht).2).1
  · exact (h7 a y ha).2.lt
theorem q_H.fresh {G : qC} {M : qM} {H : Heap} (h : q_H G M H) {a : Nat} (ha : M.1 ≤ a) : M.2 a = none := by
  cases he : M.2 a with
  | none => rfl
  | some e => have := h.lt he; omega
/-- one cell is written -/
theorem q_H.setA {G : qC} {M : qM} {H H1 : Heap} {a t : Nat} {x x1 : vp_A} (h : q_H G M H) (ha : M.2 a = some (.inl (t, x))) (ht : t ≠ 6) (hz : H1.size = H.size) (hq : ∀ q : Nat, q ≠ a → H1[q]? = H[q]?) (hc : H1[a]? = some (vp_cell (G.2.1 t) x1)) : q_H G (q_set M a (.inl (t, x1))) H1 := by
  obtain ⟨h1, h2, h3, h4, h5, h6, h7⟩ := h
  have hA := (h6 a t x ha ht).1
  have no : G.2.2.2.1 ≠ a := fun e => by have := h3.1; omega
  have nw : G.2.2.2.2.1 ≠ a := fun e => by have := h3.2.1; omega
  have nb : G.2.2.2.2.2.1 ≠ a := fun e => by have := h3.2.2; omega
  refine ⟨h1.trans hz.symm, ⟨by rw [hz]; exact h2.1, fun q hl => by rw [hq q (by omega)]; exact h2.2 q hl⟩, h3, ⟨(va_up_ne _ _ no).trans h4.1, (va_up_ne _ _ nw).trans h4.2.1, (va_up_ne _ _ nb).trans h4.2.2⟩, ?_, ?_, ?_⟩
  · intro b y hb
    by_cases e : b = a
    · subst e
      have : some (Sum.inl (t, x1)) = some (Sum.inl (6, y)) := (va_up_self M.2 b (some (Sum.inl (t, x1) : qE))).symm.trans hb
      cases this
      exact absurd rfl ht
    · exact h5 b y ((va_up_ne _ _ e).symm.trans hb)
  · intro b t2 y hb ht2
    by_cases e : b = a
    · subst e
      have : some (Sum.inl (t, x1) : qE) = some (Sum.inl (t2, y)) := (va_up_self M.2 b (some (Sum.inl (t, x1) : qE))).symm.trans hb
      cases this
      exact ⟨hA, hc⟩
    · obtain ⟨g1, g2⟩ := h6 b t2 y ((va_up_ne _ _ e).symm.trans hb) ht2
      exact ⟨g1, by rw [hq b e]; exact g2⟩
  · intro b y hb
    by_cases e : b = a
    · subst e
      have : some (Sum.inl (t, x1) : qE) = some (Sum.inr y) := (va_up_self M.2 b (some (Sum.inl (t, x1) : qE))).symm.trans hb
      cases this
    · obtain ⟨g1, g2⟩ := h7 b y ((va_up_ne _ _ e).symm.trans hb)
      exact ⟨g1, g2.kept (hq b e)⟩
theorem q_H.setO {G : qC} {M : qM} {H H1 : Heap} {a : Nat} {y y1 : Nat × List Value} (h : q_H G M H) (ha : M.2 a = some (.inr y)) (hz : H1.size = H.size) (hq : ∀ q : Nat, q ≠ a → H1[q]? = H[q]?) (hc : va_at G.1 vwCl (a, .inr y1) H1) : q_H G (q_set M a (.inr y1)) H1 := by
  obtain ⟨h1, h2, h3, h4, h5, h6, h7⟩ := h
  have hA := (h7 a y ha).1
  have no : G.2.2.2.1 ≠ a := fun e => by have := h3.1; omega
  have nw : G.2.2.2.2.1 ≠ a := fun e => by have := h3.2.1; omega
  have nb : G.2.2.2.2.2.1 ≠ a := fun e => by have := h3.2.2; omega
  refine ⟨h1.trans hz.symm, ⟨by rw [hz]; exact h2.1, fun q hl => by rw [hq q (by omega)]; exact h2.2 q hl⟩, h3, ⟨(va_up_ne _ _ no).trans h4.1, (va_up_ne _ _ nw).trans h4.2.1, (va_up_ne _ _ nb).trans h4.2.2⟩, ?_, ?_, ?_⟩
  · intro b z hb
    by_cases e : b = a
    · subst e
      have : some (Sum.inr y1 : qE) = some (Sum.inl (6, z)) := (va_up_self M.2 b (some (Sum.inr y1 : qE))).symm.trans hb
      cases this
    · exact h5 b z ((va_up_ne _ _ e).symm.trans hb)
  · intro b t2 z hb ht2
    by_cases e : b = a
    · subst e
      have : some (Sum.inr y1 : qE) = some (Sum.inl (t2, z)) := (va_up_self M.2 b (some (Sum.inr y1 : qE))).symm.trans hb
      cases this
    · obtain ⟨g1, g2⟩ := h6 b t2 z ((va_up_ne _ _ e).symm.trans hb) ht2
      exact ⟨g1, by rw [hq b e]; exact g2⟩
  · intro b z hb
    by_cases e : b = a
    · subst e
      have : some (Sum.inr y1 : qE) = some (Sum.inr z) := (va_up_self M.2 b (some (Sum.inr y1 : qE))).symm.trans hb
      cases this
      exact ⟨hA, hc⟩
    · obtain ⟨g1, g2⟩ := h7 b z ((va_up_ne _ _ e).symm.trans hb)
      exact ⟨g1, g2.kept (hq b e)⟩
/-- one cell is made -/
theorem q_H.push {G : qC} {M : qM} {H H1 : Heap} {en : qE} (h : q_H G M H) (hz : H1.size = H.size + 1) (hq : ∀ q : Nat, q < H.size → H1[q]? = H[q]?) (he : (∃ (t : Nat) (x : vp_A), en = .inl (t, x) ∧ t ≠ 6 ∧ H1[H.size]? = some (vp_cell (G.2.1 t) x)) ∨ (∃ y : Nat × List Value, en = .inr y ∧ va_at G.1 vwCl (H.size, .inr y) H1)) : q_H G (q_new M en) H1 := by
  have hlt := fun (a : Nat) (e : qE) (ha : M.2 a = some e) => h.lt ha
  obtain ⟨h1, h2, h3, h4, h5, h6, h7⟩ := h
  have hA : G.2.2.1.size ≤ M.1 := by rw [h1]; exact h2.1
  have no : G.2.2.2.1 ≠ M.1 := fun e => by have := h3.1; omega
  have nw : G.2.2.2.2.1 ≠ M.1 := fun e => by have := h3.2.1; omega
  have nb : G.2.2.2.2.2.1 ≠ M.1 := fun e => by have := h3.2.2; omega
  have hk : ∀ q : Nat, q < M.1 → H1[q]? = H[q]? := fun q hl => hq q (by rw [← h1]; exact hl)
  refine ⟨by show M.1 + 1 = _; rw [hz, h1], ⟨by rw [hz]; exact Nat.le_succ_of_le h2.1, fun q hl => by rw [hk q (by omega)]; exact h2.2 q hl⟩, h3, ⟨(va_up_ne _ _ no).trans h4.1, (va_up_ne _ _ nw).trans h4.2.1, (va_up_ne _ _ nb).trans h4.2.2⟩, ?_, ?_, ?_⟩
  · intro b z hb
    by_cases e : b = M.1
    · have e2 : some en = some (Sum.inl (6, z)) := by rw [← hb, e]; exact (va_up_self M.2 M.1 (some en)).symm
      rcases he with ⟨t, x, rfl, g, -⟩ | ⟨y, rfl, -⟩
      · cases e2; exact absurd rfl g
      · cases e2
    · exact h5 b z ((va_up_ne _ _ e).symm.trans hb)
  · intro b t2 z hb ht2
    by_cases e : b = M.1
    · have e2 : some en = some (Sum.inl (t2, z)) := by rw [← hb, e]; exact (va_up_self M.2 M.1 (some en)).symm
      rcases he with ⟨t, x, rfl, g, g2⟩ | ⟨y, rfl, -⟩
      · cases e2; exact ⟨by rw [e]; exact hA, by rw [e, h1]; exact g2⟩
      · cases e2
    · have hb2 := (va_up_ne _ _ e).symm.trans hb
      obtain ⟨g1, g2⟩ := h6 b t2 z hb2 ht2
      exact ⟨g1, by rw [hk b (hlt b _ hb2)]; exact g2⟩
  · intro b z hb
    by_cases e : b = M.1
    · have e2 : some en = some (Sum.inr z) := by rw [← hb, e]; exact (va_up_self M.2 M.1 (some en)).symm
      rcases he with ⟨t, x, rfl, -, -⟩ | ⟨y, rfl, g2⟩
      · cases e2
      · cases e2; exact ⟨by rw [e]; exact hA, by rw [e, h1]; exact g2⟩
    · have hb2 := (va_up_ne _ _ e).symm.trans hb
      obtain ⟨g1, g2⟩ := h7 b z hb2
      exact ⟨g1, g2.kept (hk b (hlt b _ hb2))⟩
theorem q_S.push {A : Nat → Prop} {H0 H H1 : Heap} {locs : List Loc} (h : va_S A H0 H locs) (hz : H1.size = H.size + 1) (hq : ∀ q : Nat, q < H.size → H1[q]? = H[q]?) : va_S A H0 H1 locs :=
  ⟨Nat.le_trans h.1 (by omega), fun q a b => (hq q (Nat.lt_of_lt_of_le a h.1)).trans (h.2.1 q a b), h.2.2⟩
/-! locals -/
def q_lg : qLv → Nat → Option Value
  | [], _ => none
  | q :: l, i => if q.1 = i then some q.2 else q_lg l i
def q_cat : Value → Nat
  | .int _ => 1
  | .long _ => 2
  | .float _ => 1
  | .double _ => 2
  | .null => 1
  | .ref _ => 1
  | .retAddr _ => 1
def q_ld : qLv → Nat → qLv
  | [], _ => []
  | q :: l, i => if q.1 = i ∨ (q.1 + 1 = i ∧ q_cat q.2 = 2) then q_ld l i else q :: q_ld l i
def q_ls (l : qLv) (i : Nat) (v : Value) : qLv := (i, v) :: q_ld l i
def q_ld1 : qLv → Nat → qLv
  | [], _ => []
  | q :: l, i => if q.1 = i then q_ld1 l i else q :: q_ld1 l i
def q_ls2 (l : qLv) (i : Nat) (v : Value) : qLv := (i, v) :: q_ld (l.filter (fun q => !(q.1 == i + 1))) i
def q_wd : List Value → Nat
  | [] => 0
  | v :: l => q_cat v + q_wd l
theorem q_cat_eq (v : Value) : v.category = q_cat v := by cases v <;> rfl
theorem q_lg_at {ls : Array Slot} {nL : Nat} {i : Nat} {v : Value} : ∀ {l : qLv}, lv_has ls nL l → q_lg l i = some v → ls[i]? = some (.val v)
  | [], _, h => by cases h
  | q :: l, h, hg => by
    unfold q_lg at hg
    by_cases e : q.1 = i
    · rw [if_pos e] at hg
      cases hg
      rw [← e]
      exact h.2.2 q List.mem_cons_self
    · rw [if_neg e] at hg
      exact q_lg_at ⟨h.1, h.2.1, fun x hx => h.2.2 x (List.mem_cons_of_mem _ hx)⟩ hg
theorem q_ld_eq (i : Nat) : ∀ l : qLv, q_ld l i = l.filter (fun q => !(q.1 == i) && !(q.1 + 1 == i && q.2.category == 2))
  | [] => rfl
  | q :: l => by
    unfold q_ld
    rw [q_ld_eq i l, List.filter_cons, q_cat_eq]
    by_cases h1 : q.1 = i
    · simp [h1]
    · by_cases h2 : q.1 + 1 = i ∧ q_cat q.2 = 2
      · simp [h1, h2]
      · rw [if_neg (fun z => z.elim h1 h2), if_pos]
        simp only [Bool.and_eq_true, Bool.not_eq_true', beq_eq_false_iff_ne, ne_eq, h1, not_false_eq_true, true_and, Bool.and_eq_false_iff]
        by_cases h3 : q.1 + 1 = i
        · exact Or.inr (fun z => h2 ⟨h3, z⟩)
        · exact Or.inl h3
theorem q_ls2_eq (i : Nat) (l : qLv) : q_ld (l.filter (fun q => !(q.1 == i + 1))) i = l.filter (fun q => !(q.1 == i) && (!(q.1 == i + 1) && !(q.1 + 1 == i && q.2.category == 2))) := by
  rw [q_ld_eq, List.filter_filter]
  congr 1
  funext q
  cases (q.1 == i) <;> cases (q.1 == i + 1) <;> cases (q.1 + 1 == i && q.2.category == 2) <;> rfl
theorem q_wd_eq : ∀ l : List Value, (l.map fun v => v.category).sum = q_wd l
  | [] => rfl
  | v :: l => by rw [List.map_cons, List.sum_cons, q_wd_eq l, q_cat_eq]; rfl
theorem q_wd_sl : ∀ l : List Value, (lg_sl l).length = q_wd l
  | [] => rfl
  | v :: l => by
    have h := q_wd_sl l
    unfold lg_sl at h ⊢
    rw [List.flatMap_cons, List.length_append, h]
    cases v <;> simp [q_wd, q_cat, Value.category]
/-! operations -/
abbrev qKt : Type := Nat → qLv → List Value → qM → Nat → Nat → Prop
abbrev qCt : Type := qMI → Nat → Nat → List Value → qM → (Option Value → qM → Prop) → Prop
abbrev qRt : Type := Option Value → qM → Nat → Nat → Prop
/-- after a call; the calls; the return; depth; cells and slots that may be made; the two tables -/
abbrev qB : Type := qKt × qCt × qRt × Nat × Nat × Nat × Nat × Nat
abbrev qP : Type := qLv → List Value → qM → Nat → Nat → qB → qKt → Prop
def q_pop : Nat → List Value → List Value → Option (List Value × List Value)
  | 0, acc, st => some (acc, st)
  | _ + 1, _, [] => none
  | n + 1, acc, v :: st => q_pop n (v :: acc) st
theorem q_pop_spec : ∀ (n : Nat) (acc st As r : List Value), q_pop n acc st = some (As, r) → ∃ t : List Value, As = t.reverse ++ acc ∧ st = t ++ r ∧ t.length = n
  | 0, acc, st, As, r, h => by
    cases h
    exact ⟨[], rfl, rfl, rfl⟩
  | n + 1, acc, [], As, r, h => by cases h
  | n + 1, acc, v :: st, As, r, h => by
    obtain ⟨t, h1, h2, h3⟩ := q_pop_spec n (v :: acc) st As r h
    exact ⟨v :: t, by rw [h1]; simp, by rw [h2]; rfl, by rw [← h3]; rfl⟩
def q_rm (d mc ms : Nat) : Room := { frames := d, cells := mc, slots := ms, locals := 40 * d }
def q_Q (G : qC) (Q : Option Value → qM → Prop) : Array Value → State → Outcome → State → Prop := fun _ st oc t => ∃ (r : Option Value) (M : qM), oc = .returned r ∧ Q r M ∧ q_H G M t.heap ∧ st.heap.size ≤ t.heap.size
def q_Pc (G : qC) (M : qM) : State → Prop := fun U => q_K G U ∧ q_H G M U.heap
def q_ws (mi : qMI) : List Cond := Cond.code mi.1 mi.2.1 mi.2.2.1 mi.2.2.2 :: q_gw
def q_Ev (G : qC) (mi : qMI) (p : Program) (σ : State) (m : MethodId) (args : Array Value) (meth : Method) (c : Code) : Prop :=
  p.tables.exec = Jvm.exec ∧ c.code = mi.2.1 ∧ c.maxLocals = mi.2.2.1 ∧ σ.vm.findClass mi.1.cls = some m.cls ∧ (∀ w ∈ q_gw, w.before args σ = true) ∧ meth.sig.returnType = mi.2.2.2 ∧ meth.locks = false ∧ meth.name = mi.1.name ∧ q_K G σ ∧ q_Pf G σ.heap
def q_Y (G : qC) (L : Launch) (R : Room) (mi : qMI) (Z : State → Prop) (p : Program) (e : Env) (σ : State) (m : MethodId) (args : Array Value) (below : List Frame) (meth : Method) (c : Code) : qKt := fun pc l st M cs ss =>
  ∀ (H : Heap) (locs : List Loc) (ls : Array Slot), lv_has ls mi.2.2.1 l → q_H G M H → va_S (q_A G) σ.heap H locs → W p L e R σ m args below meth c H locs cs ss Z (F0 m pc ls st)
def q_BOk (G : qC) (L : Launch) (R : Room) (mi : qMI) (Z : State → Prop) (p : Program) (e : Env) (σ : State) (m : MethodId) (args : Array Value) (below : List Frame) (meth : Method) (c : Code) (B : qB) : Prop :=
  (∀ pc l st M cs ss, B.1 pc l st M cs ss → q_Y G L R mi Z p e σ m args below meth c pc l st M cs ss) ∧
  (∀ (mi' : qMI) (mc ms : Nat) (As : List Value) (M : qM) (Q : Option Value → qM → Prop), plainName mi'.1.cls = true → B.2.1 mi' mc ms As M Q → ∃ d' : Nat, d' + 1 ≤ R.frames ∧ 40 * (d' + 1) ≤ R.locals ∧ Met L mi'.1 (q_ws mi') (q_rm d' mc ms) (va_Pc As (q_Pc G M)) (q_Q G Q) mc ms (q_A G)) ∧
  (∀ (pc : Nat) (l : qLv) (st : List Value) (r : Option Value) (M : qM) (cs ss : Nat), B.2.2.1 r M cs ss →
    ((∃ (v : Int32) (ty : FieldType), r = some (.int v) ∧ st = [.int v] ∧ mi.2.2.2 = some ty ∧ narrow ty (.int v) = .int v ∧ decode mi.2.1 pc = .ok (.ireturn, 1)) ∨
     (∃ v : Int64, r = some (.long v) ∧ st = [.long v] ∧ mi.2.2.2 = some .long ∧ decode mi.2.1 pc = .ok (.lreturn, 1)) ∨
     (∃ (v : Value) (n : String), r = some v ∧ st = [v] ∧ mi.2.2.2 = some (.object n) ∧ (v = .null ∨ ∃ a, v = .ref a) ∧ decode mi.2.1 pc = .ok (.areturn, 1)) ∨
     (r = none ∧ st = [] ∧ mi.2.2.2 = none ∧ decode mi.2.1 pc = .ok (.return_, 1))) → q_Y G L R mi Z p e σ m args below meth c pc l st M cs ss) ∧
  (B.2.2.2.1 ≤ R.frames ∧ 40 * B.2.2.2.1 ≤ R.locals) ∧ B.2.2.2.2.1 ≤ R.cells ∧ B.2.2.2.2.2.1 ≤ R.slots ∧ B.2.2.2.2.2.2.1 = G.2.2.2.1 ∧ B.2.2.2.2.2.2.2 = G.2.2.2.2.1
/-- an operation speaks truly of the instruction at a place -/
def q_Ok (mi : qMI) (pc : Nat) (T : qP) : Prop :=
  ∀ (G : qC) (L : Launch) (R : Room) (Z : State → Prop) (p : Program) (e : Env) (σ : State) (m : MethodId) (args : Array Value) (below : List Frame) (meth : Method) (c : Code), q_Ev G mi p σ m args meth c → ∀ B : qB, q_BOk G L R mi Z p e σ m args below meth c B →
    ∀ K : qKt, (∀ pc l st M cs ss, K pc l st M cs ss → q_Y G L R mi Z p e σ m args below meth c pc l st M cs ss) → ∀ l st M cs ss, T l st M cs ss B K → q_Y G L R mi Z p e σ m args below meth c pc l st M cs ss

def oK (v : Value) (n : Nat) : qP := fun l st M c s _ K => K n l (v :: st) M c s
theorem ok_iconst {mi : qMI} {pc n : Nat} {k : Int} {v : Int32} (hd : decode mi.2.1 pc = .ok (.iconst k, 1)) (hn : pc + 1 = n) (hv : Int32.ofInt k = v) : q_Ok mi pc (oK (.int v) n) := by
  intro G L R Z p e σ m args below meth c E B hB K hK l st M cs ss h H locs ls hl hH hS
  subst hn
  exact lv_iconst E.1 E.2.1 hd hv (hK _ _ _ _ _ _ h H locs ls hl hH hS)
theorem ok_bipush {mi : qMI} {pc n : Nat} {k : Int} {v : Int32} (hd : decode mi.2.1 pc = .ok (.bipush k, 2)) (hn : pc + 2 = n) (hv : (Int8.ofInt k).toInt32 = v) : q_Ok mi pc (oK (.int v) n) := by
  intro G L R Z p e σ m args below meth c E B hB K hK l st M cs ss h H locs ls hl hH hS
  subst hn
  exact lv_bipush E.1 E.2.1 hd hv (hK _ _ _ _ _ _ h H locs ls hl hH hS)
theorem ok_sipush {mi : qMI} {pc n : Nat} {k : Int} {v : Int32} (hd : decode mi.2.1 pc = .ok (.sipush k, 3)) (hn : pc + 3 = n) (hv : (Int16.ofInt k).toInt32 = v) : q_Ok mi pc (oK (.int v) n) := by
  intro G L R Z p e σ m args below meth c E B hB K hK l st M cs ss h H locs ls hl hH hS
  subst hn
  exact lv_sipush E.1 E.2.1 hd hv (hK _ _ _ _ _ _ h H locs ls hl hH hS)
theorem ok_lconst {mi : qMI} {pc n : Nat} {k : Fin 2} {v : Int64} (hd : decode mi.2.1 pc = .ok (.lconst k, 1)) (hn : pc + 1 = n) (hv : Int64.ofNat (k : Nat) = v) : q_Ok mi pc (oK (.long v) n) := by
  intro G L R Z p e σ m args below meth c E B hB K hK l st M cs ss h H locs ls hl hH hS
  subst hn
  exact lv_lconst E.1 E.2.1 hd hv (hK _ _ _ _ _ _ h H locs ls hl hH hS)
theorem ok_null {mi : qMI} {pc n : Nat} (hd : decode mi.2.1 pc = .ok (.aconst_null, 1)) (hn : pc + 1 = n) : q_Ok mi pc (oK .null n) := by
  intro G L R Z p e σ m args below meth c E B hB K hK l st M cs ss h H locs ls hl hH hS
  subst hn
  exact lv_null E.1 E.2.1 hd (hK _ _ _ _ _ _ h H locs ls hl hH hS)
theorem ok_ldc {mi : qMI} {pc n : Nat} {k : Nat} {v : Int32} (hd : decode mi.2.1 pc = .ok (.ldc k, 2)) (hn : pc + 2 = n) (hc : Cond.constant mi.1.cls k v ∈ q_gw) : q_Ok mi pc (oK (.int v) n) := by
  intro G L R Z p e σ m args below meth c E B hB K hK l st M cs ss h H locs ls hl hH hS
  subst hn
  exact lv_ldc E.1 E.2.1 E.2.2.2.1 (E.2.2.2.2.1 _ hc) hd (hK _ _ _ _ _ _ h H locs ls hl hH hS)
theorem ok_ldc2 {mi : qMI} {pc n : Nat} {k : Nat} {v : Int64} (hd : decode mi.2.1 pc = .ok (.ldc2_w k, 3)) (hn : pc + 3 = n) (hc : Cond.constantLong mi.1.cls k v ∈ q_gw) : q_Ok mi pc (oK (.long v) n) := by
  intro G L R Z p e σ m args below meth c E B hB K hK l st M cs ss h H locs ls hl hH hS
  subst hn
  exact lv_ldc2 E.1 E.2.1 E.2.2.2.1 (E.2.2.2.2.1 _ hc) hd (hK _ _ _ _ _ _ h H locs ls hl hH hS)
def oIl (i n : Nat) : qP := fun l st M c s _ K => match q_lg l i with
  | some (.int x) => K n l (.int x :: st) M c s
  | _ => False
def oLl (i n : Nat) : qP := fun l st M c s _ K => match q_lg l i with
  | some (.long x) => K n l (.long x :: st) M c s
  | _ => False
def oAl (i n : Nat) : qP := fun l st M c s _ K => match q_lg l i with
  | some (.ref x) => K n l (.ref x :: st) M c s
  | some .null => K n l (.null :: st) M c s
  | _ => False
theorem ok_iload_n {mi : qMI} {pc n : Nat} {k : Fin 4} {i : Nat} (hd : decode mi.2.1 pc = .ok (.iload_n k, 1)) (hi : (k : Nat) = i) (hn : pc + 1 = n) : q_Ok mi pc (oIl i n) := by
  intro G L R Z p e σ m args below meth c E B hB K hK l st M cs ss h H locs ls hl hH hS
  unfold oIl at h
  split at h
  · next x hx => subst hn; exact lv_iload_n E.1 E.2.1 hd hi (q_lg_at hl hx) (hK _ _ _ _ _ _ h H locs ls hl hH hS)
  · exact h.elim
theorem ok_iload {mi : qMI} {pc n : Nat} {i : Nat} (hd : decode mi.2.1 pc = .ok (.iload i, 2)) (hn : pc + 2 = n) : q_Ok mi pc (oIl i n) := by
  intro G L R Z p e σ m args below meth c E B hB K hK l st M cs ss h H locs ls hl hH hS
  unfold oIl at h
  split at h
  · next x hx => subst hn; exact lv_iload E.1 E.2.1 hd (q_lg_at hl hx) (hK _ _ _ _ _ _ h H locs ls hl hH hS)
  · exact h.elim
theorem ok_lload_n {mi : qMI} {pc n : Nat} {k : Fin 4} {i : Nat} (hd : decode mi.2.1 pc = .ok (.lload_n k, 1)) (hi : (k : Nat) = i) (hn : pc + 1 = n) : q_Ok mi pc (oLl i n) := by
  intro G L R Z p e σ m args below meth c E B hB K hK l st M cs ss h H locs ls hl hH hS
  unfold oLl at h
  split at h
  · next x hx => subst hn; exact lv_lload_n E.1 E.2.1 hd hi (q_lg_at hl hx) (hK _ _ _ _ _ _ h H locs ls hl hH hS)
  · exact h.elim
theorem ok_lload {mi : qMI} {pc n : Nat} {i : Nat} (hd : decode mi.2.1 pc = .ok (.lload i, 2)) (hn : pc + 2 = n) : q_Ok mi pc (oLl i n) := by
  intro G L R Z p e σ m args below meth c E B hB K hK l st M cs ss h H locs ls hl hH hS
  unfold oLl at h
  split at h
  · next x hx => subst hn; exact lv_lload E.1 E.2.1 hd (q_lg_at hl hx) (hK _ _ _ _ _ _ h H locs ls hl hH hS)
  · exact h.elim
theorem ok_aload_n {mi : qMI} {pc n : Nat} {k : Fin 4} {i : Nat} (hd : decode mi.2.1 pc = .ok (.aload_n k, 1)) (hi : (k : Nat) = i) (hn : pc + 1 = n) : q_Ok mi pc (oAl i n) := by
  intro G L R Z p e σ m args below meth c E B hB K hK l st M cs ss h H locs ls hl hH hS
  unfold oAl at h
  split at h
  · next x hx => subst hn; exact lv_aload_n E.1 E.2.1 hd hi (q_lg_at hl hx) (hK _ _ _ _ _ _ h H locs ls hl hH hS)
  · next hx => subst hn; exact lv_aload_nN E.1 E.2.1 hd hi (q_lg_at hl hx) (hK _ _ _ _ _ _ h H locs ls hl hH hS)
  · exact h.elim
theorem ok_aload {mi : qMI} {pc n : Nat} {i : Nat} (hd : decode mi.2.1 pc = .ok (.aload i, 2)) (hn : pc + 2 = n) : q_Ok mi pc (oAl i n) := by
  intro G L R Z p e σ m args below meth c E B hB K hK l st M cs ss h H locs ls hl hH hS
  unfold oAl at h
  split at h
  · next x hx => subst hn; exact lv_aload E.1 E.2.1 hd (q_lg_at hl hx) (hK _ _ _ _ _ _ h H locs ls hl hH hS)
  · next hx => subst hn; exact lv_aloadN E.1 E.2.1 hd (q_lg_at hl hx) (hK _ _ _ _ _ _ h H locs ls hl hH hS)
  · exact h.elim
def oIs (i n : Nat) : qP := fun l st M c s _ K => match st with
  | .int x :: r => K n (q_ls l i (.int x)) r M c s
  | _ => False
def oLs (i n : Nat) : qP := fun l st M c s _ K => match st with
  | .long x :: r => K n (q_ls2 l i (.long x)) r M c s
  | _ => False
def oAs (i n : Nat) : qP := fun l st M c s _ K => match st with
  | .ref x :: r => K n (q_ls l i (.ref x)) r M c s
  | .null :: r => K n (q_ls l i .null) r M c s
  | _ => False
def oInc (i : Nat) (v : Int32) (n : Nat) : qP := fun l st M c s _ K => match q_lg l i with
  | some (.int x) => K n (q_ls l i (.int (x + v))) st M c s
  | _ => False
theorem ok_istore_n {mi : qMI} {pc n : Nat} {k : Fin 4} {i : Nat} (hd : decode mi.2.1 pc = .ok (.istore_n k, 1)) (hi : (k : Nat) = i) (hn : pc + 1 = n) (hm : i < mi.2.2.1) : q_Ok mi pc (oIs i n) := by
  intro G L R Z p e σ m args below meth c E B hB K hK l st M cs ss h H locs ls hl hH hS
  unfold oIs at h
  split at h
  · next x r => subst hn; exact lv_istore_n E.1 E.2.1 hd hi hl hm (by unfold q_ls; rw [q_ld_eq]) (fun ls' hl' => hK _ _ _ _ _ _ h H locs ls' hl' hH hS)
  · exact h.elim
theorem ok_istore {mi : qMI} {pc n : Nat} {i : Nat} (hd : decode mi.2.1 pc = .ok (.istore i, 2)) (hn : pc + 2 = n) (hm : i < mi.2.2.1) : q_Ok mi pc (oIs i n) := by
  intro G L R Z p e σ m args below meth c E B hB K hK l st M cs ss h H locs ls hl hH hS
  unfold oIs at h
  split at h
  · next x r => subst hn; exact lv_istore E.1 E.2.1 hd hl hm (by unfold q_ls; rw [q_ld_eq]) (fun ls' hl' => hK _ _ _ _ _ _ h H locs ls' hl' hH hS)
  · exact h.elim
theorem ok_lstore_n {mi : qMI} {pc n : Nat} {k : Fin 4} {i : Nat} (hd : decode mi.2.1 pc = .ok (.lstore_n k, 1)) (hi : (k : Nat) = i) (hn : pc + 1 = n) (hm : i + 1 < mi.2.2.1) : q_Ok mi pc (oLs i n) := by
  intro G L R Z p e σ m args below meth c E B hB K hK l st M cs ss h H locs ls hl hH hS
  unfold oLs at h
  split at h
  · next x r => subst hn; exact lv_lstore_n E.1 E.2.1 hd hi hl hm (by unfold q_ls2; rw [q_ls2_eq]) (fun ls' hl' => hK _ _ _ _ _ _ h H locs ls' hl' hH hS)
  · exact h.elim
theorem ok_lstore {mi : qMI} {pc n : Nat} {i : Nat} (hd : decode mi.2.1 pc = .ok (.lstore i, 2)) (hn : pc + 2 = n) (hm : i + 1 < mi.2.2.1) : q_Ok mi pc (oLs i n) := by
  intro G L R Z p e σ m args below meth c E B hB K hK l st M cs ss h H locs ls hl hH hS
  unfold oLs at h
  split at h
  · next x r => subst hn; exact lv_lstore E.1 E.2.1 hd hl hm (by unfold q_ls2; rw [q_ls2_eq]) (fun ls' hl' => hK _ _ _ _ _ _ h H locs ls' hl' hH hS)
  · exact h.elim
theorem ok_astore_n {mi : qMI} {pc n : Nat} {k : Fin 4} {i : Nat} (hd : decode mi.2.1 pc = .ok (.astore_n k, 1)) (hi : (k : Nat) = i) (hn : pc + 1 = n) (hm : i < mi.2.2.1) : q_Ok mi pc (oAs i n) := by
  intro G L R Z p e σ m args below meth c E B hB K hK l st M cs ss h H locs ls hl hH hS
  unfold oAs at h
  split at h
  · next x r => subst hn; exact lv_astore_n E.1 E.2.1 hd hi hl hm (by unfold q_ls; rw [q_ld_eq]) (fun ls' hl' => hK _ _ _ _ _ _ h H locs ls' hl' hH hS)
  · next r => subst hn; exact lv_astore_nN E.1 E.2.1 hd hi hl hm (by unfold q_ls; rw [q_ld_eq]) (fun ls' hl' => hK _ _ _ _ _ _ h H locs ls' hl' hH hS)
  · exact h.elim
theorem ok_astore {mi : qMI} {pc n : Nat} {i : Nat} (hd : decode mi.2.1 pc = .ok (.astore i, 2)) (hn : pc + 2 = n) (hm : i < mi.2.2.1) : q_Ok mi pc (oAs i n) := by
  intro G L R Z p e σ m args below meth c E B hB K hK l st M cs ss h H locs ls hl hH hS
  unfold oAs at h
  split at h
  · next x r => subst hn; exact lv_astore E.1 E.2.1 hd hl hm (by unfold q_ls; rw [q_ld_eq]) (fun ls' hl' => hK _ _ _ _ _ _ h H locs ls' hl' hH hS)
  · next r => subst hn; exact lv_astoreN E.1 E.2.1 hd hl hm (by unfold q_ls; rw [q_ld_eq]) (fun ls' hl' => hK _ _ _ _ _ _ h H locs ls' hl' hH hS)
  · exact h.elim
theorem q_lg_mem {i : Nat} {v : Value} : ∀ {l : qLv}, q_lg l i = some v → ∃ k : Nat, l[k]? = some (i, v)
  | [], h => by cases h
  | q :: l, hg => by
    unfold q_lg at hg
    by_cases e : q.1 = i
    · rw [if_pos e] at hg
      cases hg
      exact ⟨0, by rw [← e]; rfl⟩
    · rw [if_neg e] at hg
      obtain ⟨k, hk⟩ := q_lg_mem hg
      exact ⟨k + 1, by simpa using hk⟩
theorem ok_iinc {mi : qMI} {pc n i : Nat} {k : Int} {v : Int32} (hd : decode mi.2.1 pc = .ok (.iinc i k, 3)) (hn : pc + 3 = n) (hv : Int32.ofInt k = v) (hm : i < mi.2.2.1) : q_Ok mi pc (oInc i v n) := by
  intro G L R Z p e σ m args below meth c E B hB K hK l st M cs ss h H locs ls hl hH hS
  unfold oInc at h
  split at h
  · next x hx =>
    subst hn
    obtain ⟨k, hk⟩ := q_lg_mem hx
    exact lv_iinc E.1 E.2.1 hd hl hk (by rw [hv]) hm (by unfold q_ls; rw [q_ld_eq]) (fun ls' hl' => hK _ _ _ _ _ _ h H locs ls' hl' hH hS)
  · exact h.elim
def oDup (n : Nat) : qP := fun l st M c s _ K => match st with
  | v :: r => q_cat v = 1 ∧ K n l (v :: v :: r) M c s
  | _ => False
def oDup2 (n : Nat) : qP := fun l st M c s _ K => match st with
  | v :: u :: r => q_cat v = 1 ∧ q_cat u = 1 ∧ K n l (v :: u :: v :: u :: r) M c s
  | _ => False
def oPop (n : Nat) : qP := fun l st M c s _ K => match st with
  | v :: r => q_cat v = 1 ∧ K n l r M c s
  | _ => False
theorem ok_dup {mi : qMI} {pc n : Nat} (hd : decode mi.2.1 pc = .ok (.dup, 1)) (hn : pc + 1 = n) : q_Ok mi pc (oDup n) := by
  intro G L R Z p e σ m args below meth c E B hB K hK l st M cs ss h H locs ls hl hH hS
  unfold oDup at h
  split at h
  · next v r => subst hn; exact lv_dup E.1 E.2.1 hd (by rw [q_cat_eq]; exact h.1) (hK _ _ _ _ _ _ h.2 H locs ls hl hH hS)
  · exact h.elim
theorem ok_pop {mi : qMI} {pc n : Nat} (hd : decode mi.2.1 pc = .ok (.pop, 1)) (hn : pc + 1 = n) : q_Ok mi pc (oPop n) := by
  intro G L R Z p e σ m args below meth c E B hB K hK l st M cs ss h H locs ls hl hH hS
  unfold oPop at h
  split at h
  · next v r => subst hn; exact lv_pop E.1 E.2.1 hd (by rw [q_cat_eq]; exact h.1) (hK _ _ _ _ _ _ h.2 H locs ls hl hH hS)
  · exact h.elim
theorem ok_dup2 {mi : qMI} {pc n : Nat} (hd : decode mi.2.1 pc = .ok (.dup2, 1)) (hn : pc + 1 = n) : q_Ok mi pc (oDup2 n) := by
  intro G L R Z p e σ m args below meth c E B hB K hK l st M cs ss h H locs ls hl hH hS
  unfold oDup2 at h
  split at h
  · next v u r => subst hn; exact lv_dup2_11 E.1 E.2.1 hd (by rw [q_cat_eq]; exact h.1) (by rw [q_cat_eq]; exact h.2.1) (hK _ _ _ _ _ _ h.2.2 H locs ls hl hH hS)
  · exact h.elim
def oAdd (n : Nat) : qP := fun l st M c s _ K => match st with
  | .int y :: .int x :: r => K n l (.int (x + y) :: r) M c s
  | _ => False
theorem ok_iadd {mi : qMI} {pc n : Nat} (hd : decode mi.2.1 pc = .ok (.iadd, 1)) (hn : pc + 1 = n) : q_Ok mi pc (oAdd n) := by
  intro G L R Z p e σ m args below meth c E B hB K hK l st M cs ss h H locs ls hl hH hS
  unfold oAdd at h
  split at h
  · subst hn; exact lv_iadd E.1 E.2.1 hd (hK _ _ _ _ _ _ h H locs ls hl hH hS)
  · exact h.elim
def oSub (n : Nat) : qP := fun l st M c s _ K => match st with
  | .int y :: .int x :: r => K n l (.int (x - y) :: r) M c s
  | _ => False
theorem ok_isub {mi : qMI} {pc n : Nat} (hd : decode mi.2.1 pc = .ok (.isub, 1)) (hn : pc + 1 = n) : q_Ok mi pc (oSub n) := by
  intro G L R Z p e σ m args below meth c E B hB K hK l st M cs ss h H locs ls hl hH hS
  unfold oSub at h
  split at h
  · subst hn; exact lv_isub E.1 E.2.1 hd (hK _ _ _ _ _ _ h H locs ls hl hH hS)
  · exact h.elim
def oMul (n : Nat) : qP := fun l st M c s _ K => match st with
  | .int y :: .int x :: r => K n l (.int (x * y) :: r) M c s
  | _ => False
theorem ok_imul {mi : qMI} {pc n : Nat} (hd : decode mi.2.1 pc = .ok (.imul, 1)) (hn : pc + 1 = n) : q_Ok mi pc (oMul n) := by
  intro G L R Z p e σ m args below meth c E B hB K hK l st M cs ss h H locs ls hl hH hS
  unfold oMul at h
  split at h
  · subst hn; exact lv_imul E.1 E.2.1 hd (hK _ _ _ _ _ _ h H locs ls hl hH hS)
  · exact h.elim
def oAnd (n : Nat) : qP := fun l st M c s _ K => match st with
  | .int y :: .int x :: r => K n l (.int (x &&& y) :: r) M c s
  | _ => False
theorem ok_iand {mi : qMI} {pc n : Nat} (hd : decode mi.2.1 pc = .ok (.iand, 1)) (hn : pc + 1 = n) : q_Ok mi pc (oAnd n) := by
  intro G L R Z p e σ m args below meth c E B hB K hK l st M cs ss h H locs ls hl hH hS
  unfold oAnd at h
  split at h
  · subst hn; exact lv_iand E.1 E.2.1 hd (hK _ _ _ _ _ _ h H locs ls hl hH hS)
  · exact h.elim
def oOr (n : Nat) : qP := fun l st M c s _ K => match st with
  | .int y :: .int x :: r => K n l (.int (x ||| y) :: r) M c s
  | _ => False
theorem ok_ior {mi : qMI} {pc n : Nat} (hd : decode mi.2.1 pc = .ok (.ior, 1)) (hn : pc + 1 = n) : q_Ok mi pc (oOr n) := by
  intro G L R Z p e σ m args below meth c E B hB K hK l st M cs ss h H locs ls hl hH hS
  unfold oOr at h
  split at h
  · subst hn; exact lv_ior E.1 E.2.1 hd (hK _ _ _ _ _ _ h H locs ls hl hH hS)
  · exact h.elim
def oXor (n : Nat) : qP := fun l st M c s _ K => match st with
  | .int y :: .int x :: r => K n l (.int (x ^^^ y) :: r) M c s
  | _ => False
theorem ok_ixor {mi : qMI} {pc n : Nat} (hd : decode mi.2.1 pc = .ok (.ixor, 1)) (hn : pc + 1 = n) : q_Ok mi pc (oXor n) := by
  intro G L R Z p e σ m args below meth c E B hB K hK l st M cs ss h H locs ls hl hH hS
  unfold oXor at h
  split at h
  · subst hn; exact lv_ixor E.1 E.2.1 hd (hK _ _ _ _ _ _ h H locs ls hl hH hS)
  · exact h.elim
def oShl (n : Nat) : qP := fun l st M c s _ K => match st with
  | .int y :: .int x :: r => K n l (.int (x <<< (y &&& 31)) :: r) M c s
  | _ => False
theorem ok_ishl {mi : qMI} {pc n : Nat} (hd : decode mi.2.1 pc = .ok (.ishl, 1)) (hn : pc + 1 = n) : q_Ok mi pc (oShl n) := by
  intro G L R Z p e σ m args below meth c E B hB K hK l st M cs ss h H locs ls hl hH hS
  unfold oShl at h
  split at h
  · subst hn; exact lv_ishl E.1 E.2.1 hd (hK _ _ _ _ _ _ h H locs ls hl hH hS)
  · exact h.elim
def oShr (n : Nat) : qP := fun l st M c s _ K => match st with
  | .int y :: .int x :: r => K n l (.int (x >>> (y &&& 31)) :: r) M c s
  | _ => False
theorem ok_ishr {mi : qMI} {pc n : Nat} (hd : decode mi.2.1 pc = .ok (.ishr, 1)) (hn : pc + 1 = n) : q_Ok mi pc (oShr n) := by
  intro G L R Z p e σ m args below meth c E B hB K hK l st M cs ss h H locs ls hl hH hS
  unfold oShr at h
  split at h
  · subst hn; exact lv_ishr E.1 E.2.1 hd (hK _ _ _ _ _ _ h H locs ls hl hH hS)
  · exact h.elim
def oUshr (n : Nat) : qP := fun l st M c s _ K => match st with
  | .int y :: .int x :: r => K n l (.int ((x.toUInt32 >>> (y.toUInt32 &&& Int32.toUInt32 31)).toInt32) :: r) M c s
  | _ => False
theorem ok_iushr {mi : qMI} {pc n : Nat} (hd : decode mi.2.1 pc = .ok (.iushr, 1)) (hn : pc + 1 = n) : q_Ok mi pc (oUshr n) := by
  intro G L R Z p e σ m args below meth c E B hB K hK l st M cs ss h H locs ls hl hH hS
  unfold oUshr at h
  split at h
  · subst hn; exact lv_iushr E.1 E.2.1 hd rfl (hK _ _ _ _ _ _ h H locs ls hl hH hS)
  · exact h.elim
def oDiv (n : Nat) : qP := fun l st M c s _ K => match st with
  | .int y :: .int x :: r => ¬ y = 0 ∧ K n l (.int (x / y) :: r) M c s
  | _ => False
theorem ok_idiv {mi : qMI} {pc n : Nat} (hd : decode mi.2.1 pc = .ok (.idiv, 1)) (hn : pc + 1 = n) : q_Ok mi pc (oDiv n) := by
  intro G L R Z p e σ m args below meth c E B hB K hK l st M cs ss h H locs ls hl hH hS
  unfold oDiv at h
  split at h
  · subst hn; exact lv_idiv E.1 E.2.1 hd h.1 (hK _ _ _ _ _ _ h.2 H locs ls hl hH hS)
  · exact h.elim
def q_rem (x y : Int32) : Int32 := x - x / y * y
def oRem (n : Nat) : qP := fun l st M c s _ K => match st with
  | .int y :: .int x :: r => ¬ y = 0 ∧ K n l (.int (q_rem x y) :: r) M c s
  | _ => False
theorem ok_irem {mi : qMI} {pc n : Nat} (hd : decode mi.2.1 pc = .ok (.irem, 1)) (hn : pc + 1 = n) : q_Ok mi pc (oRem n) := by
  intro G L R Z p e σ m args below meth c E B hB K hK l st M cs ss h H locs ls hl hH hS
  unfold oRem at h
  split at h
  · subst hn; exact lv_irem E.1 E.2.1 hd h.1 (hK _ _ _ _ _ _ h.2 H locs ls hl hH hS)
  · exact h.elim
def oLmul (n : Nat) : qP := fun l st M c s _ K => match st with
  | .long y :: .long x :: r => K n l (.long (x * y) :: r) M c s
  | _ => False
theorem ok_lmul {mi : qMI} {pc n : Nat} (hd : decode mi.2.1 pc = .ok (.lmul, 1)) (hn : pc + 1 = n) : q_Ok mi pc (oLmul n) := by
  intro G L R Z p e σ m args below meth c E B hB K hK l st M cs ss h H locs ls hl hH hS
  unfold oLmul at h
  split at h
  · subst hn; exact lv_lmul E.1 E.2.1 hd (hK _ _ _ _ _ _ h H locs ls hl hH hS)
  · exact h.elim
def oLand (n : Nat) : qP := fun l st M c s _ K => match st with
  | .long y :: .long x :: r => K n l (.long (x &&& y) :: r) M c s
  | _ => False
theorem ok_land {mi : qMI} {pc n : Nat} (hd : decode mi.2.1 pc = .ok (.land, 1)) (hn : pc + 1 = n) : q_Ok mi pc (oLand n) := by
  intro G L R Z p e σ m args below meth c E B hB K hK l st M cs ss h H locs ls hl hH hS
  unfold oLand at h
  split at h
  · subst hn; exact lv_land E.1 E.2.1 hd (hK _ _ _ _ _ _ h H locs ls hl hH hS)
  · exact h.elim
def oLor (n : Nat) : qP := fun l st M c s _ K => match st with
  | .long y :: .long x :: r => K n l (.long (x ||| y) :: r) M c s
  | _ => False
theorem ok_lor {mi : qMI} {pc n : Nat} (hd : decode mi.2.1 pc = .ok (.lor, 1)) (hn : pc + 1 = n) : q_Ok mi pc (oLor n) := by
  intro G L R Z p e σ m args below meth c E B hB K hK l st M cs ss h H locs ls hl hH hS
  unfold oLor at h
  split at h
  · subst hn; exact lv_lor E.1 E.2.1 hd (hK _ _ _ _ _ _ h H locs ls hl hH hS)
  · exact h.elim
def oLshl (n : Nat) : qP := fun l st M c s _ K => match st with
  | .int y :: .long x :: r => K n l (.long (x <<< (y.toInt64 &&& 63)) :: r) M c s
  | _ => False
theorem ok_lshl {mi : qMI} {pc n : Nat} (hd : decode mi.2.1 pc = .ok (.lshl, 1)) (hn : pc + 1 = n) : q_Ok mi pc (oLshl n) := by
  intro G L R Z p e σ m args below meth c E B hB K hK l st M cs ss h H locs ls hl hH hS
  unfold oLshl at h
  split at h
  · subst hn; exact lv_lshl E.1 E.2.1 hd rfl (hK _ _ _ _ _ _ h H locs ls hl hH hS)
  · exact h.elim
def oLshr (n : Nat) : qP := fun l st M c s _ K => match st with
  | .int y :: .long x :: r => K n l (.long (x >>> (y.toInt64 &&& 63)) :: r) M c s
  | _ => False
theorem ok_lshr {mi : qMI} {pc n : Nat} (hd : decode mi.2.1 pc = .ok (.lshr, 1)) (hn : pc + 1 = n) : q_Ok mi pc (oLshr n) := by
  intro G L R Z p e σ m args below meth c E B hB K hK l st M cs ss h H locs ls hl hH hS
  unfold oLshr at h
  split at h
  · subst hn; exact lv_lshr E.1 E.2.1 hd rfl (hK _ _ _ _ _ _ h H locs ls hl hH hS)
  · exact h.elim
def oLushr (n : Nat) : qP := fun l st M c s _ K => match st with
  | .int y :: .long x :: r => K n l (.long ((x.toUInt64 >>> (y.toInt64.toUInt64 &&& Int64.toUInt64 63)).toInt64) :: r) M c s
  | _ => False
theorem ok_lushr {mi : qMI} {pc n : Nat} (hd : decode mi.2.1 pc = .ok (.lushr, 1)) (hn : pc + 1 = n) : q_Ok mi pc (oLushr n) := by
  intro G L R Z p e σ m args below meth c E B hB K hK l st M cs ss h H locs ls hl hH hS
  unfold oLushr at h
  split at h
  · subst hn; exact lv_lushr E.1 E.2.1 hd rfl (hK _ _ _ _ _ _ h H locs ls hl hH hS)
  · exact h.elim
def oLcmp (n : Nat) : qP := fun l st M c s _ K => match st with
  | .long y :: .long x :: r => K n l (.int (lg_cmp x y) :: r) M c s
  | _ => False
theorem ok_lcmp {mi : qMI} {pc n : Nat} (hd : decode mi.2.1 pc = .ok (.lcmp, 1)) (hn : pc + 1 = n) : q_Ok mi pc (oLcmp n) := by
  intro G L R Z p e σ m args below meth c E B hB K hK l st M cs ss h H locs ls hl hH hS
  unfold oLcmp at h
  split at h
  · subst hn; exact W.lcmp E.1 E.2.1 hd (hK _ _ _ _ _ _ h H locs ls hl hH hS)
  · exact h.elim
def oI2b (n : Nat) : qP := fun l st M c s _ K => match st with
  | .int x :: r => K n l (.int x.toInt8.toInt32 :: r) M c s
  | _ => False
theorem ok_i2b {mi : qMI} {pc n : Nat} (hd : decode mi.2.1 pc = .ok (.i2b, 1)) (hn : pc + 1 = n) : q_Ok mi pc (oI2b n) := by
  intro G L R Z p e σ m args below meth c E B hB K hK l st M cs ss h H locs ls hl hH hS
  unfold oI2b at h
  split at h
  · subst hn; exact lv_i2b E.1 E.2.1 hd rfl (hK _ _ _ _ _ _ h H locs ls hl hH hS)
  · exact h.elim
def oL2i (n : Nat) : qP := fun l st M c s _ K => match st with
  | .long x :: r => K n l (.int x.toInt32 :: r) M c s
  | _ => False
theorem ok_l2i {mi : qMI} {pc n : Nat} (hd : decode mi.2.1 pc = .ok (.l2i, 1)) (hn : pc + 1 = n) : q_Ok mi pc (oL2i n) := by
  intro G L R Z p e σ m args below meth c E B hB K hK l st M cs ss h H locs ls hl hH hS
  unfold oL2i at h
  split at h
  · subst hn; exact lv_l2i E.1 E.2.1 hd rfl (hK _ _ _ _ _ _ h H locs ls hl hH hS)
  · exact h.elim
def oIf1eq (t n : Nat) : qP := fun l st M c s _ K => match st with
  | .int x :: r => if x = 0 then K t l r M c s else K n l r M c s
  | _ => False
theorem ok_if1eq {mi : qMI} {pc t n : Nat} {k : Int} (hd : decode mi.2.1 pc = .ok (.ifCond .eq k, 3)) (ht : (pc : Int) + k = (t : Int)) (hn : pc + 3 = n) : q_Ok mi pc (oIf1eq t n) := by
  intro G L R Z p e σ m args below meth c E B hB K hK l st M cs ss h H locs ls hl hH hS
  unfold oIf1eq at h
  split at h
  · subst hn; exact lv_if_eq E.1 E.2.1 hd ht (fun g => hK _ _ _ _ _ _ (by rw [if_pos g] at h; exact h) H locs ls hl hH hS) (fun g => hK _ _ _ _ _ _ (by rw [if_neg g] at h; exact h) H locs ls hl hH hS)
  · exact h.elim
def oIf2eq (t n : Nat) : qP := fun l st M c s _ K => match st with
  | .int y :: .int x :: r => if x = y then K t l r M c s else K n l r M c s
  | _ => False
theorem ok_if2eq {mi : qMI} {pc t n : Nat} {k : Int} (hd : decode mi.2.1 pc = .ok (.if_icmp .eq k, 3)) (ht : (pc : Int) + k = (t : Int)) (hn : pc + 3 = n) : q_Ok mi pc (oIf2eq t n) := by
  intro G L R Z p e σ m args below meth c E B hB K hK l st M cs ss h H locs ls hl hH hS
  unfold oIf2eq at h
  split at h
  · subst hn; exact lv_icmp_eq E.1 E.2.1 hd ht (fun g => hK _ _ _ _ _ _ (by rw [if_pos g] at h; exact h) H locs ls hl hH hS) (fun g => hK _ _ _ _ _ _ (by rw [if_neg g] at h; exact h) H locs ls hl hH hS)
  · exact h.elim
def oIf1ne (t n : Nat) : qP := fun l st M c s _ K => match st with
  | .int x :: r => if x = 0 then K n l r M c s else K t l r M c s
  | _ => False
theorem ok_if1ne {mi : qMI} {pc t n : Nat} {k : Int} (hd : decode mi.2.1 pc = .ok (.ifCond .ne k, 3)) (ht : (pc : Int) + k = (t : Int)) (hn : pc + 3 = n) : q_Ok mi pc (oIf1ne t n) := by
  intro G L R Z p e σ m args below meth c E B hB K hK l st M cs ss h H locs ls hl hH hS
  unfold oIf1ne at h
  split at h
  · subst hn; exact lv_if_ne E.1 E.2.1 hd ht (fun g => hK _ _ _ _ _ _ (by rw [if_neg g] at h; exact h) H locs ls hl hH hS) (fun g => hK _ _ _ _ _ _ (by rw [if_pos g] at h; exact h) H locs ls hl hH hS)
  · exact h.elim
def oIf2ne (t n : Nat) : qP := fun l st M c s _ K => match st with
  | .int y :: .int x :: r => if x = y then K n l r M c s else K t l r M c s
  | _ => False
theorem ok_if2ne {mi : qMI} {pc t n : Nat} {k : Int} (hd : decode mi.2.1 pc = .ok (.if_icmp .ne k, 3)) (ht : (pc : Int) + k = (t : Int)) (hn : pc + 3 = n) : q_Ok mi pc (oIf2ne t n) := by
  intro G L R Z p e σ m args below meth c E B hB K hK l st M cs ss h H locs ls hl hH hS
  unfold oIf2ne at h
  split at h
  · subst hn; exact lv_icmp_ne E.1 E.2.1 hd ht (fun g => hK _ _ _ _ _ _ (by rw [if_neg g] at h; exact h) H locs ls hl hH hS) (fun g => hK _ _ _ _ _ _ (by rw [if_pos g] at h; exact h) H locs ls hl hH hS)
  · exact h.elim
def oIf1lt (t n : Nat) : qP := fun l st M c s _ K => match st with
  | .int x :: r => if x < 0 then K t l r M c s else K n l r M c s
  | _ => False
theorem ok_if1lt {mi : qMI} {pc t n : Nat} {k : Int} (hd : decode mi.2.1 pc = .ok (.ifCond .lt k, 3)) (ht : (pc : Int) + k = (t : Int)) (hn : pc + 3 = n) : q_Ok mi pc (oIf1lt t n) := by
  intro G L R Z p e σ m args below meth c E B hB K hK l st M cs ss h H locs ls hl hH hS
  unfold oIf1lt at h
  split at h
  · subst hn; exact lv_if_lt E.1 E.2.1 hd ht (fun g => hK _ _ _ _ _ _ (by rw [if_pos g] at h; exact h) H locs ls hl hH hS) (fun g => hK _ _ _ _ _ _ (by rw [if_neg g] at h; exact h) H locs ls hl hH hS)
  · exact h.elim
def oIf2lt (t n : Nat) : qP := fun l st M c s _ K => match st with
  | .int y :: .int x :: r => if x < y then K t l r M c s else K n l r M c s
  | _ => False
theorem ok_if2lt {mi : qMI} {pc t n : Nat} {k : Int} (hd : decode mi.2.1 pc = .ok (.if_icmp .lt k, 3)) (ht : (pc : Int) + k = (t : Int)) (hn : pc + 3 = n) : q_Ok mi pc (oIf2lt t n) := by
  intro G L R Z p e σ m args below meth c E B hB K hK l st M cs ss h H locs ls hl hH hS
  unfold oIf2lt at h
  split at h
  · subst hn; exact lv_icmp_lt E.1 E.2.1 hd ht (fun g => hK _ _ _ _ _ _ (by rw [if_pos g] at h; exact h) H locs ls hl hH hS) (fun g => hK _ _ _ _ _ _ (by rw [if_neg g] at h; exact h) H locs ls hl hH hS)
  · exact h.elim
def oIf1ge (t n : Nat) : qP := fun l st M c s _ K => match st with
  | .int x :: r => if 0 ≤ x then K t l r M c s else K n l r M c s
  | _ => False
theorem ok_if1ge {mi : qMI} {pc t n : Nat} {k : Int} (hd : decode mi.2.1 pc = .ok (.ifCond .ge k, 3)) (ht : (pc : Int) + k = (t : Int)) (hn : pc + 3 = n) : q_Ok mi pc (oIf1ge t n) := by
  intro G L R Z p e σ m args below meth c E B hB K hK l st M cs ss h H locs ls hl hH hS
  unfold oIf1ge at h
  split at h
  · subst hn; exact lv_if_ge E.1 E.2.1 hd ht (fun g => hK _ _ _ _ _ _ (by rw [if_pos g] at h; exact h) H locs ls hl hH hS) (fun g => hK _ _ _ _ _ _ (by rw [if_neg g] at h; exact h) H locs ls hl hH hS)
  · exact h.elim
def oIf2ge (t n : Nat) : qP := fun l st M c s _ K => match st with
  | .int y :: .int x :: r => if y ≤ x then K t l r M c s else K n l r M c s
  | _ => False
theorem ok_if2ge {mi : qMI} {pc t n : Nat} {k : Int} (hd : decode mi.2.1 pc = .ok (.if_icmp .ge k, 3)) (ht : (pc : Int) + k = (t : Int)) (hn : pc + 3 = n) : q_Ok mi pc (oIf2ge t n) := by
  intro G L R Z p e σ m args below meth c E B hB K hK l st M cs ss h H locs ls hl hH hS
  unfold oIf2ge at h
  split at h
  · subst hn; exact lv_icmp_ge E.1 E.2.1 hd ht (fun g => hK _ _ _ _ _ _ (by rw [if_pos g] at h; exact h) H locs ls hl hH hS) (fun g => hK _ _ _ _ _ _ (by rw [if_neg g] at h; exact h) H locs ls hl hH hS)
  · exact h.elim
def oIf1gt (t n : Nat) : qP := fun l st M c s _ K => match st with
  | .int x :: r => if 0 < x then K t l r M c s else K n l r M c s
  | _ => False
theorem ok_if1gt {mi : qMI} {pc t n : Nat} {k : Int} (hd : decode mi.2.1 pc = .ok (.ifCond .gt k, 3)) (ht : (pc : Int) + k = (t : Int)) (hn : pc + 3 = n) : q_Ok mi pc (oIf1gt t n) := by
  intro G L R Z p e σ m args below meth c E B hB K hK l st M cs ss h H locs ls hl hH hS
  unfold oIf1gt at h
  split at h
  · subst hn; exact lv_if_gt E.1 E.2.1 hd ht (fun g => hK _ _ _ _ _ _ (by rw [if_pos g] at h; exact h) H locs ls hl hH hS) (fun g => hK _ _ _ _ _ _ (by rw [if_neg g] at h; exact h) H locs ls hl hH hS)
  · exact h.elim
def oIf2gt (t n : Nat) : qP := fun l st M c s _ K => match st with
  | .int y :: .int x :: r => if y < x then K t l r M c s else K n l r M c s
  | _ => False
theorem ok_if2gt {mi : qMI} {pc t n : Nat} {k : Int} (hd : decode mi.2.1 pc = .ok (.if_icmp .gt k, 3)) (ht : (pc : Int) + k = (t : Int)) (hn : pc + 3 = n) : q_Ok mi pc (oIf2gt t n) := by
  intro G L R Z p e σ m args below meth c E B hB K hK l st M cs ss h H locs ls hl hH hS
  unfold oIf2gt at h
  split at h
  · subst hn; exact lv_icmp_gt E.1 E.2.1 hd ht (fun g => hK _ _ _ _ _ _ (by rw [if_pos g] at h; exact h) H locs ls hl hH hS) (fun g => hK _ _ _ _ _ _ (by rw [if_neg g] at h; exact h) H locs ls hl hH hS)
  · exact h.elim
def oIf1le (t n : Nat) : qP := fun l st M c s _ K => match st with
  | .int x :: r => if x ≤ 0 then K t l r M c s else K n l r M c s
  | _ => False
theorem ok_if1le {mi : qMI} {pc t n : Nat} {k : Int} (hd : decode mi.2.1 pc = .ok (.ifCond .le k, 3)) (ht : (pc : Int) + k = (t : Int)) (hn : pc + 3 = n) : q_Ok mi pc (oIf1le t n) := by
  intro G L R Z p e σ m args below meth c E B hB K hK l st M cs ss h H locs ls hl hH hS
  unfold oIf1le at h
  split at h
  · subst hn; exact lv_if_le E.1 E.2.1 hd ht (fun g => hK _ _ _ _ _ _ (by rw [if_pos g] at h; exact h) H locs ls hl hH hS) (fun g => hK _ _ _ _ _ _ (by rw [if_neg g] at h; exact h) H locs ls hl hH hS)
  · exact h.elim
def oIf2le (t n : Nat) : qP := fun l st M c s _ K => match st with
  | .int y :: .int x :: r => if x ≤ y then K t l r M c s else K n l r M c s
  | _ => False
theorem ok_if2le {mi : qMI} {pc t n : Nat} {k : Int} (hd : decode mi.2.1 pc = .ok (.if_icmp .le k, 3)) (ht : (pc : Int) + k = (t : Int)) (hn : pc + 3 = n) : q_Ok mi pc (oIf2le t n) := by
  intro G L R Z p e σ m args below meth c E B hB K hK l st M cs ss h H locs ls hl hH hS
  unfold oIf2le at h
  split at h
  · subst hn; exact lv_icmp_le E.1 E.2.1 hd ht (fun g => hK _ _ _ _ _ _ (by rw [if_pos g] at h; exact h) H locs ls hl hH hS) (fun g => hK _ _ _ _ _ _ (by rw [if_neg g] at h; exact h) H locs ls hl hH hS)
  · exact h.elim
def oGo (t : Nat) : qP := fun l st M c s _ K => K t l st M c s
theorem ok_goto {mi : qMI} {pc t : Nat} {k : Int} (hd : decode mi.2.1 pc = .ok (.goto k, 3)) (ht : (pc : Int) + k = (t : Int)) : q_Ok mi pc (oGo t) := by
  intro G L R Z p e σ m args below meth c E B hB K hK l st M cs ss h H locs ls hl hH hS
  exact lv_goto E.1 E.2.1 hd ht (hK _ _ _ _ _ _ h H locs ls hl hH hS)
def oIfn (t n : Nat) : qP := fun l st M c s _ K => match st with
  | .null :: r => K t l r M c s
  | .ref _ :: r => K n l r M c s
  | _ => False
theorem ok_ifnull {mi : qMI} {pc t n : Nat} {k : Int} (hd : decode mi.2.1 pc = .ok (.ifnull k, 3)) (ht : (pc : Int) + k = (t : Int)) (hn : pc + 3 = n) : q_Ok mi pc (oIfn t n) := by
  intro G L R Z p e σ m args below meth c E B hB K hK l st M cs ss h H locs ls hl hH hS
  unfold oIfn at h
  split at h
  · exact lv_ifnullN E.1 E.2.1 hd ht (hK _ _ _ _ _ _ h H locs ls hl hH hS)
  · subst hn; exact lv_ifnull E.1 E.2.1 hd (hK _ _ _ _ _ _ h H locs ls hl hH hS)
  · exact h.elim
def oIfnn (t n : Nat) : qP := fun l st M c s _ K => match st with
  | .null :: r => K n l r M c s
  | .ref _ :: r => K t l r M c s
  | _ => False
theorem ok_ifnonnull {mi : qMI} {pc t n : Nat} {k : Int} (hd : decode mi.2.1 pc = .ok (.ifnonnull k, 3)) (ht : (pc : Int) + k = (t : Int)) (hn : pc + 3 = n) : q_Ok mi pc (oIfnn t n) := by
  intro G L R Z p e σ m args below meth c E B hB K hK l st M cs ss h H locs ls hl hH hS
  unfold oIfnn at h
  split at h
  · subst hn; exact lv_ifnonnullN E.1 E.2.1 hd (hK _ _ _ _ _ _ h H locs ls hl hH hS)
  · exact lv_ifnonnull E.1 E.2.1 hd ht (hK _ _ _ _ _ _ h H locs ls hl hH hS)
  · exact h.elim
def q_tab (x : Int32) (F : Nat → Prop) : Nat → List Nat → Nat → Prop
  | _, [], d => F d
  | k, t :: ts, d => if x = nI k then F t else q_tab x F (k + 1) ts d
def oTab (lo : Nat) (ts : List Nat) (d : Nat) : qP := fun l st M c s _ K => match st with
  | .int x :: r => q_tab x (fun t => K t l r M c s) lo ts d
  | _ => False
def q_look (x : Int32) (F : Nat → Prop) : List (Nat × Nat) → Nat → Prop
  | [], d => F d
  | q :: ts, d => if x = nI q.1 then F q.2 else q_look x F ts d
def oLook (ts : List (Nat × Nat)) (d : Nat) : qP := fun l st M c s _ K => match st with
  | .int x :: r => q_look x (fun t => K t l r M c s) ts d
  | _ => False
