/-! the law from its entry -/
theorem va_ne {args : Array Value} {s : State} {t1 t2 : Term} {a : Nat} (h : (Cond.not (Cond.eq t1 t2)).before args s = true) (h1 : t1.eval args s none [] s = some (.ref a)) (h2 : t2.eval args s none [] s = some (.ref a)) : False := by
  simp [Cond.before, Cond.holds, Cond.value, h1, h2] at h
theorem va_X.t {b L : Nat} {xs : Nat → Int32} {s : State} {H : Heap} {A : Nat → Prop} (h : va_X b L xs s H) (hA : ¬ A b) : va_T .int b L (fun j => .int (xs j)) A s H := by
  obtain ⟨scr, h1, h2, h3, h4, h5⟩ := h
  exact ⟨scr, h1, h2, h3, Nat.le_of_eq h4.symm, by rw [h4] <;> rfl, h5, hA⟩
theorem q_nest_t {w : Cond} (h : q_nest w = true) : w.onTables = true := by
  cases w <;> first | rfl | cases h
def l_f {α : Type} (f0 f1 f2 f3 f4 f5 f6 f7 f8 f9 f10 f11 f12 : α) : Nat → α
  | 0 => f0
  | 1 => f1
  | 2 => f2
  | 3 => f3
  | 4 => f4
  | 5 => f5
  | 6 => f6
  | 7 => f7
  | 8 => f8
  | 9 => f9
  | 10 => f10
  | 11 => f11
  | _ => f12
def l_a (a1 a2 a3 a4 a5 : ClassId) : Nat → ClassId
  | 1 => a1
  | 2 => a2
  | 3 => a3
  | 4 => a4
  | _ => a5
def l_M (n ow pw b L : Nat) (xs : Nat → Int32) : qM := (n, fun a => if a = ow then some q_roO else if a = pw then some q_roW else if a = b then some (.inl (6, L, .inl xs)) else none)
theorem l_H {G : qC} (h1 : G.2.2.2.1 < G.2.2.1.size) (h2 : G.2.2.2.2.1 < G.2.2.1.size) (h3 : G.2.2.2.2.2.1 < G.2.2.1.size) (n1 : G.2.2.2.2.1 ≠ G.2.2.2.1) (n2 : G.2.2.2.2.2.1 ≠ G.2.2.2.1) (n3 : G.2.2.2.2.2.1 ≠ G.2.2.2.2.1) : q_H G (l_M G.2.2.1.size G.2.2.2.1 G.2.2.2.2.1 G.2.2.2.2.2.1 G.2.2.2.2.2.2.1 G.2.2.2.2.2.2.2) G.2.2.1 := by
  have key : ∀ a e, (l_M G.2.2.1.size G.2.2.2.1 G.2.2.2.2.1 G.2.2.2.2.2.1 G.2.2.2.2.2.2.1 G.2.2.2.2.2.2.2).2 a = some e → (a = G.2.2.2.1 ∧ e = q_roO) ∨ (a = G.2.2.2.2.1 ∧ e = q_roW) ∨ (a = G.2.2.2.2.2.1 ∧ e = q_roS G) := fun a e h => by
    have h : (if a = G.2.2.2.1 then some q_roO else if a = G.2.2.2.2.1 then some q_roW else if a = G.2.2.2.2.2.1 then some (q_roS G) else none) = some e := h
    by_cases c1 : a = G.2.2.2.1
    · rw [if_pos c1] at h
      cases h
      exact Or.inl ⟨c1, rfl⟩
    · rw [if_neg c1] at h
      by_cases c2 : a = G.2.2.2.2.1
      · rw [if_pos c2] at h
        cases h
        exact Or.inr (Or.inl ⟨c2, rfl⟩)
      · rw [if_neg c2] at h
        by_cases c3 : a = G.2.2.2.2.2.1
        · rw [if_pos c3] at h
          cases h
          exact Or.inr (Or.inr ⟨c3, rfl⟩)
        · rw [if_neg c3] at h
          cases h
  refine ⟨rfl, ⟨Nat.le_refl _, fun q _ => rfl⟩, ⟨h1, h2, h3⟩, ⟨if_pos rfl, (if_neg n1).trans (if_pos rfl), (if_neg n2).trans ((if_neg n3).trans (if_pos rfl))⟩, fun a x h => ?_, fun a t x h ht => ?_, fun a y h => ?_⟩
  · rcases key a _ h with ⟨e1, e2⟩ | ⟨e1, e2⟩ | ⟨e1, e2⟩
    · cases e2; exact Or.inl ⟨e1, rfl⟩
    · cases e2; exact Or.inr (Or.inl ⟨e1, rfl⟩)
    · cases e2; exact Or.inr (Or.inr ⟨e1, rfl⟩)
  · rcases key a _ h with ⟨e1, e2⟩ | ⟨e1, e2⟩ | ⟨e1, e2⟩ <;> (cases e2; exact absurd rfl ht)
  · rcases key a _ h with ⟨e1, e2⟩ | ⟨e1, e2⟩ | ⟨e1, e2⟩ <;> cases e2
set_option maxRecDepth 100000 in
set_option maxHeartbeats 8000000 in
theorem whole_start {p : Program} {e : Env} {s : State} {m : MethodId} {below : List Frame} {meth : Method} {c : Code} (l : Launch) {b L : Nat} {xs : Nat → Int32} (hL : L ≤ 2560) (hname : meth.name = x.name) (C0 : lw_At p s m meth c b L xs) : W p l e room_1 s m #[Value.ref b] below meth c s.heap [] 0 0 (lw_Z below #[Value.ref b] s) (entryFrame m ([Value.ref b] : List Value).toArray 4) := by
  obtain ⟨hx, hb, hr, hml, hown, hts, hX, hbl, hlocks, hgv⟩ := C0
  have hgw : ∀ w ∈ q_gw, w.before #[Value.ref b] s = true := fun w hw => hts w (List.mem_filter.mp hw).1
  have hpre := flat_of_before _ hgv
  have hnA : ∀ a : Nat, a < s.heap.size → ¬ (fun q : Nat => s.heap.size ≤ q) a := fun a h1 h2 => absurd h1 (Nat.not_lt.mpr h2)
  obtain ⟨ow, hov, hoT⟩ := va_Tof (tm := .static "ShownPatterns" "OWN_COST" "[I") (ty := .int) (N := 6) (f := fun j => .int (q_own j)) (by decide) (hpre _ (by decide +kernel)) (va_eqt (hpre _ (by decide +kernel))) (fun j hj => by
    rcases (show j = 0 ∨ j = 1 ∨ j = 2 ∨ j = 3 ∨ j = 4 ∨ j = 5 by omega) with rfl | rfl | rfl | rfl | rfl | rfl
    all_goals exact va_eqt (hpre _ (by decide +kernel))) hnA
  obtain ⟨pw, hpv, hpT⟩ := va_Tof (tm := .static "ShownPatterns" "POWERS" "[I") (ty := .int) (N := 13) (f := fun j => .int (q_pow j)) (by decide) (hpre _ (by decide +kernel)) (va_eqt (hpre _ (by decide +kernel))) (fun j hj => by
    rcases (show j = 0 ∨ j = 1 ∨ j = 2 ∨ j = 3 ∨ j = 4 ∨ j = 5 ∨ j = 6 ∨ j = 7 ∨ j = 8 ∨ j = 9 ∨ j = 10 ∨ j = 11 ∨ j = 12 by omega) with rfl | rfl | rfl | rfl | rfl | rfl | rfl | rfl | rfl | rfl | rfl | rfl | rfl
    all_goals exact va_eqt (hpre _ (by decide +kernel))) hnA
  have hZo := va_Zref (hts (.laysStatic "ShownPatterns" "OWN_COST" "[I") (by decide +kernel)) (hgw _ g1) hov hnA
  have hZp := va_Zref (hts (.laysStatic "ShownPatterns" "POWERS" "[I") (by decide +kernel)) (hgw _ g1) hpv hnA
  have n2 : b ≠ ow := fun g => va_ne (t1 := .arg 0) (t2 := .static "ShownPatterns" "OWN_COST" "[I") (a := b) (hpre _ (by decide +kernel)) rfl (by rw [hov, g])
  have n3 : b ≠ pw := fun g => va_ne (t1 := .arg 0) (t2 := .static "ShownPatterns" "POWERS" "[I") (a := b) (hpre _ (by decide +kernel)) rfl (by rw [hpv, g])
  have n1 : pw ≠ ow := fun g => by
    subst g
    obtain ⟨c1, a1, -, -, -, a2, -⟩ := hoT
    obtain ⟨c2, b1, -, -, -, b2, -⟩ := hpT
    rw [a1] at b1
    cases b1
    rw [a2] at b2
    exact absurd b2 (by decide)
  have hol : ow < s.heap.size := by
    obtain ⟨c1, a1, -⟩ := hoT
    exact (Array.getElem?_eq_some_iff.mp a1).1
  have hpl : pw < s.heap.size := by
    obtain ⟨c1, a1, -⟩ := hpT
    exact (Array.getElem?_eq_some_iff.mp a1).1
  have hxT := va_X.t (A := fun q : Nat => s.heap.size ≤ q) hX (hnA b hbl)
  obtain ⟨c0, i0, k0⟩ := u_known (C := RX0) (T := TX0) (N := 9) (n := 9) hgw inX0 (hgw _ g93)
  obtain ⟨c1, i1, k1⟩ := u_known (C := RX1) (T := TX1) (N := 5) (n := 5) hgw inX1 (hgw _ g392)
  obtain ⟨c2, i2, k2⟩ := u_known (C := RX2) (T := TX2) (N := 17) (n := 17) hgw inX2 (hgw _ g731)
  obtain ⟨c3, i3, k3⟩ := u_known (C := RX3) (T := TX3) (N := 6) (n := 6) hgw inX3 (hgw _ g737)
  obtain ⟨c4, i4, k4⟩ := u_known (C := RX4) (T := TX4) (N := 4) (n := 4) hgw inX4 (hgw _ g35)
  obtain ⟨c5, i5, k5⟩ := u_known (C := RX5) (T := TX5) (N := 3) (n := 3) hgw inX5 (hgw _ g574)
  obtain ⟨c6, i6, k6⟩ := u_known (C := RX6) (T := TX6) (N := 7) (n := 7) hgw inX6 (hgw _ g29)
  obtain ⟨c7, i7, k7⟩ := u_known (C := RX7) (T := TX7) (N := 6) (n := 6) hgw inX7 (hgw _ g153)
  obtain ⟨c8, i8, k8⟩ := u_known (C := RX8) (T := TX8) (N := 2) (n := 2) hgw inX8 (hgw _ g138)
  obtain ⟨c9, i9, k9⟩ := u_known (C := RX9) (T := TX9) (N := 1) (n := 1) hgw inX9 (hgw _ g128)
  obtain ⟨c10, i10, k10⟩ := u_known (C := RX10) (T := TX10) (N := 2) (n := 2) hgw inX10 (hgw _ g80)
  obtain ⟨c11, i11, k11⟩ := u_known (C := RX11) (T := TX11) (N := 11) (n := 11) hgw inX11 (hgw _ g19)
  obtain ⟨c12, i12, k12⟩ := u_known (C := RX12) (T := TX12) (N := 58) (n := 58) hgw inX12 (hgw _ g999)
  obtain ⟨a1, kA1, m1, p1, q1, r1⟩ := Cond.arrayClass_spec (hgw _ g56)
  obtain ⟨a2, kA2, m2, p2, q2, r2⟩ := Cond.arrayClass_spec (hgw _ g151)
  obtain ⟨a3, kA3, m3, p3, q3, r3⟩ := Cond.arrayClass_spec (hgw _ g126)
  obtain ⟨a4, kA4, m4, p4, q4, r4⟩ := Cond.arrayClass_spec (hgw _ g1179)
  have hAO : va_AO "ShownPatterns$Nodes" s := va_AO.of (hts (.arrayOver (.object "ShownPatterns$Nodes")) (by decide +kernel))
  obtain ⟨m5, a5, kA5, s5, -, q5, r5, p5⟩ := Cond.arrayOver_spec hAO
  have hKc : va_K (l_f c0 c1 c2 c3 c4 c5 c6 c7 c8 c9 c10 c11 c12, l_f i0 i1 i2 i3 i4 i5 i6 i7 i8 i9 i10 i11 i12) vwCl [(a1, .int), (a2, .long), (a3, .boolean), (a4, .byte), (a5, .object "ShownPatterns$Nodes")] s := by
    refine ⟨fun k q hq => ?_, fun k q hq => ?_⟩
    · match k, hq with
      | 0, hq => cases hq; exact k0
      | 1, hq => cases hq; exact k1
      | 2, hq => cases hq; exact k2
      | 3, hq => cases hq; exact k3
      | 4, hq => cases hq; exact k4
      | 5, hq => cases hq; exact k5
      | 6, hq => cases hq; exact k6
      | 7, hq => cases hq; exact k7
      | 8, hq => cases hq; exact k8
      | 9, hq => cases hq; exact k9
      | 10, hq => cases hq; exact k10
      | 11, hq => cases hq; exact k11
      | 12, hq => cases hq; exact k12
      | k + 13, hq => simp [vwCl] at hq
    · match k, hq with
      | 0, hq => cases hq; exact ⟨fun n z => ⟨fun k h => (by cases h), kA1, q1, m1, r1⟩, p1⟩
      | 1, hq => cases hq; exact ⟨fun n z => ⟨fun k h => (by cases h), kA2, q2, m2, r2⟩, p2⟩
      | 2, hq => cases hq; exact ⟨fun n z => ⟨fun k h => (by cases h), kA3, q3, m3, r3⟩, p3⟩
      | 3, hq => cases hq; exact ⟨fun n z => ⟨fun k h => (by cases h), kA4, q4, m4, r4⟩, p4⟩
      | 4, hq => cases hq; exact ⟨fun n z => ⟨fun k h => (by cases h), kA5, q5, m5, r5⟩, kA5, m5, q5, r5, s5, p5⟩
      | k + 5, hq => simp at hq
  have hK : q_K ((l_f c0 c1 c2 c3 c4 c5 c6 c7 c8 c9 c10 c11 c12, l_f i0 i1 i2 i3 i4 i5 i6 i7 i8 i9 i10 i11 i12), l_a a1 a2 a3 a4 a5, s.heap, ow, pw, b, L, xs) s := ⟨hKc, fun w hw hn => va_Nw.of (q_nest_t hn) (hts w hw), hAO, hZo, hoT, hZp, hpT, hxT⟩
  have hH := l_H (G := ((l_f c0 c1 c2 c3 c4 c5 c6 c7 c8 c9 c10 c11 c12, l_f i0 i1 i2 i3 i4 i5 i6 i7 i8 i9 i10 i11 i12), l_a a1 a2 a3 a4 a5, s.heap, ow, pw, b, L, xs)) hol hpl hbl n1 n2 n3
  have hl := lv_entry ([.ref b]) (n := 4) (Nat.le_of_ble_eq_true rfl)
  rw [lg_entry_eq]
  exact l_start (G := ((l_f c0 c1 c2 c3 c4 c5 c6 c7 c8 c9 c10 c11 c12, l_f i0 i1 i2 i3 i4 i5 i6 i7 i8 i9 i10 i11 i12), l_a a1 a2 a3 a4 a5, s.heap, ow, pw, b, L, xs)) (L := l) hL p e s m below meth c ⟨hx, hb, hml, hown, hgw, hr, hlocks, hname, hK, hH.2.1⟩ rfl s.heap [] _ hl hH va_S.rf
