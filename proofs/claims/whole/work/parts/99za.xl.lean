def R_law : String := "ShownPatternsLaw"
def lw_P (b : Addr) (xs : List Int32) (args : Array Value) (s : State) : Prop := args = #[.ref b] ∧ s.IntsAt b xs ∧ xs.length ≤ 2560 ∧ (Jvm.Cond.and given_1 narrow_1).before args s = true
def lw_Q (_ : Array Value) (s : State) (o : Outcome) (t : State) : Prop := o = .returned (some (.int 1)) ∧ Framed s o t [] 600000 7302250
def lw_Z (below : List Frame) (a : Array Value) (s : State) : State → Prop := fun t => ∃ o, t.status = .running ∧ Ended t below o ∧ lw_Q a s o t
/-- the law's own end, with 1 on the stack, nothing written that was there before, its room as the claim has it -/
theorem lw_ret {p : Program} {l : Launch} {e : Env} {s : State} {m : MethodId} {below : List Frame} {meth : Method} {c : Code} {b : Nat} (hx : p.tables.exec = Jvm.exec) (hb : c.code = code) (hr : meth.sig.returnType = ret) (hlocks : meth.locks = false) {pc : Nat} {H : Heap} {ls : Array Slot} (hdg : decode code pc = .ok (.ireturn, 1)) : W p l e room_1 s m #[Value.ref b] below meth c H [] 600000 7302250 (lw_Z below #[Value.ref b] s) (F0 m pc ls [.int 1]) := by
  intro T hT X
  obtain ⟨fs, hret, hrun, hended, hW, hframe⟩ := X.leave (v := some (.int 1)) (hlocks := hlocks) (fun h => by rw [hr] at h; cases h)
  have hmeth' : T.vm.method? m = some meth := X.method'
  refine ⟨T.setFrames fs, ?_, .returned (some (.int 1)), hrun, hended, rfl, ⟨_, rfl⟩, hW, hframe⟩
  jvm_step X.here [X.here.top, hx, hb, hdg, hmeth', hr, ret, narrow_b1]
  (try refine ⟨rfl, ?_⟩); (try refine ⟨rfl, ?_⟩)
  first | (intro acts; rw [hret _ acts rfl rfl rfl]) | rw [hret _ _ rfl rfl rfl]
  exact Steps.refl _
/-- what holds at the law's entry: the machine, the code, the tables' words (any of lw_tbl by 'hts w (by decide +kernel)'), the script of L ints xs at the cell b, what the Statement gives of the start (any of its parts by flat_of_before) -/
def lw_At (p : Program) (s : State) (m : MethodId) (meth : Method) (c : Code) (b L : Nat) (xs : Nat → Int32) : Prop :=
  p.tables.exec = Jvm.exec ∧ c.code = code ∧ meth.sig.returnType = ret ∧ c.maxLocals = 4 ∧ s.vm.findClass R_law = some m.cls ∧ (∀ w ∈ lw_tbl, w.before #[Value.ref b] s = true) ∧ va_X b L xs s s.heap ∧ b < s.heap.size ∧ meth.locks = false ∧ (Jvm.Cond.and given_1 narrow_1).before #[Value.ref b] s = true
/-! the law's own walk over the memory -/
def q_XL (G : qC) (L : Launch) : qKt := fun pc l st M cs ss =>
  ∀ (p : Program) (e : Env) (σ : State) (m : MethodId) (below : List Frame) (meth : Method) (c : Code), q_Ev G mL_law p σ m #[Value.ref G.2.2.2.2.2.1] meth c → σ.heap = G.2.2.1 → q_Y G L room_1 mL_law (lw_Z below #[Value.ref G.2.2.2.2.2.1] σ) p e σ m #[Value.ref G.2.2.2.2.2.1] below meth c pc l st M cs ss
def q_bl (G : qC) (L : Launch) : qB :=
  (q_XL G L, fun y mc' ms' As M Q' => q_wd As ≤ y.2.2.1 ∧ q_Call G L 2040 y mc' ms' As M Q', fun r _ cs ss => cs ≤ 600000 ∧ ss ≤ 7302250 ∧ r = some (.int 1), 2041, 600000, 7302250, G.2.2.2.1, G.2.2.2.2.1)
theorem q_bl_ok {G : qC} {L : Launch} {p : Program} {e : Env} {σ : State} {m : MethodId} {below : List Frame} {meth : Method} {c : Code} (E : q_Ev G mL_law p σ m #[Value.ref G.2.2.2.2.2.1] meth c) (hσ : σ.heap = G.2.2.1) : q_BOk G L room_1 mL_law (lw_Z below #[Value.ref G.2.2.2.2.2.1] σ) p e σ m #[Value.ref G.2.2.2.2.2.1] below meth c (q_bl G L) := by
  refine ⟨fun pc l st M cs ss h => h p e σ m below meth c E hσ, fun y mc' ms' As M Q' hpl h => ⟨2040, by decide, by decide, h.2.met hpl h.1⟩, ?_, ⟨(by show (2041 : Nat) ≤ 2048; decide), (by show (40 * 2041 : Nat) ≤ 84000; decide)⟩, Nat.le_refl _, Nat.le_refl _, rfl, rfl⟩
  intro pc l st r M cs ss hR hk H locs ls hl hH hS
  obtain ⟨h1, h2, rfl⟩ := hR
  have hlocks : meth.locks = false := E.2.2.2.2.2.2.1
  refine va_forget (fun q hq => by rw [hσ]; exact hS.2.2 q hq) ?_
  refine W.widen (k := 600000) (n := 7302250) h1 h2 ?_
  rcases hk with ⟨v, ty, e1, rfl, g1, g2, g3⟩ | ⟨v, e1, -⟩ | ⟨v, n, e1, rfl, g1, g2, g3⟩ | ⟨e1, -⟩
  · cases e1
    exact lw_ret E.1 E.2.1 E.2.2.2.2.2.1 hlocks g3
  · cases e1
  · rcases g2 with g2 | ⟨a, g2⟩ <;> (subst g2; cases e1)
  · cases e1
theorem q_XL.run {G : qC} {L : Launch} {t : Nat → qP} (hs : q_Snd mL_law t) (ps : List Nat) (n : Nat) {pc : Nat} {l : qLv} {st : List Value} {M : qM} {cs ss : Nat} (h : q_run t ps (q_bl G L) n pc l st M cs ss) : q_XL G L pc l st M cs ss :=
  fun _ _ _ _ _ _ _ E hσ => q_run_Y hs ps E (q_bl_ok E hσ) n pc l st M cs ss h
theorem q_XL.lv2 {G : qC} {L : Launch} {pc : Nat} {l : qLv} {st : List Value} {M : qM} {cs ss : Nat} (l' : qLv) (hl : q_sub l' l) (h : q_XL G L pc l' st M cs ss) : q_XL G L pc l st M cs ss :=
  fun p e σ m below meth c E hσ H locs ls g1 g2 g3 => h p e σ m below meth c E hσ H locs ls ⟨g1.1, g1.2.1, fun q hq => q_lg_at g1 (q_sub_all hl q hq)⟩ g2 g3
theorem q_XL.mem {G : qC} {L : Launch} {pc : Nat} {l : qLv} {st : List Value} {M : qM} {cs ss : Nat} (h : (M.2 G.2.2.2.1 = some q_roO ∧ M.2 G.2.2.2.2.1 = some q_roW ∧ M.2 G.2.2.2.2.2.1 = some (q_roS G)) → (∀ a e, M.2 a = some e → a < M.1) → q_XL G L pc l st M cs ss) : q_XL G L pc l st M cs ss :=
  fun p e σ m below meth c E hσ H locs ls g1 g2 g3 => h g2.2.2.2.1 (fun _ _ ha => g2.lt ha) p e σ m below meth c E hσ H locs ls g1 g2 g3
theorem q_bl_1 (G : qC) (L : Launch) : (q_bl G L).1 = q_XL G L := Eq.trans rfl rfl
theorem q_bl_2 (G : qC) (L : Launch) (y : qMI) (mc' ms' : Nat) (As : List Value) (M : qM) (Q' : Option Value → qM → Prop) : (q_bl G L).2.1 y mc' ms' As M Q' = (q_wd As ≤ y.2.2.1 ∧ q_Call G L 2040 y mc' ms' As M Q') := Eq.trans rfl rfl
theorem q_bl_3 (G : qC) (L : Launch) (r : Option Value) (M : qM) (cs ss : Nat) : (q_bl G L).2.2.1 r M cs ss = (cs ≤ 600000 ∧ ss ≤ 7302250 ∧ r = some (.int 1)) := Eq.trans rfl rfl
theorem q_bl_4 (G : qC) (L : Launch) : (q_bl G L).2.2.2.1 = 2041 := Eq.trans rfl rfl
theorem q_bl_5 (G : qC) (L : Launch) : (q_bl G L).2.2.2.2.1 = 600000 := Eq.trans rfl rfl
theorem q_bl_6 (G : qC) (L : Launch) : (q_bl G L).2.2.2.2.2.1 = 7302250 := Eq.trans rfl rfl
theorem q_bl_7 (G : qC) (L : Launch) : (q_bl G L).2.2.2.2.2.2.1 = G.2.2.2.1 := Eq.trans rfl rfl
theorem q_bl_8 (G : qC) (L : Launch) : (q_bl G L).2.2.2.2.2.2.2 = G.2.2.2.2.1 := Eq.trans rfl rfl
