/-! calls -/
theorem q_blind {G : qC} {M : qM} {As : List Value} : FrameBlind (va_Pc As (q_Pc G M)) := by
  intro a U g mk q
  obtain ⟨q0, qK, qH⟩ := q
  obtain ⟨h1, h2, h3, h4, h5, h6, h7, h8⟩ := qK
  have al : U.vm.Alike (U.calling g mk a).vm := Vm.Alike.refl U.vm
  have h2' : ∀ w ∈ lw_tbl, q_nest w = true → va_Nw w (U.calling g mk a) := by
    intro w hw hn
    cases w <;> first | exact va_Nw.same rfl rfl (h2 _ hw hn) | cases hn
  exact ⟨q0, ⟨va_K.moved al h1, h2', va_AO.moved al h3, va_Z.moved al h4, va_T.moved al h5, va_Z.moved al h6, va_T.moved al h7, va_T.moved al h8⟩, qH⟩
theorem q_pre {G : qC} {M : qM} {As : List Value} {σ : State} {H : Heap} (hK : q_K G σ) (hH : q_H G M H) : ∀ U : State, U.heap = H → σ.WarmedH U.vm → va_Pc As (q_Pc G M) As.toArray U := fun U hU hW => ⟨rfl, hK.warm hW, by rw [hU]; exact hH⟩
/-- behind a call -/
theorem q_back {G : qC} {L : Launch} {R : Room} {mi : qMI} {Z : State → Prop} {p : Program} {e : Env} {σ : State} {m : MethodId} {args : Array Value} {below : List Frame} {meth : Method} {c : Code} (E : q_Ev G mi p σ m args meth c) {H : Heap} {locs : List Loc} {ls : Array Slot} {cs ss mc ms pc : Nat} {l : qLv} {st r : List Value} {a : Array Value} {Q : Option Value → qM → Prop}
    (hr : va_Run p L e R σ m args below meth c H locs cs ss mc ms (F0 m pc ls st) r (q_Q G Q a) (q_A G)) (hl : lv_has ls mi.2.2.1 l) (hS : va_S (q_A G) σ.heap H locs)
    (kk : ∀ (v : Option Value) (M' : qM), Q v M' → q_Y G L R mi Z p e σ m args below meth c (pc + 3) l (v.toList ++ r) M' (cs + mc) (ss + ms)) : W p L e R σ m args below meth c H locs cs ss Z (F0 m pc ls st) := by
  intro T hT Xs
  obtain ⟨v, st₀, t, T', LL, h0, X', hL, e1, e2, ⟨r', M', hv, hQ, hH', hz⟩, stp⟩ := hr T hT Xs
  cases hv
  obtain ⟨t2, a1, b1⟩ := kk v M' hQ T'.heap (locs ++ LL) ls hl (by rw [e1]; exact hH') ⟨Nat.le_trans hS.1 (by rw [e1, ← h0]; exact hz), fun q g1 g2 => by
      have hq : q < G.2.2.1.size := Nat.not_le.mp g2
      rw [e1, hH'.2.1.2 q hq]
      exact (E.2.2.2.2.2.2.2.2.2.2 q hq).symm, fun q hq => by
      rcases List.mem_append.mp hq with h | h
      · exact hS.2.2 q h
      · exact hL q h⟩ T' rfl X'
  exact ⟨t2, stp t2 a1, b1⟩
theorem q_good {mi : qMI} (hcode : Cond.code mi.1 mi.2.1 mi.2.2.1 mi.2.2.2 ∈ q_gw) : GoodIn q_gw (q_ws mi) := by
  intro w hw
  have h : w ∈ q_gw := (List.mem_cons.mp hw).elim (fun e => e ▸ hcode) id
  exact ⟨h, good_of_word (List.mem_filter.mp h).2⟩
theorem q_room {R : Room} {d mc ms maxL : Nat} (h1 : d + 1 ≤ R.frames) (h2 : 40 * (d + 1) ≤ R.locals) (hm : maxL ≤ 20) : (q_rm d mc ms).frames + 1 ≤ R.frames ∧ 8 + (maxL + 11) + (q_rm d mc ms).locals ≤ R.locals := ⟨h1, by show 8 + (maxL + 11) + 40 * d ≤ R.locals; omega⟩
def oCallS (y : qMI) (na n : Nat) : qP := fun l st M c s B _ => match q_pop na [] st with
  | some (As, r) => q_wd r ≤ 8 ∧ c ≤ B.2.2.2.2.1 ∧ s ≤ B.2.2.2.2.2.1 ∧ B.2.1 y 0 0 As M (fun v M' => B.1 n l (v.toList ++ r) M' c s)
  | none => False
def oCallV (ci : Nat) (y : qMI) (na n : Nat) : qP := fun l st M c s B _ => match q_pop na [] st with
  | some (As, .ref b :: r) => (match M.2 b with
    | some (.inr (ci', _)) => ci' = ci
    | _ => False) ∧ q_wd r ≤ 8 ∧ c ≤ B.2.2.2.2.1 ∧ s ≤ B.2.2.2.2.2.1 ∧ B.2.1 y 0 0 (.ref b :: As) M (fun v M' => B.1 n l (v.toList ++ r) M' c s)
  | _ => False
def oCallVA (ci : Nat) (y : qMI) (na n : Nat) : qP := fun l st M c s B _ => match q_pop na [] st with
  | some (As, .ref b :: r) => (match M.2 b with
    | some (.inr (ci', _)) => ci' = ci
    | _ => False) ∧ q_wd r ≤ 8 ∧ ∃ mc ms : Nat, c + mc ≤ B.2.2.2.2.1 ∧ s + ms ≤ B.2.2.2.2.2.1 ∧ B.2.1 y mc ms (.ref b :: As) M (fun v M' => B.1 n l (v.toList ++ r) M' (c + mc) (s + ms))
  | _ => False
def oCallI (y : qMI) (na n : Nat) : qP := fun l st M c s B _ => match q_pop na [] st with
  | some (As, .ref b :: r) => q_wd r ≤ 8 ∧ ∃ mc ms : Nat, c + mc ≤ B.2.2.2.2.1 ∧ s + ms ≤ B.2.2.2.2.2.1 ∧ B.2.1 y mc ms (.ref b :: As) M (fun v M' => B.1 n l (v.toList ++ r) M' (c + mc) (s + ms))
  | _ => False
theorem ok_callS {mi y : qMI} {pc n na idx : Nat} (hd : decode mi.2.1 pc = .ok (.invokestatic idx, 3)) (hn : pc + 3 = n) (hpl : plainName y.1.cls = true) (hcode : Cond.code y.1 y.2.1 y.2.2.1 y.2.2.2 ∈ q_gw) (hini : Cond.initialized y.1.cls ∈ q_gw) (hd2 : y.1.cls ≠ "java/lang/invoke/MethodHandle" ∧ y.1.cls ≠ "java/lang/invoke/VarHandle" ∧ (parseMethodDescriptor y.1.desc).map (fun d => d.parameters.length) = some na) (hm : y.2.2.1 ≤ 20) (hst : Cond.static y.1 ∈ q_gw) (hlink : Cond.methodLink mi.1.cls idx y.1 ∈ q_gw) : q_Ok mi pc (oCallS y na n) := by
  intro G L R Z p e σ m args below meth c E B hB K hK l st M cs ss h H locs ls hl hH hS
  unfold oCallS at h
  split at h
  · next As r hp =>
    obtain ⟨t, t1, t2, t3⟩ := q_pop_spec _ _ _ _ _ hp
    rw [List.append_nil] at t1
    obtain ⟨hr, hc1, hc2, h⟩ := h
    subst hn
    obtain ⟨d', g1, g2, hM⟩ := hB.2.1 y 0 0 As M _ hpl h
    have hrun := va_runS (e := e) (below := below) (locs := locs) (cells := cs) (slots := ss) (R := R) (meth := meth) (As := As) (rest := r) (g := F0 m pc ls st) (H := H) ⟨E.1, E.2.1, E.2.2.1, E.2.2.2.1, E.2.2.2.2.1⟩ hM ⟨callB_of na E.2.2.2.2.1 (q_good hcode) rfl rfl rfl (E.2.2.2.2.1 _ hini) (E.2.2.2.2.1 _ hlink) hd2 (q_room g1 g2 hm), E.2.2.2.2.1 _ hst⟩ ⟨q_blind, q_pre E.2.2.2.2.2.2.2.2.1 hH⟩ rfl (by rw [t1, List.length_reverse]; exact t3) hl.1 (by show st = _; rw [t1, List.reverse_reverse]; exact t2) (lv_room (by rw [q_wd_eq]; exact hr)) hd ⟨Nat.le_trans hc1 hB.2.2.2.2.1, Nat.le_trans hc2 hB.2.2.2.2.2.1⟩
    exact q_back (mi := mi) E hrun hl hS (fun v M' hQ => hB.1 _ _ _ _ _ _ hQ)
  · exact h.elim
theorem ok_callSN {mi y : qMI} {pc n na idx : Nat} {host : String} (hd : decode mi.2.1 pc = .ok (.invokestatic idx, 3)) (hn : pc + 3 = n) (hpl : plainName y.1.cls = true) (hcode : Cond.code y.1 y.2.1 y.2.2.1 y.2.2.2 ∈ q_gw) (hini : Cond.initialized y.1.cls ∈ q_gw) (hd2 : y.1.cls ≠ "java/lang/invoke/MethodHandle" ∧ y.1.cls ≠ "java/lang/invoke/VarHandle" ∧ (parseMethodDescriptor y.1.desc).map (fun d => d.parameters.length) = some na) (hm : y.2.2.1 ≤ 20) (hst : Cond.static y.1 ∈ q_gw) (hlink : Cond.methodLinkNest mi.1.cls idx y.1 host ∈ lw_tbl) : q_Ok mi pc (oCallS y na n) := by
  intro G L R Z p e σ m args below meth c E B hB K hK l st M cs ss h H locs ls hl hH hS
  unfold oCallS at h
  split at h
  · next As r hp =>
    obtain ⟨t, t1, t2, t3⟩ := q_pop_spec _ _ _ _ _ hp
    rw [List.append_nil] at t1
    obtain ⟨hr, hc1, hc2, h⟩ := h
    subst hn
    obtain ⟨d', g1, g2, hM⟩ := hB.2.1 y 0 0 As M _ hpl h
    have hrun := va_runSN (e := e) (below := below) (locs := locs) (cells := cs) (slots := ss) (R := R) (meth := meth) (As := As) (rest := r) (g := F0 m pc ls st) (H := H) ⟨E.1, E.2.1, E.2.2.1, E.2.2.2.1, E.2.2.2.2.1⟩ hM ⟨va_cnB na E.2.2.2.2.1 (q_good hcode) rfl rfl rfl (E.2.2.2.2.2.2.2.2.1.2.1 _ hlink rfl) (E.2.2.2.2.1 _ hini) hd2 (q_room g1 g2 hm), E.2.2.2.2.1 _ hst, trivial⟩ ⟨q_blind, q_pre E.2.2.2.2.2.2.2.2.1 hH⟩ rfl (by rw [t1, List.length_reverse]; exact t3) hl.1 (by show st = _; rw [t1, List.reverse_reverse]; exact t2) (lv_room (by rw [q_wd_eq]; exact hr)) hd ⟨Nat.le_trans hc1 hB.2.2.2.2.1, Nat.le_trans hc2 hB.2.2.2.2.2.1⟩
    exact q_back (mi := mi) E hrun hl hS (fun v M' hQ => hB.1 _ _ _ _ _ _ hQ)
  · exact h.elim
theorem ok_callV {mi y : qMI} {pc n na idx : Nat} {ci N : Nat} {T : u_T} (hd : decode mi.2.1 pc = .ok (.invokevirtual idx, 3)) (hn : pc + 3 = n) (hpl : plainName y.1.cls = true) (hcode : Cond.code y.1 y.2.1 y.2.2.1 y.2.2.2 ∈ q_gw) (hini : Cond.initialized y.1.cls ∈ q_gw) (hd2 : y.1.cls ≠ "java/lang/invoke/MethodHandle" ∧ y.1.cls ≠ "java/lang/invoke/VarHandle" ∧ (parseMethodDescriptor y.1.desc).map (fun d => d.parameters.length) = some na) (hm : y.2.2.1 ≤ 20) (hcl : vwCl[ci]? = some (y.1.cls, T, N)) (hins : Cond.instanceMethod y.1 ∈ q_gw) (hsel : Cond.selects y.1.cls y.1 y.1 ∈ q_gw) (hlink : Cond.methodLink mi.1.cls idx y.1 ∈ q_gw) : q_Ok mi pc (oCallV ci y na n) := by
  intro G L R Z p e σ m args below meth c E B hB K hK l st M cs ss h H locs ls hl hH hS
  unfold oCallV at h
  split at h
  · next As b r hp =>
    obtain ⟨t, t1, t2, t3⟩ := q_pop_spec _ _ _ _ _ hp
    rw [List.append_nil] at t1
    obtain ⟨hrc, hr, hc1, hc2, h⟩ := h
    split at hrc
    · next ci' fs hMb =>
      subst hrc
      subst hn
      obtain ⟨d', g1, g2, hM⟩ := hB.2.1 y 0 0 (.ref b :: As) M _ hpl h
      have hrun := va_runV (e := e) (below := below) (locs := locs) (cells := cs) (slots := ss) (R := R) (meth := meth) (As := As) (rest := r) (g := F0 m pc ls st) (H := H) (b := b) (C := y.1.cls) ⟨E.1, E.2.1, E.2.2.1, E.2.2.2.1, E.2.2.2.2.1⟩ hM ⟨callB_of na E.2.2.2.2.1 (q_good hcode) rfl rfl rfl (E.2.2.2.2.1 _ hini) (E.2.2.2.2.1 _ hlink) hd2 (q_room g1 g2 hm), E.2.2.2.2.1 _ hins, E.2.2.2.2.1 _ hsel⟩ ⟨q_blind, va_recv (q0 := 0) (ws := [(b, .inr (ci', fs))]) E.2.2.2.2.2.2.2.2.1.1 (q_P1 (hH.2.2.2.2.2.2 b _ hMb).2) hcl rfl, q_pre E.2.2.2.2.2.2.2.2.1 hH⟩ rfl (by rw [t1, List.length_reverse]; exact t3) hl.1 (by show st = _; rw [t1, List.reverse_reverse]; exact t2) (lv_room (by rw [q_wd_eq]; exact hr)) hd ⟨Nat.le_trans hc1 hB.2.2.2.2.1, Nat.le_trans hc2 hB.2.2.2.2.2.1⟩
      exact q_back (mi := mi) E hrun hl hS (fun v M' hQ => hB.1 _ _ _ _ _ _ hQ)
    · exact hrc.elim
  · exact h.elim
theorem ok_callVN {mi y : qMI} {pc n na idx : Nat} {ci N : Nat} {T : u_T} {host : String} (hd : decode mi.2.1 pc = .ok (.invokevirtual idx, 3)) (hn : pc + 3 = n) (hpl : plainName y.1.cls = true) (hcode : Cond.code y.1 y.2.1 y.2.2.1 y.2.2.2 ∈ q_gw) (hini : Cond.initialized y.1.cls ∈ q_gw) (hd2 : y.1.cls ≠ "java/lang/invoke/MethodHandle" ∧ y.1.cls ≠ "java/lang/invoke/VarHandle" ∧ (parseMethodDescriptor y.1.desc).map (fun d => d.parameters.length) = some na) (hm : y.2.2.1 ≤ 20) (hcl : vwCl[ci]? = some (y.1.cls, T, N)) (hins : Cond.instanceMethod y.1 ∈ q_gw) (hsel : Cond.selects y.1.cls y.1 y.1 ∈ q_gw) (hlink : Cond.methodLinkNest mi.1.cls idx y.1 host ∈ lw_tbl) : q_Ok mi pc (oCallV ci y na n) := by
  intro G L R Z p e σ m args below meth c E B hB K hK l st M cs ss h H locs ls hl hH hS
  unfold oCallV at h
  split at h
  · next As b r hp =>
    obtain ⟨t, t1, t2, t3⟩ := q_pop_spec _ _ _ _ _ hp
    rw [List.append_nil] at t1
    obtain ⟨hrc, hr, hc1, hc2, h⟩ := h
    split at hrc
    · next ci' fs hMb =>
      subst hrc
      subst hn
      obtain ⟨d', g1, g2, hM⟩ := hB.2.1 y 0 0 (.ref b :: As) M _ hpl h
      have hrun := va_runVN (e := e) (below := below) (locs := locs) (cells := cs) (slots := ss) (R := R) (meth := meth) (As := As) (rest := r) (g := F0 m pc ls st) (H := H) (b := b) (C := y.1.cls) ⟨E.1, E.2.1, E.2.2.1, E.2.2.2.1, E.2.2.2.2.1⟩ hM ⟨va_cnB na E.2.2.2.2.1 (q_good hcode) rfl rfl rfl (E.2.2.2.2.2.2.2.2.1.2.1 _ hlink rfl) (E.2.2.2.2.1 _ hini) hd2 (q_room g1 g2 hm), E.2.2.2.2.1 _ hins, E.2.2.2.2.1 _ hsel⟩ ⟨q_blind, va_recv (q0 := 0) (ws := [(b, .inr (ci', fs))]) E.2.2.2.2.2.2.2.2.1.1 (q_P1 (hH.2.2.2.2.2.2 b _ hMb).2) hcl rfl, q_pre E.2.2.2.2.2.2.2.2.1 hH⟩ rfl (by rw [t1, List.length_reverse]; exact t3) hl.1 (by show st = _; rw [t1, List.reverse_reverse]; exact t2) (lv_room (by rw [q_wd_eq]; exact hr)) hd ⟨Nat.le_trans hc1 hB.2.2.2.2.1, Nat.le_trans hc2 hB.2.2.2.2.2.1⟩
      exact q_back (mi := mi) E hrun hl hS (fun v M' hQ => hB.1 _ _ _ _ _ _ hQ)
    · exact hrc.elim
  · exact h.elim
theorem ok_callVA {mi y : qMI} {pc n na idx : Nat} {ci N : Nat} {T : u_T} (hd : decode mi.2.1 pc = .ok (.invokevirtual idx, 3)) (hn : pc + 3 = n) (hpl : plainName y.1.cls = true) (hcode : Cond.code y.1 y.2.1 y.2.2.1 y.2.2.2 ∈ q_gw) (hini : Cond.initialized y.1.cls ∈ q_gw) (hd2 : y.1.cls ≠ "java/lang/invoke/MethodHandle" ∧ y.1.cls ≠ "java/lang/invoke/VarHandle" ∧ (parseMethodDescriptor y.1.desc).map (fun d => d.parameters.length) = some na) (hm : y.2.2.1 ≤ 20) (hcl : vwCl[ci]? = some (y.1.cls, T, N)) (hins : Cond.instanceMethod y.1 ∈ q_gw) (hsel : Cond.selects y.1.cls y.1 y.1 ∈ q_gw) (hlink : Cond.methodLink mi.1.cls idx y.1 ∈ q_gw) : q_Ok mi pc (oCallVA ci y na n) := by
  intro G L R Z p e σ m args below meth c E B hB K hK l st M cs ss h H locs ls hl hH hS
  unfold oCallVA at h
  split at h
  · next As b r hp =>
    obtain ⟨t, t1, t2, t3⟩ := q_pop_spec _ _ _ _ _ hp
    rw [List.append_nil] at t1
    obtain ⟨hrc, hr, mc, ms, hc1, hc2, h⟩ := h
    split at hrc
    · next ci' fs hMb =>
      subst hrc
      subst hn
      obtain ⟨d', g1, g2, hM⟩ := hB.2.1 y mc ms (.ref b :: As) M _ hpl h
      have hrun := va_runV (e := e) (below := below) (locs := locs) (cells := cs) (slots := ss) (R := R) (meth := meth) (As := As) (rest := r) (g := F0 m pc ls st) (H := H) (b := b) (C := y.1.cls) ⟨E.1, E.2.1, E.2.2.1, E.2.2.2.1, E.2.2.2.2.1⟩ hM ⟨callB_of na E.2.2.2.2.1 (q_good hcode) rfl rfl rfl (E.2.2.2.2.1 _ hini) (E.2.2.2.2.1 _ hlink) hd2 (q_room g1 g2 hm), E.2.2.2.2.1 _ hins, E.2.2.2.2.1 _ hsel⟩ ⟨q_blind, va_recv (q0 := 0) (ws := [(b, .inr (ci', fs))]) E.2.2.2.2.2.2.2.2.1.1 (q_P1 (hH.2.2.2.2.2.2 b _ hMb).2) hcl rfl, q_pre E.2.2.2.2.2.2.2.2.1 hH⟩ rfl (by rw [t1, List.length_reverse]; exact t3) hl.1 (by show st = _; rw [t1, List.reverse_reverse]; exact t2) (lv_room (by rw [q_wd_eq]; exact hr)) hd ⟨Nat.le_trans hc1 hB.2.2.2.2.1, Nat.le_trans hc2 hB.2.2.2.2.2.1⟩
      exact q_back (mi := mi) E hrun hl hS (fun v M' hQ => hB.1 _ _ _ _ _ _ hQ)
    · exact hrc.elim
  · exact h.elim
theorem ok_callVAN {mi y : qMI} {pc n na idx : Nat} {ci N : Nat} {T : u_T} {host : String} (hd : decode mi.2.1 pc = .ok (.invokevirtual idx, 3)) (hn : pc + 3 = n) (hpl : plainName y.1.cls = true) (hcode : Cond.code y.1 y.2.1 y.2.2.1 y.2.2.2 ∈ q_gw) (hini : Cond.initialized y.1.cls ∈ q_gw) (hd2 : y.1.cls ≠ "java/lang/invoke/MethodHandle" ∧ y.1.cls ≠ "java/lang/invoke/VarHandle" ∧ (parseMethodDescriptor y.1.desc).map (fun d => d.parameters.length) = some na) (hm : y.2.2.1 ≤ 20) (hcl : vwCl[ci]? = some (y.1.cls, T, N)) (hins : Cond.instanceMethod y.1 ∈ q_gw) (hsel : Cond.selects y.1.cls y.1 y.1 ∈ q_gw) (hlink : Cond.methodLinkNest mi.1.cls idx y.1 host ∈ lw_tbl) : q_Ok mi pc (oCallVA ci y na n) := by
  intro G L R Z p e σ m args below meth c E B hB K hK l st M cs ss h H locs ls hl hH hS
  unfold oCallVA at h
  split at h
  · next As b r hp =>
    obtain ⟨t, t1, t2, t3⟩ := q_pop_spec _ _ _ _ _ hp
    rw [List.append_nil] at t1
    obtain ⟨hrc, hr, mc, ms, hc1, hc2, h⟩ := h
    split at hrc
    · next ci' fs hMb =>
      subst hrc
      subst hn
      obtain ⟨d', g1, g2, hM⟩ := hB.2.1 y mc ms (.ref b :: As) M _ hpl h
      have hrun := va_runVN (e := e) (below := below) (locs := locs) (cells := cs) (slots := ss) (R := R) (meth := meth) (As := As) (rest := r) (g := F0 m pc ls st) (H := H) (b := b) (C := y.1.cls) ⟨E.1, E.2.1, E.2.2.1, E.2.2.2.1, E.2.2.2.2.1⟩ hM ⟨va_cnB na E.2.2.2.2.1 (q_good hcode) rfl rfl rfl (E.2.2.2.2.2.2.2.2.1.2.1 _ hlink rfl) (E.2.2.2.2.1 _ hini) hd2 (q_room g1 g2 hm), E.2.2.2.2.1 _ hins, E.2.2.2.2.1 _ hsel⟩ ⟨q_blind, va_recv (q0 := 0) (ws := [(b, .inr (ci', fs))]) E.2.2.2.2.2.2.2.2.1.1 (q_P1 (hH.2.2.2.2.2.2 b _ hMb).2) hcl rfl, q_pre E.2.2.2.2.2.2.2.2.1 hH⟩ rfl (by rw [t1, List.length_reverse]; exact t3) hl.1 (by show st = _; rw [t1, List.reverse_reverse]; exact t2) (lv_room (by rw [q_wd_eq]; exact hr)) hd ⟨Nat.le_trans hc1 hB.2.2.2.2.1, Nat.le_trans hc2 hB.2.2.2.2.2.1⟩
      exact q_back (mi := mi) E hrun hl hS (fun v M' hQ => hB.1 _ _ _ _ _ _ hQ)
    · exact hrc.elim
  · exact h.elim
theorem ok_callI {mi y : qMI} {pc n na idx : Nat} (hd : decode mi.2.1 pc = .ok (.invokespecial idx, 3)) (hn : pc + 3 = n) (hpl : plainName y.1.cls = true) (hcode : Cond.code y.1 y.2.1 y.2.2.1 y.2.2.2 ∈ q_gw) (hini : Cond.initialized y.1.cls ∈ q_gw) (hd2 : y.1.cls ≠ "java/lang/invoke/MethodHandle" ∧ y.1.cls ≠ "java/lang/invoke/VarHandle" ∧ (parseMethodDescriptor y.1.desc).map (fun d => d.parameters.length) = some na) (hm : y.2.2.1 ≤ 20) (hret : y.2.2.2 = none) (hnm : y.1.name = "<init>") (hins : Cond.instanceMethod y.1 ∈ q_gw) (hlink : Cond.methodLink mi.1.cls idx y.1 ∈ q_gw) : q_Ok mi pc (oCallI y na n) := by
  intro G L R Z p e σ m args below meth c E B hB K hK l st M cs ss h H locs ls hl hH hS
  unfold oCallI at h
  split at h
  · next As b r hp =>
    obtain ⟨t, t1, t2, t3⟩ := q_pop_spec _ _ _ _ _ hp
    rw [List.append_nil] at t1
    obtain ⟨hr, mc, ms, hc1, hc2, h⟩ := h
    subst hn
    obtain ⟨d', g1, g2, hM⟩ := hB.2.1 y mc ms (.ref b :: As) M _ hpl h
    have hrun := va_runI (e := e) (below := below) (locs := locs) (cells := cs) (slots := ss) (R := R) (meth := meth) (As := As) (rest := r) (g := F0 m pc ls st) (H := H) (b := b) (bytes := y.2.1) (maxL := y.2.2.1) ⟨E.1, E.2.1, E.2.2.1, E.2.2.2.1, E.2.2.2.2.1⟩ hM ⟨callB_of na E.2.2.2.2.1 (q_good hcode) (by show q_ws y = _; unfold q_ws; rw [hret]) rfl rfl (E.2.2.2.2.1 _ hini) (E.2.2.2.2.1 _ hlink) hd2 (q_room g1 g2 hm), hnm, E.2.2.2.2.1 _ hins⟩ ⟨q_blind, q_pre E.2.2.2.2.2.2.2.2.1 hH⟩ rfl (by rw [t1, List.length_reverse]; exact t3) hl.1 (by show st = _; rw [t1, List.reverse_reverse]; exact t2) (lv_room (by rw [q_wd_eq]; exact hr)) hd ⟨Nat.le_trans hc1 hB.2.2.2.2.1, Nat.le_trans hc2 hB.2.2.2.2.2.1⟩
    exact q_back (mi := mi) E hrun hl hS (fun v M' hQ => hB.1 _ _ _ _ _ _ hQ)
  · exact h.elim
theorem ok_callIN {mi y : qMI} {pc n na idx : Nat} {host : String} (hd : decode mi.2.1 pc = .ok (.invokespecial idx, 3)) (hn : pc + 3 = n) (hpl : plainName y.1.cls = true) (hcode : Cond.code y.1 y.2.1 y.2.2.1 y.2.2.2 ∈ q_gw) (hini : Cond.initialized y.1.cls ∈ q_gw) (hd2 : y.1.cls ≠ "java/lang/invoke/MethodHandle" ∧ y.1.cls ≠ "java/lang/invoke/VarHandle" ∧ (parseMethodDescriptor y.1.desc).map (fun d => d.parameters.length) = some na) (hm : y.2.2.1 ≤ 20) (hret : y.2.2.2 = none) (hnm : y.1.name = "<init>") (hins : Cond.instanceMethod y.1 ∈ q_gw) (hlink : Cond.methodLinkNest mi.1.cls idx y.1 host ∈ lw_tbl) : q_Ok mi pc (oCallI y na n) := by
  intro G L R Z p e σ m args below meth c E B hB K hK l st M cs ss h H locs ls hl hH hS
  unfold oCallI at h
  split at h
  · next As b r hp =>
    obtain ⟨t, t1, t2, t3⟩ := q_pop_spec _ _ _ _ _ hp
    rw [List.append_nil] at t1
    obtain ⟨hr, mc, ms, hc1, hc2, h⟩ := h
    subst hn
    obtain ⟨d', g1, g2, hM⟩ := hB.2.1 y mc ms (.ref b :: As) M _ hpl h
    have hrun := va_runIN (e := e) (below := below) (locs := locs) (cells := cs) (slots := ss) (R := R) (meth := meth) (As := As) (rest := r) (g := F0 m pc ls st) (H := H) (b := b) (bytes := y.2.1) (maxL := y.2.2.1) ⟨E.1, E.2.1, E.2.2.1, E.2.2.2.1, E.2.2.2.2.1⟩ hM ⟨va_cnB na E.2.2.2.2.1 (q_good hcode) (by show q_ws y = _; unfold q_ws; rw [hret]) rfl rfl (E.2.2.2.2.2.2.2.2.1.2.1 _ hlink rfl) (E.2.2.2.2.1 _ hini) hd2 (q_room g1 g2 hm), hnm, E.2.2.2.2.1 _ hins⟩ ⟨q_blind, q_pre E.2.2.2.2.2.2.2.2.1 hH⟩ rfl (by rw [t1, List.length_reverse]; exact t3) hl.1 (by show st = _; rw [t1, List.reverse_reverse]; exact t2) (lv_room (by rw [q_wd_eq]; exact hr)) hd ⟨Nat.le_trans hc1 hB.2.2.2.2.1, Nat.le_trans hc2 hB.2.2.2.2.2.1⟩
    exact q_back (mi := mi) E hrun hl hS (fun v M' hQ => hB.1 _ _ _ _ _ _ hQ)
  · exact h.elim
def oObj (n : Nat) : qP := fun l st M c s B K => match st with
  | .ref _ :: r => 0 < B.2.2.2.1 ∧ q_wd r ≤ 8 ∧ K n l r M c s
  | _ => False
theorem ok_obj {mi : qMI} {pc n idx : Nat} (hd : decode mi.2.1 pc = .ok (.invokespecial idx, 3)) (hn : pc + 3 = n) (hlink : Cond.methodLink mi.1.cls idx objectInit ∈ q_gw) (hins : Cond.instanceMethod objectInit ∈ q_gw) (hcode : Cond.code objectInit ⟨#[0xb1]⟩ 1 none ∈ q_gw) : q_Ok mi pc (oObj n) := by
  intro G L R Z p e σ m args below meth c E B hB K hK l st M cs ss h H locs ls hl hH hS
  unfold oObj at h
  split at h
  · next a r =>
    obtain ⟨h1, h2, h⟩ := h
    subst hn
    have hd4 := hB.2.2.2.1
    refine W.objInit E.1 E.2.1 E.2.2.2.1 (E.2.2.2.2.1 _ hlink) (E.2.2.2.2.1 _ hins) (E.2.2.2.2.1 _ hcode) rfl (by rw [E.2.2.1]; exact hl.1) rfl hd (by omega) (by
      have := lv_room (m := m) (pc := pc) (ls := ls) (rest := (.ref a :: r)) (st := r) (by rw [q_wd_eq]; exact h2)
      omega) ?_
    exact hK _ _ _ _ _ _ h H locs ls hl hH hS
  · exact h.elim
/-! returns -/
def oIret : qP := fun _ st M c s B _ => match st with
  | [.int v] => B.2.2.1 (some (.int v)) M c s
  | _ => False
def oZret : qP := fun _ st M c s B _ => match st with
  | [.int v] => (v = 0 ∨ v = 1) ∧ B.2.2.1 (some (.int v)) M c s
  | _ => False
def oLret : qP := fun _ st M c s B _ => match st with
  | [.long v] => B.2.2.1 (some (.long v)) M c s
  | _ => False
def oAret : qP := fun _ st M c s B _ => match st with
  | [.ref v] => B.2.2.1 (some (.ref v)) M c s
  | [.null] => B.2.2.1 (some .null) M c s
  | _ => False
def oVret : qP := fun _ st M c s B _ => match st with
  | [] => B.2.2.1 none M c s
  | _ => False
theorem ok_iret {mi : qMI} {pc : Nat} (hd : decode mi.2.1 pc = .ok (.ireturn, 1)) (hr : mi.2.2.2 = some .int) : q_Ok mi pc oIret := by
  intro G L R Z p e σ m args below meth c E B hB K hK l st M cs ss h H locs ls hl hH hS
  unfold oIret at h
  split at h
  · next v => exact hB.2.2.1 pc l _ _ M cs ss h (Or.inl ⟨v, .int, rfl, rfl, hr, rfl, hd⟩) H locs ls hl hH hS
  · exact h.elim
theorem ok_zret {mi : qMI} {pc : Nat} (hd : decode mi.2.1 pc = .ok (.ireturn, 1)) (hr : mi.2.2.2 = some .boolean) : q_Ok mi pc oZret := by
  intro G L R Z p e σ m args below meth c E B hB K hK l st M cs ss h H locs ls hl hH hS
  unfold oZret at h
  split at h
  · next v => exact hB.2.2.1 pc l _ _ M cs ss h.2 (Or.inl ⟨v, .boolean, rfl, rfl, hr, by rcases h.1 with rfl | rfl <;> rfl, hd⟩) H locs ls hl hH hS
  · exact h.elim
theorem ok_lret {mi : qMI} {pc : Nat} (hd : decode mi.2.1 pc = .ok (.lreturn, 1)) (hr : mi.2.2.2 = some .long) : q_Ok mi pc oLret := by
  intro G L R Z p e σ m args below meth c E B hB K hK l st M cs ss h H locs ls hl hH hS
  unfold oLret at h
  split at h
  · next v => exact hB.2.2.1 pc l _ _ M cs ss h (Or.inr (Or.inl ⟨v, rfl, rfl, hr, hd⟩)) H locs ls hl hH hS
  · exact h.elim
theorem ok_aret {mi : qMI} {pc : Nat} {s : String} (hd : decode mi.2.1 pc = .ok (.areturn, 1)) (hr : mi.2.2.2 = some (.object s)) : q_Ok mi pc oAret := by
  intro G L R Z p e σ m args below meth c E B hB K hK l st M cs ss h H locs ls hl hH hS
  unfold oAret at h
  split at h
  · next v => exact hB.2.2.1 pc l _ _ M cs ss h (Or.inr (Or.inr (Or.inl ⟨_, s, rfl, rfl, hr, Or.inr ⟨v, rfl⟩, hd⟩))) H locs ls hl hH hS
  · exact hB.2.2.1 pc l _ _ M cs ss h (Or.inr (Or.inr (Or.inl ⟨_, s, rfl, rfl, hr, Or.inl rfl, hd⟩))) H locs ls hl hH hS
  · exact h.elim
theorem ok_vret {mi : qMI} {pc : Nat} (hd : decode mi.2.1 pc = .ok (.return_, 1)) (hr : mi.2.2.2 = none) : q_Ok mi pc oVret := by
  intro G L R Z p e σ m args below meth c E B hB K hK l st M cs ss h H locs ls hl hH hS
  unfold oVret at h
  split at h
  · exact hB.2.2.1 pc l _ _ M cs ss h (Or.inr (Or.inr (Or.inr ⟨rfl, rfl, hr, hd⟩))) H locs ls hl hH hS
  · exact h.elim
/-! arraycopy of ints -/
def oCpy (n : Nat) : qP := fun l st M c s B K => match st with
  | .int k :: .int dp :: .ref a :: .int sp :: .ref b :: r => (match M.2 b, M.2 a with
    | some (.inl (t0, n0, .inl f)), some (.inl (t1, n1, .inl g)) => (t0 = 1 ∧ t1 = 1) ∧ 0 < B.2.2.2.1 ∧ q_wd r ≤ 8 ∧ ¬ sp < 0 ∧ ¬ dp < 0 ∧ ¬ k < 0 ∧ sp.toNatClampNeg + k.toNatClampNeg ≤ n0 ∧ dp.toNatClampNeg + k.toNatClampNeg ≤ n1 ∧ K n l r (q_set M a (.inl (1, n1, .inl (va_cpy f g sp.toNatClampNeg dp.toNatClampNeg k.toNatClampNeg)))) c s
    | _, _ => False)
  | _ => False
theorem ok_cpy {mi : qMI} {pc n idx : Nat} (hd : decode mi.2.1 pc = .ok (.invokestatic idx, 3)) (hn : pc + 3 = n) (hlink : Cond.methodLink mi.1.cls idx arraycopyName ∈ q_gw) (hnat : Cond.native arraycopyName ∈ q_gw) (hst : Cond.static arraycopyName ∈ q_gw) (hini : Cond.initialized "java/lang/System" ∈ q_gw) : q_Ok mi pc (oCpy n) := by
  intro G L R Z p e σ m args below meth c E B hB K hK l st M cs ss h H locs ls hl hH hS
  unfold oCpy at h
  split at h
  · next k dp a sp b r =>
    split at h
    · next t0 n0 f t1 n1 g hMb hMa =>
      obtain ⟨⟨rfl, rfl⟩, h0, hr, h1, h2, h3, h4, h5, h⟩ := h
      subst hn
      have hKk := E.2.2.2.2.2.2.2.2.1.1
      obtain ⟨hA, hc1⟩ := hH.2.2.2.2.2.1 a 1 _ hMa (by decide)
      obtain ⟨-, hc0⟩ := hH.2.2.2.2.2.1 b 1 _ hMb (by decide)
      have nn : ∀ z : Int32, ¬ z < 0 → z.toInt = (z.toNatClampNeg : Int) := by
        intro z hz
        have hz0 : (0 : Int) ≤ z.toInt := by
          have := Int32.not_lt.mp hz
          simpa using Int32.le_iff_toInt_le.mp this
        show z.toInt = ((z.toInt.toNat : Nat) : Int)
        omega
      intro T hT Xs
      obtain ⟨-, k0, hk0, cm0, hkk0⟩ := (hKk.2 0 _ rfl).1 n0 (fun j => .int (f j))
      obtain ⟨-, k1, hk1, cm1, hkk1⟩ := (hKk.2 0 _ rfl).1 n1 (fun j => .int (g j))
      have hdd := hB.2.2.2.1
      obtain ⟨vm', X', step⟩ := Xs.arraycopy E.1 E.2.2.2.1 (E.2.2.2.2.1 _ hlink) (E.2.2.2.2.1 _ hnat) (E.2.2.2.2.1 _ hst) (E.2.2.2.2.1 _ hini) (src := b) (dst := a) (cs := vp_cell (G.2.1 1) (n0, .inl f)) (cd := vp_cell (G.2.1 1) (n1, .inl g)) (srcPos := sp) (destPos := dp) (n := k) (by rw [hT]; exact hc0) (by rw [hT]; exact hc1)
        (fun _ h => by cases h) (fun _ h => by cases h) (fun h => by cases h) (fun h => by cases h) hk0 hk1 hkk0 hkk1 (by simp [refKind]) h1 h2 h3
        (by rw [nn sp h1, nn k h3]; show ¬ _ > ((arrV (G.2.1 1) n0 (fun j => .int (f j))).slots.size : Int); rw [arrV_size]; omega)
        (by rw [nn dp h2, nn k h3]; show ¬ _ > ((arrV (G.2.1 1) n1 (fun j => .int (g j))).slots.size : Int); rw [arrV_size]; omega)
        (fun vm₁ _ i hi => by
          have e : (vp_cell (G.2.1 1) (n0, .inl f)).slots.getD (sp.toNatClampNeg + i) .null = .int (f (sp.toNatClampNeg + i)) := by
            show (arrV (G.2.1 1) n0 (fun j => .int (f j))).slots.getD _ _ = _
            rw [Array.getD_eq_getD_getElem?, arrV_read _ _ (by omega)]
            rfl
          refine ⟨?_, ?_⟩
          · rw [e]; rfl
          · rw [e]; exact trivial)
        (g := F0 m pc ls (.int k :: .int dp :: .ref a :: .int sp :: .ref b :: r)) rfl (by rw [E.2.2.1]; exact hl.1) (rest := r) rfl (by rw [E.2.1]; exact hd) (by omega) (by
          have := lv_room (m := m) (pc := pc) (ls := ls) (rest := (.ref a :: r)) (st := r) (by rw [q_wd_eq]; exact hr)
          have e0 : nativeFrameWords "java/lang/System" "arraycopy" 5 = 7 := by decide
          show 2 * 0 + _ + _ ≤ _
          have e1 : 2 * (F0 m pc ls (.ref a :: r)).monitorRoom = 0 := rfl
          rw [e0]
          omega)
      have e1 : copied (vp_cell (G.2.1 1) (n0, .inl f)) (vp_cell (G.2.1 1) (n1, .inl g)) sp dp k = vp_cell (G.2.1 1) (n1, .inl (va_cpy f g sp.toNatClampNeg dp.toNatClampNeg k.toNatClampNeg)) := va_copied (fun z => .int z) (G.2.1 1) (G.2.1 1) f g h4
      rw [e1] at X' step
      have hlt : a < H.size := (Array.getElem?_eq_some_iff.mp hc1).1
      have hheap : ((T.setVm vm').setCell a (vp_cell (G.2.1 1) (n1, .inl (va_cpy f g sp.toNatClampNeg dp.toNatClampNeg k.toNatClampNeg)))).heap = H.setIfInBounds a (vp_cell (G.2.1 1) (n1, .inl (va_cpy f g sp.toNatClampNeg dp.toNatClampNeg k.toNatClampNeg))) := by rw [← hT]; rfl
      have oq : ∀ q : Nat, q ≠ a → (H.setIfInBounds a (vp_cell (G.2.1 1) (n1, .inl (va_cpy f g sp.toNatClampNeg dp.toNatClampNeg k.toNatClampNeg))))[q]? = H[q]? := fun q hq => by simp [Array.getElem?_setIfInBounds, Ne.symm hq]
      obtain ⟨t, a1, b1⟩ := hK _ _ _ _ _ _ h _ _ ls hl (hH.setA hMa (by decide) (by simp) oq (by simp [Array.getElem?_setIfInBounds, hlt])) ⟨by simp; exact hS.1, fun q g1 g2 => by
          rw [oq q (fun e => g2 (by rw [e]; exact hA))]
          exact hS.2.1 q g1 g2, fun q hq => by
          rcases List.mem_append.mp hq with h | h
          · exact hS.2.2 q h
          · obtain ⟨z, -, hz⟩ := List.mem_map.mp h
            rw [← hz]
            exact hA⟩ _ hheap X'
      exact ⟨t, step t a1, b1⟩
    · exact h.elim
  · exact h.elim
/-! contracts -/
/-- from a place in a method's body the method comes to its end with Q -/
def q_X (G : qC) (L : Launch) (d : Nat) (mi : qMI) (mc ms : Nat) (Q : Option Value → qM → Prop) : qKt := fun pc l st M cs ss =>
  ∀ (p : Program) (e : Env) (σ : State) (m : MethodId) (args : Array Value) (below : List Frame) (meth : Method) (c : Code), q_Ev G mi p σ m args meth c → q_Y G L (q_rm d mc ms) mi (MQ below (q_Q G Q) args σ mc ms (q_A G)) p e σ m args below meth c pc l st M cs ss
/-- a call comes back with Q -/
def q_Call (G : qC) (L : Launch) (d : Nat) (mi : qMI) (mc ms : Nat) (As : List Value) (M : qM) (Q : Option Value → qM → Prop) : Prop := q_X G L d mi mc ms Q 0 (lv_args 0 As) [] M 0 0
theorem q_Call.met {G : qC} {L : Launch} {d : Nat} {mi : qMI} {mc ms : Nat} {As : List Value} {M : qM} {Q : Option Value → qM → Prop} (hpl : plainName mi.1.cls = true) (hw : q_wd As ≤ mi.2.2.1) (h : q_Call G L d mi mc ms As M Q) : Met L mi.1 (q_ws mi) (q_rm d mc ms) (va_Pc As (q_Pc G M)) (q_Q G Q) mc ms (q_A G) := by
  refine Met.ofW (cc := mi.2.1) (maxL := mi.2.2.1) (ret := mi.2.2.2) hpl rfl ?_
  intro p e s m args below meth c s₁ B hml hv
  obtain ⟨rfl, hK, hH⟩ := hv
  have hts := atoms_spec (ws := q_ws mi) B.pre
  have hl := lv_entry As (n := mi.2.2.1) (by rw [q_wd_sl]; exact hw)
  rw [lg_entry_eq]
  exact h p e s m _ below meth c ⟨B.exec, B.bytes, hml, findClass_of_methodNamed B.named, fun w hw => hts w (List.mem_cons_of_mem _ hw), B.returns, B.notSynchronized, (name_of_methodNamed B.named B.method).1, hK, hH.2.1⟩ s.heap [] _ hl hH va_S.rf
def q_bx (G : qC) (L : Launch) (d : Nat) (mi : qMI) (mc ms : Nat) (Q : Option Value → qM → Prop) : qB :=
  (q_X G L d mi mc ms Q, fun y mc' ms' As M Q' => 0 < d ∧ q_wd As ≤ y.2.2.1 ∧ q_Call G L (d - 1) y mc' ms' As M Q', fun r M cs ss => cs ≤ mc ∧ ss ≤ ms ∧ Q r M, d, mc, ms, G.2.2.2.1, G.2.2.2.2.1)
theorem q_bx_ok {G : qC} {L : Launch} {d : Nat} {mi : qMI} {mc ms : Nat} {Q : Option Value → qM → Prop} {p : Program} {e : Env} {σ : State} {m : MethodId} {args : Array Value} {below : List Frame} {meth : Method} {c : Code} (E : q_Ev G mi p σ m args meth c) : q_BOk G L (q_rm d mc ms) mi (MQ below (q_Q G Q) args σ mc ms (q_A G)) p e σ m args below meth c (q_bx G L d mi mc ms Q) := by
  refine ⟨fun pc l st M cs ss h => h p e σ m args below meth c E, fun y mc' ms' As M Q' hpl h => ⟨d - 1, ?_, ?_, h.2.2.met hpl h.2.1⟩, ?_, ⟨Nat.le_refl _, Nat.le_refl _⟩, Nat.le_refl _, Nat.le_refl _, rfl, rfl⟩
  · have := h.1; show d - 1 + 1 ≤ d; omega
  · have := h.1; show 40 * (d - 1 + 1) ≤ 40 * d; omega
  · intro pc l st r M cs ss hR hk H locs ls hl hH hS
    obtain ⟨h1, h2, hQ⟩ := hR
    have fin : ∀ t : State, t.heap = H → σ.WarmedH t.vm → q_Q G Q args σ (.returned r) t := fun t ht _ => ⟨r, M, rfl, hQ, by rw [ht]; exact hH, by rw [ht]; exact hS.1⟩
    have hlocks : meth.locks = false := E.2.2.2.2.2.2.1
    refine W.widen (k := mc) (n := ms) h1 h2 ?_
    rcases hk with ⟨v, ty, rfl, rfl, g1, g2, g3⟩ | ⟨v, rfl, rfl, g1, g3⟩ | ⟨v, n, rfl, rfl, g1, g2, g3⟩ | ⟨rfl, rfl, g1, g3⟩
    · exact W.zret E.1 E.2.1 (E.2.2.2.2.2.1.trans g1) g2 fin hS.2.2 g3
    · exact W.lret E.1 E.2.1 (E.2.2.2.2.2.1.trans g1) fin hS.2.2 g3
    · exact W.aret E.1 E.2.1 (E.2.2.2.2.2.1.trans g1) (Or.inl ⟨n, rfl⟩) g2 fin hS.2.2 g3
    · exact W.vret E.1 E.2.1 (E.2.2.2.2.2.1.trans g1) fin hS.2.2 g3
/-! runs -/
def q_stop (ps : List Nat) (pc : Nat) : Bool := match ps with
  | [] => false
  | q :: r => if pc = q then true else q_stop r pc
def q_run (t : Nat → qP) (ps : List Nat) (B : qB) : Nat → qKt
  | 0, pc, l, st, M, cs, ss => B.1 pc l st M cs ss
  | n + 1, pc, l, st, M, cs, ss => t pc l st M cs ss B (fun pc' l' st' M' cs' ss' => if q_stop ps pc' = true then B.1 pc' l' st' M' cs' ss' else q_run t ps B n pc' l' st' M' cs' ss')
def q_Snd (mi : qMI) (t : Nat → qP) : Prop := ∀ pc, q_Ok mi pc (t pc)
theorem q_run_Y {mi : qMI} {t : Nat → qP} (hs : q_Snd mi t) (ps : List Nat) {G : qC} {L : Launch} {R : Room} {Z : State → Prop} {p : Program} {e : Env} {σ : State} {m : MethodId} {args : Array Value} {below : List Frame} {meth : Method} {c : Code} (E : q_Ev G mi p σ m args meth c) {B : qB} (hB : q_BOk G L R mi Z p e σ m args below meth c B) :
    ∀ (n pc : Nat) (l : qLv) (st : List Value) (M : qM) (cs ss : Nat), q_run t ps B n pc l st M cs ss → q_Y G L R mi Z p e σ m args below meth c pc l st M cs ss
  | 0, _, _, _, _, _, _, h => hB.1 _ _ _ _ _ _ h
  | n + 1, pc, l, st, M, cs, ss, h => hs pc G L R Z p e σ m args below meth c E B hB _ (fun pc' l' st' M' cs' ss' g => by
      by_cases hq : q_stop ps pc' = true
      · rw [if_pos hq] at g; exact hB.1 _ _ _ _ _ _ g
      · rw [if_neg hq] at g; exact q_run_Y hs ps E hB n pc' l' st' M' cs' ss' g) l st M cs ss h
theorem q_X.run {G : qC} {L : Launch} {d : Nat} {mi : qMI} {mc ms : Nat} {Q : Option Value → qM → Prop} {t : Nat → qP} (hs : q_Snd mi t) (ps : List Nat) (n : Nat) {pc : Nat} {l : qLv} {st : List Value} {M : qM} {cs ss : Nat} (h : q_run t ps (q_bx G L d mi mc ms Q) n pc l st M cs ss) : q_X G L d mi mc ms Q pc l st M cs ss :=
  fun _ _ _ _ _ _ _ _ E => q_run_Y hs ps E (q_bx_ok E) n pc l st M cs ss h
/-- fewer locals, in any order -/
theorem q_X.lv {G : qC} {L : Launch} {d : Nat} {mi : qMI} {mc ms : Nat} {Q : Option Value → qM → Prop} {pc : Nat} {l : qLv} {st : List Value} {M : qM} {cs ss : Nat} (l' : qLv) (hl : ∀ q ∈ l', q_lg l q.1 = some q.2) (h : q_X G L d mi mc ms Q pc l' st M cs ss) : q_X G L d mi mc ms Q pc l st M cs ss :=
  fun p e σ m args below meth c E H locs ls g1 g2 g3 => h p e σ m args below meth c E H locs ls ⟨g1.1, g1.2.1, fun q hq => q_lg_at g1 (hl q hq)⟩ g2 g3
/-- what the memory always is -/
theorem q_X.mem {G : qC} {L : Launch} {d : Nat} {mi : qMI} {mc ms : Nat} {Q : Option Value → qM → Prop} {pc : Nat} {l : qLv} {st : List Value} {M : qM} {cs ss : Nat} (h : (M.2 G.2.2.2.1 = some q_roO ∧ M.2 G.2.2.2.2.1 = some q_roW ∧ M.2 G.2.2.2.2.2.1 = some (q_roS G)) → (∀ a e, M.2 a = some e → a < M.1) → q_X G L d mi mc ms Q pc l st M cs ss) : q_X G L d mi mc ms Q pc l st M cs ss :=
  fun p e σ m args below meth c E H locs ls g1 g2 g3 => h g2.2.2.2.1 (fun _ _ ha => g2.lt ha) p e σ m args below meth c E H locs ls g1 g2 g3
/-- a weaker end -/
theorem q_X.mono {G : qC} {L : Launch} {d : Nat} {mi : qMI} {mc ms : Nat} {Q Q' : Option Value → qM → Prop} {pc : Nat} {l : qLv} {st : List Value} {M : qM} {cs ss : Nat} (hQ : ∀ r M, Q r M → Q' r M) (h : q_X G L d mi mc ms Q pc l st M cs ss) : q_X G L d mi mc ms Q' pc l st M cs ss := by
  intro p e σ m args below meth c E H locs ls g1 g2 g3 T hT Xs
  obtain ⟨t, a, o, b1, b2, ⟨r, M', e1, e2, e3, e4⟩, b4⟩ := h p e σ m args below meth c E H locs ls g1 g2 g3 T hT Xs
  exact ⟨t, a, o, b1, b2, ⟨r, M', e1, hQ _ _ e2, e3, e4⟩, b4⟩
