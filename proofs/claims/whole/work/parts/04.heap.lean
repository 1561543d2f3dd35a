/-! switches -/
theorem q_ofi {k : Int} (h1 : -2147483648 ≤ k) (h2 : k < 2147483648) : (Int32.ofInt k).toInt = k := by
  rw [Int32.toInt_ofInt]
  have hs : ((Int32.size : Nat) : Int) = 4294967296 := rfl
  simp only [Int.bmod, hs]
  omega
theorem q_nIt {k : Nat} (h : k < 2147483648) : (nI k).toInt = (k : Int) := nI_toInt h
theorem q_tab_in {x : Int32} {F : Nat → Prop} {d : Nat} : ∀ (ts : List Nat) (k i t : Nat), k + ts.length < 2147483648 → q_tab x F k ts d → ts[i]? = some t → x.toInt = k + i → F t
  | [], _, _, _, _, _, h, _ => by simp at h
  | t0 :: ts, k, 0, t, h2, h, ht, hx => by
    have e : t0 = t := by simpa using ht
    have hl : (t0 :: ts).length = ts.length + 1 := rfl
    have hk : x = nI k := by
      have h3 : x.toInt = (nI k).toInt := by rw [q_nIt (by omega)]; omega
      exact Int32.toInt_inj.mp h3
    unfold q_tab at h
    rw [if_pos hk] at h
    rw [← e]
    exact h
  | t0 :: ts, k, i + 1, t, h2, h, ht, hx => by
    have hl : (t0 :: ts).length = ts.length + 1 := rfl
    have hk : ¬ x = nI k := fun e => by
      have h3 : x.toInt = k := by rw [e]; exact q_nIt (by omega)
      omega
    unfold q_tab at h
    rw [if_neg hk] at h
    exact q_tab_in ts (k + 1) i t (by omega) h (by simpa using ht) (by omega)
theorem q_tab_out {x : Int32} {F : Nat → Prop} {d : Nat} : ∀ (ts : List Nat) (k : Nat), k + ts.length < 2147483648 → q_tab x F k ts d → (x.toInt < k ∨ (k : Int) + ts.length ≤ x.toInt) → F d
  | [], _, _, h, _ => h
  | t0 :: ts, k, h2, h, hx => by
    have hl : (t0 :: ts).length = ts.length + 1 := rfl
    have hk : ¬ x = nI k := fun e => by
      have h3 : x.toInt = k := by rw [e]; exact q_nIt (by omega)
      omega
    unfold q_tab at h
    rw [if_neg hk] at h
    exact q_tab_out ts (k + 1) (by omega) h (by omega)
theorem ok_table {mi : qMI} {pc d len lo : Nat} {dflt lo' hi : Int} {offs : Array Int} {ts : List Nat} (hd : decode mi.2.1 pc = .ok (.tableswitch dflt lo' hi offs, len)) (hlo : lo' = (lo : Int)) (hdf : (pc : Int) + dflt = (d : Int)) (hts : offs.toList.map (fun z => (pc : Int) + z) = ts.map (fun t : Nat => (t : Int))) (h2 : (lo : Int) + ts.length = hi + 1) (h3 : lo + ts.length < 2147483648) : q_Ok mi pc (oTab lo ts d) := by
  intro G L R Z p e σ m args below meth c E B hB K hK l st M cs ss h H locs ls hl hH hS
  unfold oTab at h
  subst hlo
  split at h
  · next x r =>
    by_cases hin : x.toInt < lo ∨ hi < x.toInt
    · exact lv_tableOut E.1 E.2.1 hd hin hdf (hK _ _ _ _ _ _ (q_tab_out (x := x) (F := fun t => K t l r M cs ss) ts lo h3 h (by omega)) H locs ls hl hH hS)
    · have g1 : ¬ x.toInt < lo := fun z => hin (Or.inl z)
      have g2 : ¬ hi < x.toInt := fun z => hin (Or.inr z)
      have hi2 : (x.toInt - lo).toNat < ts.length := by omega
      obtain ⟨t, ht⟩ : ∃ t, ts[(x.toInt - lo).toNat]? = some t := ⟨_, List.getElem?_eq_getElem hi2⟩
      have e1 : (offs.toList.map (fun z => (pc : Int) + z))[(x.toInt - lo).toNat]? = some (t : Int) := by rw [hts, List.getElem?_map, ht]; rfl
      rw [List.getElem?_map] at e1
      cases ho : offs.toList[(x.toInt - lo).toNat]? with
      | none => rw [ho] at e1; cases e1
      | some off =>
        rw [ho] at e1
        have e2 : (pc : Int) + off = (t : Int) := Option.some.inj e1
        exact lv_tableIn E.1 E.2.1 hd g1 g2 (by rw [← Array.getElem?_toList]; exact ho) e2 (hK _ _ _ _ _ _ (q_tab_in (x := x) (F := fun t => K t l r M cs ss) ts lo _ t h3 h ht (by omega)) H locs ls hl hH hS)
  · exact h.elim
theorem q_look_at {x : Int32} {F : Nat → Prop} {d : Nat} {df : Int} {pc : Nat} (hdf : (pc : Int) + df = (d : Int)) : ∀ (ps : List (Int × Int)) (ts : List (Nat × Nat)), ps.map (fun z => (z.1, (pc : Int) + z.2)) = ts.map (fun t : Nat × Nat => ((t.1 : Int), (t.2 : Int))) → (∀ z ∈ ts, z.1 < 2147483648) → q_look x F ts d → ∃ t : Nat, (pc : Int) + Op.lookupswitch.offset ps df x.toInt = (t : Int) ∧ F t
  | [], [], _, _, h => ⟨d, hdf, h⟩
  | [], _ :: _, hz, _, _ => by cases hz
  | _ :: _, [], hz, _, _ => by cases hz
  | z :: ps, t :: ts, hz, hb, h => by
    have e0 := List.cons.inj hz
    have e1 : z.1 = (t.1 : Int) := congrArg Prod.fst e0.1
    have e2 : (pc : Int) + z.2 = (t.2 : Int) := congrArg Prod.snd e0.1
    have hbz := hb t List.mem_cons_self
    obtain ⟨z1, z2⟩ := z
    have e6 : z1 = (t.1 : Int) := e1
    unfold q_look at h
    by_cases hx : x = nI t.1
    · rw [if_pos hx] at h
      refine ⟨t.2, ?_, h⟩
      have e3 : x.toInt = z1 := by rw [hx, e6]; exact q_nIt hbz
      rw [Op.lookupswitch.offset_cons, if_pos (by first | exact e3.symm | exact e3)]
      exact e2
    · rw [if_neg hx] at h
      obtain ⟨t', g1, g2⟩ := q_look_at hdf ps ts e0.2 (fun y hy => hb y (List.mem_cons_of_mem _ hy)) h
      refine ⟨t', ?_, g2⟩
      rw [Op.lookupswitch.offset_cons, if_neg]
      · exact g1
      · intro e4
        apply hx
        have e5 : x.toInt = z1 := by first | exact e4 | exact e4.symm
        exact Int32.toInt_inj.mp (by rw [e5, e6, q_nIt hbz])
theorem ok_lookup {mi : qMI} {pc d len : Nat} {dflt : Int} {ps : Array (Int × Int)} {ts : List (Nat × Nat)} (hd : decode mi.2.1 pc = .ok (.lookupswitch dflt ps, len)) (hp : (ps.toList.zip (ps.toList.drop 1)).all (fun (a, next) => a.1 < next.1) = true) (hdf : (pc : Int) + dflt = (d : Int)) (hts : ps.toList.map (fun z => (z.1, (pc : Int) + z.2)) = ts.map (fun t : Nat × Nat => ((t.1 : Int), (t.2 : Int)))) (hb : ∀ z ∈ ts, z.1 < 2147483648) : q_Ok mi pc (oLook ts d) := by
  intro G L R Z p e σ m args below meth c E B hB K hK l st M cs ss h H locs ls hl hH hS
  unfold oLook at h
  split at h
  · next x r =>
    obtain ⟨t, g1, g2⟩ := q_look_at hdf ps.toList ts hts hb h
    exact lv_lookup E.1 E.2.1 hd hp rfl g1 (hK _ _ _ _ _ _ g2 H locs ls hl hH hS)
  · exact h.elim
/-! fields -/
theorem q_P1 {D : va_G} {q : Nat × va_E} {H : Heap} (h : va_at D vwCl q H) : va_P D vwCl [q] H := by
  intro k q' hk
  cases k with
  | zero => cases hk; exact h
  | succ k => simp at hk
def oGet (ci k n : Nat) : qP := fun l st M c s _ K => match st with
  | .ref a :: r => (match M.2 a with
    | some (.inr (ci', fs)) => ci' = ci ∧ (match fs[k]? with
      | some v => K n l (v :: r) M c s
      | none => False)
    | _ => False)
  | _ => False
theorem ok_get {mi : qMI} {pc n ci k idx N : Nat} {C : String} {T : u_T} (hd : decode mi.2.1 pc = .ok (.getfield idx, 3)) (hn : pc + 3 = n) (hc : vwCl[ci]? = some (C, T, N)) (hin : ∀ w ∈ u_ws C T N, w ∈ q_gw) (hk : k < N) (hlink : Cond.fieldLink mi.1.cls idx (T k).1 (T k).2.1 (T k).2.2.1 ∈ q_gw) : q_Ok mi pc (oGet ci k n) := by
  intro G L R Z p e σ m args below meth c E B hB K hK l st M cs ss h H locs ls hl hH hS
  unfold oGet at h
  split at h
  · next a r =>
    split at h
    · next ci' fs hM =>
      obtain ⟨rfl, h⟩ := h
      split at h
      · next v hv =>
        subst hn
        exact va_get (D := G.1) (tys := q_tys G) (ws := [(a, .inr (ci', fs))]) E.1 E.2.1 E.2.2.2.2.1 hin E.2.2.2.1 E.2.2.2.2.2.2.2.2.1.1 (q_P1 (hH.2.2.2.2.2.2 a _ hM).2) 0 rfl hc k hk (E.2.2.2.2.1 _ hlink) (fun _ h9 => h9) hv hd (hK _ _ _ _ _ _ h H locs ls hl hH hS)
      · exact h.elim
    · exact h.elim
  · exact h.elim
/-- what a putfield does to the picture -/
theorem q_put {mi : qMI} {pc ci k idx N a : Nat} {C : String} {T : u_T} {ty : FieldType} {v : Value} {fs r : List Value} (ty0 : Nat → FieldType) (hd : decode mi.2.1 pc = .ok (.putfield idx, 3)) (hc : vwCl[ci]? = some (C, T, N)) (hin : ∀ w ∈ u_ws C T N, w ∈ q_gw) (hty : ∀ k, k < N → parseFieldDescriptor (T k).2.2.1 = some (ty0 k)) (hnm : ∀ a, a < N → ∀ b, b < N → a ≠ b → (T a).2.1 ≠ (T b).2.1) (hk : k < N) (hlink : Cond.fieldLink mi.1.cls idx (T k).1 (T k).2.1 (T k).2.2.1 ∈ q_gw)
    (hfin : (T k).2.2.2 = false ∨ ((T k).2.2.2 = true ∧ mi.1.name = "<init>" ∧ (T k).1 = mi.1.cls)) (hd2 : parseFieldDescriptor (T k).2.2.1 = some ty) (hnar : narrow ty v = v) (hfit : fits ty v = true)
    {G : qC} {L : Launch} {R : Room} {Z : State → Prop} {p : Program} {e : Env} {σ : State} {m : MethodId} {args : Array Value} {below : List Frame} {meth : Method} {c : Code} (E : q_Ev G mi p σ m args meth c) {H : Heap} {locs : List Loc} {ls : Array Slot} {M : qM} {cs ss : Nat} (hH : q_H G M H) (hS : va_S (q_A G) σ.heap H locs) (hM : M.2 a = some (.inr (ci, fs))) (hl : k < fs.length)
    (kk : ∀ (H1 : Heap) (locs1 : List Loc), q_H G (q_set M a (.inr (ci, fs.set k v))) H1 → va_S (q_A G) σ.heap H1 locs1 → W p L e R σ m args below meth c H1 locs1 cs ss Z (F0 m (pc + 3) ls r)) : W p L e R σ m args below meth c H locs cs ss Z (F0 m pc ls (v :: .ref a :: r)) := by
  have hts := E.2.2.2.2.1
  have hown := E.2.2.2.1
  have hKk := E.2.2.2.2.2.2.2.2.1.1
  have hap := va_apart (own := mi.1.cls) hts hin ty0 hty hnm hKk hc
  obtain ⟨hA, r', h1, cell, q1, q2, q3, q4⟩ := hH.2.2.2.2.2.2 a _ hM
  have hr : r' = (C, T, N) := Option.some.inj (h1.symm.trans hc)
  subst hr
  obtain ⟨hS2, hfc, kC, hkC, hkind⟩ := hKk.1 ci _ hc
  obtain ⟨cf, kf, fi, f, hi, hsl⟩ := hS2 k hk
  have hst := (u_facts hfc hkC (u_lays hts hin hk) hi).1
  have fin : ∀ H' : Heap, H'[a]? = some (cell.setSlot f.slot v) → H'.size = H.size → (∀ q : Nat, q ≠ a → H'[q]? = H[q]?) → W p L e R σ m args below meth c H' (locs ++ [⟨a, f.slot⟩]) cs ss Z (F0 m (pc + 3) ls r) := by
    intro H' e1 e2 e3
    rw [hsl] at e1
    exact kk H' _ (hH.setO hM e2 e3 ⟨_, hc, t_OB.to (V := updV (vp_V fs) k v) ⟨_, e1, q2, q3, t_set q4 hap hk v⟩ (fun j _ => vp_updV_set hl v j)⟩) (hS.put e2 e3 hA)
  rcases hfin with hfin | ⟨hfin, hin2, hdecl⟩
  · have hlay := hts _ (hin _ (u_in_lay hk))
    unfold u_lay at hlay
    rw [if_neg (by rw [hfin]; decide)] at hlay
    have h6 := u_store hfc hkC hkind hlay hi hd2 hnar hfit
    exact W.putK E.1 E.2.1 (f := f) ⟨hown, hts _ hlink, ⟨_, _, _, hi⟩, hst⟩ (by rw [q2]; exact h6) q1 q3 (by rw [hsl]; exact k2_hasslot (q4 k hk)) rfl rfl hd fin
  · have hlay := hts _ (hin _ (u_in_lay hk))
    unfold u_lay at hlay
    rw [if_pos hfin] at hlay
    have hcf : m.cls = cf := by
      obtain ⟨_, _, c', _, _, _, -, -, hf', -, -, -, hown2, -⟩ := Cond.laysFinal_spec hlay
      have e1 : c' = cf := by have := hi.symm.trans hf'; simp at this; exact this.1.symm
      rw [hdecl] at hown2
      rw [← e1]; exact Option.some.inj (hown.symm.trans hown2)
    have h6 := u_fits hfc hkC hkind (Or.inr hlay) hi hd2 hnar hfit
    exact W.putFinK E.1 E.2.1 hown (hts _ hlink) hi hst hcf (E.2.2.2.2.2.2.2.1.trans hin2) (by rw [q2]; exact h6) q1 q3 (by rw [hsl]; exact k2_hasslot (q4 k hk)) rfl rfl hd fin
def oPutI (ci k n : Nat) : qP := fun l st M c s _ K => match st with
  | .int x :: .ref a :: r => (match M.2 a with
    | some (.inr (ci', fs)) => ci' = ci ∧ k < fs.length ∧ K n l r (q_set M a (.inr (ci, fs.set k (.int x)))) c s
    | _ => False)
  | _ => False
def oPutZ (ci k n : Nat) : qP := fun l st M c s _ K => match st with
  | .int x :: .ref a :: r => (match M.2 a with
    | some (.inr (ci', fs)) => ci' = ci ∧ k < fs.length ∧ (x = 0 ∨ x = 1) ∧ K n l r (q_set M a (.inr (ci, fs.set k (.int x)))) c s
    | _ => False)
  | _ => False
def oPutR (ci k n : Nat) : qP := fun l st M c s _ K => match st with
  | .ref x :: .ref a :: r => (match M.2 a with
    | some (.inr (ci', fs)) => ci' = ci ∧ k < fs.length ∧ K n l r (q_set M a (.inr (ci, fs.set k (.ref x)))) c s
    | _ => False)
  | _ => False
theorem ok_putI {mi : qMI} {pc n ci k idx N : Nat} {C : String} {T : u_T} (ty0 : Nat → FieldType) (hd : decode mi.2.1 pc = .ok (.putfield idx, 3)) (hn : pc + 3 = n) (hc : vwCl[ci]? = some (C, T, N)) (hin : ∀ w ∈ u_ws C T N, w ∈ q_gw) (hty : ∀ k, k < N → parseFieldDescriptor (T k).2.2.1 = some (ty0 k)) (hnm : ∀ a, a < N → ∀ b, b < N → a ≠ b → (T a).2.1 ≠ (T b).2.1) (hk : k < N) (hlink : Cond.fieldLink mi.1.cls idx (T k).1 (T k).2.1 (T k).2.2.1 ∈ q_gw) (hfin : (T k).2.2.2 = false ∨ ((T k).2.2.2 = true ∧ mi.1.name = "<init>" ∧ (T k).1 = mi.1.cls)) (hd2 : parseFieldDescriptor (T k).2.2.1 = some .int) : q_Ok mi pc (oPutI ci k n) := by
  intro G L R Z p e σ m args below meth c E B hB K hK l st M cs ss h H locs ls hl hH hS
  unfold oPutI at h
  split at h
  · next x a r =>
    split at h
    · next ci' fs hM =>
      obtain ⟨rfl, h⟩ := h
      subst hn
      exact q_put ty0 hd hc hin hty hnm hk hlink hfin hd2 rfl rfl E hH hS hM h.1 (fun H1 locs1 g1 g2 => hK _ _ _ _ _ _ h.2 H1 locs1 ls hl g1 g2)
    · exact h.elim
  · exact h.elim
theorem ok_putZ {mi : qMI} {pc n ci k idx N : Nat} {C : String} {T : u_T} (ty0 : Nat → FieldType) (hd : decode mi.2.1 pc = .ok (.putfield idx, 3)) (hn : pc + 3 = n) (hc : vwCl[ci]? = some (C, T, N)) (hin : ∀ w ∈ u_ws C T N, w ∈ q_gw) (hty : ∀ k, k < N → parseFieldDescriptor (T k).2.2.1 = some (ty0 k)) (hnm : ∀ a, a < N → ∀ b, b < N → a ≠ b → (T a).2.1 ≠ (T b).2.1) (hk : k < N) (hlink : Cond.fieldLink mi.1.cls idx (T k).1 (T k).2.1 (T k).2.2.1 ∈ q_gw) (hfin : (T k).2.2.2 = false ∨ ((T k).2.2.2 = true ∧ mi.1.name = "<init>" ∧ (T k).1 = mi.1.cls)) (hd2 : parseFieldDescriptor (T k).2.2.1 = some .boolean) : q_Ok mi pc (oPutZ ci k n) := by
  intro G L R Z p e σ m args below meth c E B hB K hK l st M cs ss h H locs ls hl hH hS
  unfold oPutZ at h
  split at h
  · next x a r =>
    split at h
    · next ci' fs hM =>
      obtain ⟨rfl, h⟩ := h
      subst hn
      have hx := h.2.1
      exact q_put ty0 hd hc hin hty hnm hk hlink hfin hd2 (by rcases hx with rfl | rfl <;> rfl) (by rcases hx with rfl | rfl <;> rfl) E hH hS hM h.1 (fun H1 locs1 g1 g2 => hK _ _ _ _ _ _ h.2.2 H1 locs1 ls hl g1 g2)
    · exact h.elim
  · exact h.elim
theorem ok_putR {mi : qMI} {pc n ci k idx N : Nat} {C : String} {T : u_T} (ty0 : Nat → FieldType) (hd : decode mi.2.1 pc = .ok (.putfield idx, 3)) (hn : pc + 3 = n) (hc : vwCl[ci]? = some (C, T, N)) (hin : ∀ w ∈ u_ws C T N, w ∈ q_gw) (hty : ∀ k, k < N → parseFieldDescriptor (T k).2.2.1 = some (ty0 k)) (hnm : ∀ a, a < N → ∀ b, b < N → a ≠ b → (T a).2.1 ≠ (T b).2.1) (hk : k < N) (hlink : Cond.fieldLink mi.1.cls idx (T k).1 (T k).2.1 (T k).2.2.1 ∈ q_gw) (hfin : (T k).2.2.2 = false ∨ ((T k).2.2.2 = true ∧ mi.1.name = "<init>" ∧ (T k).1 = mi.1.cls)) {ty : FieldType} (hd2 : parseFieldDescriptor (T k).2.2.1 = some ty) (hr : ∀ x : Nat, narrow ty (.ref x) = .ref x ∧ fits ty (.ref x) = true) : q_Ok mi pc (oPutR ci k n) := by
  intro G L R Z p e σ m args below meth c E B hB K hK l st M cs ss h H locs ls hl hH hS
  unfold oPutR at h
  split at h
  · next x a r =>
    split at h
    · next ci' fs hM =>
      obtain ⟨rfl, h⟩ := h
      subst hn
      exact q_put ty0 hd hc hin hty hnm hk hlink hfin hd2 (hr x).1 (hr x).2 E hH hS hM h.1 (fun H1 locs1 g1 g2 => hK _ _ _ _ _ _ h.2 H1 locs1 ls hl g1 g2)
    · exact h.elim
  · exact h.elim
theorem q_rfO (s : String) (x : Nat) : narrow (.object s) (.ref x) = .ref x ∧ fits (.object s) (.ref x) = true := ⟨rfl, rfl⟩
theorem q_rfA (t : FieldType) (x : Nat) : narrow (.array t) (.ref x) = .ref x ∧ fits (.array t) (.ref x) = true := ⟨rfl, rfl⟩
/-! the two tables -/
def oStO (n : Nat) : qP := fun l st M c s B K => K n l (.ref B.2.2.2.2.2.2.1 :: st) M c s
def oStW (n : Nat) : qP := fun l st M c s B K => K n l (.ref B.2.2.2.2.2.2.2 :: st) M c s
theorem q_Zk {G : qC} {C n d : String} {v : Value} {σ : State} (h : va_Z C n d v (q_A G) σ G.2.2.1) (hp : q_Pf G σ.heap) : va_Z C n d v (q_A G) σ σ.heap := h.kept (fun a ha _ => hp.2 a ha)
theorem q_Tk {G : qC} {ty : FieldType} {t N : Nat} {f : Nat → Value} {σ : State} (h : va_T ty t N f (q_A G) σ G.2.2.1) (hp : q_Pf G σ.heap) : va_T ty t N f (q_A G) σ σ.heap := h.kept (fun a ha _ => hp.2 a ha)
theorem ok_stO {mi : qMI} {pc n idx : Nat} (hd : decode mi.2.1 pc = .ok (.getstatic idx, 3)) (hn : pc + 3 = n) (hlink : Cond.fieldLink mi.1.cls idx "ShownPatterns" "OWN_COST" "[I" ∈ q_gw) : q_Ok mi pc (oStO n) := by
  intro G L R Z p e σ m args below meth c E B hB K hK l st M cs ss h H locs ls hl hH hS
  subst hn
  have h2 : K (pc + 3) l (.ref G.2.2.2.1 :: st) M cs ss := by rw [← hB.2.2.2.2.2.2.1]; exact h
  exact va_gets E.1 E.2.1 (q_Zk E.2.2.2.2.2.2.2.2.1.2.2.2.1 E.2.2.2.2.2.2.2.2.2) hS E.2.2.2.1 (E.2.2.2.2.1 _ hlink) (fun _ h9 => h9) hd (hK _ _ _ _ _ _ h2 H locs ls hl hH hS)
theorem ok_stW {mi : qMI} {pc n idx : Nat} (hd : decode mi.2.1 pc = .ok (.getstatic idx, 3)) (hn : pc + 3 = n) (hlink : Cond.fieldLink mi.1.cls idx "ShownPatterns" "POWERS" "[I" ∈ q_gw) : q_Ok mi pc (oStW n) := by
  intro G L R Z p e σ m args below meth c E B hB K hK l st M cs ss h H locs ls hl hH hS
  subst hn
  have h2 : K (pc + 3) l (.ref G.2.2.2.2.1 :: st) M cs ss := by rw [← hB.2.2.2.2.2.2.2]; exact h
  exact va_gets E.1 E.2.1 (q_Zk E.2.2.2.2.2.2.2.2.1.2.2.2.2.2.1 E.2.2.2.2.2.2.2.2.2) hS E.2.2.2.1 (E.2.2.2.2.1 _ hlink) (fun _ h9 => h9) hd (hK _ _ _ _ _ _ h2 H locs ls hl hH hS)
theorem ok_stWN {mi : qMI} {pc n idx : Nat} {host : String} (hd : decode mi.2.1 pc = .ok (.getstatic idx, 3)) (hn : pc + 3 = n) (hlink : Cond.fieldLinkNest mi.1.cls idx "ShownPatterns" "POWERS" "[I" host ∈ lw_tbl) : q_Ok mi pc (oStW n) := by
  intro G L R Z p e σ m args below meth c E B hB K hK l st M cs ss h H locs ls hl hH hS
  subst hn
  have h2 : K (pc + 3) l (.ref G.2.2.2.2.1 :: st) M cs ss := by rw [← hB.2.2.2.2.2.2.2]; exact h
  exact va_getsN E.1 E.2.1 (q_Zk E.2.2.2.2.2.2.2.2.1.2.2.2.2.2.1 E.2.2.2.2.2.2.2.2.2) hS E.2.2.2.1 (va_Nw.use rfl (E.2.2.2.2.2.2.2.2.1.2.1 _ hlink rfl)) (fun _ h9 => h9) hd (hK _ _ _ _ _ _ h2 H locs ls hl hH hS)
/-! arrays -/
def oIald (n : Nat) : qP := fun l st M c s _ K => match st with
  | .int j :: .ref a :: r => (match M.2 a with
    | some (.inl (t, m, .inl f)) => (t = 1 ∨ t = 6) ∧ vp_in j m ∧ K n l (.int (f j.toNatClampNeg) :: r) M c s
    | _ => False)
  | _ => False
theorem ok_iaload {mi : qMI} {pc n : Nat} (hd : decode mi.2.1 pc = .ok (.iaload, 1)) (hn : pc + 1 = n) : q_Ok mi pc (oIald n) := by
  intro G L R Z p e σ m args below meth c E B hB K hK l st M cs ss h H locs ls hl hH hS
  unfold oIald at h
  split at h
  · next j a r =>
    split at h
    · next t m' f hM =>
      obtain ⟨ht, hin, h⟩ := h
      subst hn
      rcases ht with rfl | rfl
      · exact va_iald (D := G.1) (cl := vwCl) (tys := q_tys G) (ws := [(a, .inl (G.2.1 1, m', .inl f))]) E.1 E.2.1 E.2.2.2.2.2.2.2.2.1.1 (q_P1 (hH.2.2.2.2.2.1 a 1 _ hM (by decide)).2) 0 0 rfl rfl hin hd (hK _ _ _ _ _ _ h H locs ls hl hH hS)
      · rcases hH.2.2.2.2.1 a _ hM with ⟨rfl, hx⟩ | ⟨rfl, hx⟩ | ⟨rfl, hx⟩
        · cases hx
          exact va_ti E.1 E.2.1 (q_Tk E.2.2.2.2.2.2.2.2.1.2.2.2.2.1 E.2.2.2.2.2.2.2.2.2) hS hin rfl hd (hK _ _ _ _ _ _ h H locs ls hl hH hS)
        · cases hx
          exact va_ti E.1 E.2.1 (q_Tk E.2.2.2.2.2.2.2.2.1.2.2.2.2.2.2.1 E.2.2.2.2.2.2.2.2.2) hS hin rfl hd (hK _ _ _ _ _ _ h H locs ls hl hH hS)
        · cases hx
          exact va_ti E.1 E.2.1 (q_Tk E.2.2.2.2.2.2.2.2.1.2.2.2.2.2.2.2 E.2.2.2.2.2.2.2.2.2) hS hin rfl hd (hK _ _ _ _ _ _ h H locs ls hl hH hS)
    · exact h.elim
  · exact h.elim
def oZald (n : Nat) : qP := fun l st M c s _ K => match st with
  | .int j :: .ref a :: r => (match M.2 a with
    | some (.inl (t, m, .inl f)) => t = 3 ∧ vp_in j m ∧ K n l (.int (f j.toNatClampNeg) :: r) M c s
    | _ => False)
  | _ => False
theorem ok_zaload {mi : qMI} {pc n : Nat} (hd : decode mi.2.1 pc = .ok (.baload, 1)) (hn : pc + 1 = n) : q_Ok mi pc (oZald n) := by
  intro G L R Z p e σ m args below meth c E B hB K hK l st M cs ss h H locs ls hl hH hS
  unfold oZald at h
  split at h
  · next j a r =>
    split at h
    · next t m' f hM =>
      obtain ⟨rfl, hin, h⟩ := h
      subst hn
      exact va_zald (D := G.1) (cl := vwCl) (tys := q_tys G) (ws := [(a, .inl (G.2.1 3, m', .inl f))]) E.1 E.2.1 E.2.2.2.2.2.2.2.2.1.1 (q_P1 (hH.2.2.2.2.2.1 a 3 _ hM (by decide)).2) 0 2 rfl rfl hin hd (hK _ _ _ _ _ _ h H locs ls hl hH hS)
    · exact h.elim
  · exact h.elim
def oYald (n : Nat) : qP := fun l st M c s _ K => match st with
  | .int j :: .ref a :: r => (match M.2 a with
    | some (.inl (t, m, .inl f)) => t = 4 ∧ vp_in j m ∧ K n l (.int (f j.toNatClampNeg) :: r) M c s
    | _ => False)
  | _ => False
theorem ok_yaload {mi : qMI} {pc n : Nat} (hd : decode mi.2.1 pc = .ok (.baload, 1)) (hn : pc + 1 = n) : q_Ok mi pc (oYald n) := by
  intro G L R Z p e σ m args below meth c E B hB K hK l st M cs ss h H locs ls hl hH hS
  unfold oYald at h
  split at h
  · next j a r =>
    split at h
    · next t m' f hM =>
      obtain ⟨rfl, hin, h⟩ := h
      subst hn
      exact va_bald (D := G.1) (cl := vwCl) (tys := q_tys G) (ws := [(a, .inl (G.2.1 4, m', .inl f))]) E.1 E.2.1 E.2.2.2.2.2.2.2.2.1.1 (q_P1 (hH.2.2.2.2.2.1 a 4 _ hM (by decide)).2) 0 3 rfl rfl hin hd (hK _ _ _ _ _ _ h H locs ls hl hH hS)
    · exact h.elim
  · exact h.elim
def oLald (n : Nat) : qP := fun l st M c s _ K => match st with
  | .int j :: .ref a :: r => (match M.2 a with
    | some (.inl (t, m, .inr (.inl f))) => t = 2 ∧ vp_in j m ∧ K n l (.long (f j.toNatClampNeg) :: r) M c s
    | _ => False)
  | _ => False
theorem ok_laload {mi : qMI} {pc n : Nat} (hd : decode mi.2.1 pc = .ok (.laload, 1)) (hn : pc + 1 = n) : q_Ok mi pc (oLald n) := by
  intro G L R Z p e σ m args below meth c E B hB K hK l st M cs ss h H locs ls hl hH hS
  unfold oLald at h
  split at h
  · next j a r =>
    split at h
    · next t m' f hM =>
      obtain ⟨rfl, hin, h⟩ := h
      subst hn
      exact va_lald (D := G.1) (cl := vwCl) (tys := q_tys G) (ws := [(a, .inl (G.2.1 2, m', .inr (.inl f)))]) E.1 E.2.1 E.2.2.2.2.2.2.2.2.1.1 (q_P1 (hH.2.2.2.2.2.1 a 2 _ hM (by decide)).2) 0 1 rfl rfl hin hd (hK _ _ _ _ _ _ h H locs ls hl hH hS)
    · exact h.elim
  · exact h.elim
def oAald (n : Nat) : qP := fun l st M c s _ K => match st with
  | .int j :: .ref a :: r => (match M.2 a with
    | some (.inl (t, m, .inr (.inr (.inr (.inr f))))) => t = 5 ∧ vp_in j m ∧ K n l (va_rf (f j.toNatClampNeg) :: r) M c s
    | _ => False)
  | _ => False
theorem ok_aaload {mi : qMI} {pc n : Nat} (hd : decode mi.2.1 pc = .ok (.aaload, 1)) (hn : pc + 1 = n) : q_Ok mi pc (oAald n) := by
  intro G L R Z p e σ m args below meth c E B hB K hK l st M cs ss h H locs ls hl hH hS
  unfold oAald at h
  split at h
  · next j a r =>
    split at h
    · next t m' f hM =>
      obtain ⟨rfl, hin, h⟩ := h
      subst hn
      exact va_aldq (D := G.1) (cl := vwCl) (tys := q_tys G) (ws := [(a, .inl (G.2.1 5, m', .inr (.inr (.inr (.inr f)))))]) E.1 E.2.1 E.2.2.2.2.2.2.2.2.1.1 (q_P1 (hH.2.2.2.2.2.1 a 5 _ hM (by decide)).2) 0 4 rfl rfl hin hd (hK _ _ _ _ _ _ h H locs ls hl hH hS)
    · exact h.elim
  · exact h.elim
def oIast (n : Nat) : qP := fun l st M c s _ K => match st with
  | .int x :: .int j :: .ref a :: r => (match M.2 a with
    | some (.inl (t, m, .inl f)) => t = 1 ∧ vp_in j m ∧ K n l r (q_set M a (.inl (1, m, .inl (upd f j.toNatClampNeg x)))) c s
    | _ => False)
  | _ => False
theorem ok_iastore {mi : qMI} {pc n : Nat} (hd : decode mi.2.1 pc = .ok (.iastore, 1)) (hn : pc + 1 = n) : q_Ok mi pc (oIast n) := by
  intro G L R Z p e σ m args below meth c E B hB K hK l st M cs ss h H locs ls hl hH hS
  unfold oIast at h
  split at h
  · next x j a r =>
    split at h
    · next t m' f hM =>
      obtain ⟨rfl, hin, h⟩ := h
      subst hn
      obtain ⟨hA, hcell⟩ := hH.2.2.2.2.2.1 a 1 _ hM (by decide)
      refine W.iast E.1 E.2.1 hcell ((E.2.2.2.2.2.2.2.2.1.1.2 0 _ rfl).1 m' (fun j => .int (f j))) (fun q => by cases q) (by show ¬ (j < 0 ∨ (arrV _ _ _).slots.size ≤ _); rw [arrV_size]; exact hin) rfl rfl hd fun H1 e1 z oq => ?_
      refine hK _ _ _ _ _ _ h H1 _ ls hl (hH.setA hM (by decide) z oq ?_) (hS.put z oq hA)
      rw [e1, vp_cell_i, vp_cell_i, arrV_store]
      congr 2
      funext q
      by_cases hq : q = j.toNatClampNeg
      · subst hq
        simp [updV, upd]
        try rfl
      · simp [updV, upd, hq]
    · exact h.elim
  · exact h.elim
def oYast (n : Nat) : qP := fun l st M c s _ K => match st with
  | .int x :: .int j :: .ref a :: r => (match M.2 a with
    | some (.inl (t, m, .inl f)) => t = 4 ∧ vp_in j m ∧ K n l r (q_set M a (.inl (4, m, .inl (upd f j.toNatClampNeg (vp_nar .byte x))))) c s
    | _ => False)
  | _ => False
theorem ok_yastore {mi : qMI} {pc n : Nat} (hd : decode mi.2.1 pc = .ok (.bastore, 1)) (hn : pc + 1 = n) : q_Ok mi pc (oYast n) := by
  intro G L R Z p e σ m args below meth c E B hB K hK l st M cs ss h H locs ls hl hH hS
  unfold oYast at h
  split at h
  · next x j a r =>
    split at h
    · next t m' f hM =>
      obtain ⟨rfl, hin, h⟩ := h
      subst hn
      obtain ⟨hA, hcell⟩ := hH.2.2.2.2.2.1 a 4 _ hM (by decide)
      refine W.bast E.1 E.2.1 hcell ((E.2.2.2.2.2.2.2.2.1.1.2 3 _ rfl).1 m' (fun j => .int (f j))) (fun q => by cases q) (by show ¬ (j < 0 ∨ (arrV _ _ _).slots.size ≤ _); rw [arrV_size]; exact hin) rfl rfl hd fun H1 e1 z oq => ?_
      refine hK _ _ _ _ _ _ h H1 _ ls hl (hH.setA hM (by decide) z oq ?_) (hS.put z oq hA)
      rw [e1, vp_cell_i, vp_cell_i, arrV_store]
      congr 2
      funext q
      by_cases hq : q = j.toNatClampNeg
      · subst hq
        simp [updV, upd, vp_nar]
        try rfl
      · simp [updV, upd, vp_nar, hq]
    · exact h.elim
  · exact h.elim
def oLast (n : Nat) : qP := fun l st M c s _ K => match st with
  | .long x :: .int j :: .ref a :: r => (match M.2 a with
    | some (.inl (t, m, .inr (.inl f))) => t = 2 ∧ vp_in j m ∧ K n l r (q_set M a (.inl (2, m, .inr (.inl (vp_updL f j.toNatClampNeg x))))) c s
    | _ => False)
  | _ => False
theorem ok_lastore {mi : qMI} {pc n : Nat} (hd : decode mi.2.1 pc = .ok (.lastore, 1)) (hn : pc + 1 = n) : q_Ok mi pc (oLast n) := by
  intro G L R Z p e σ m args below meth c E B hB K hK l st M cs ss h H locs ls hl hH hS
  unfold oLast at h
  split at h
  · next x j a r =>
    split at h
    · next t m' f hM =>
      obtain ⟨rfl, hin, h⟩ := h
      subst hn
      obtain ⟨hA, hcell⟩ := hH.2.2.2.2.2.1 a 2 _ hM (by decide)
      refine W.last E.1 E.2.1 hcell ((E.2.2.2.2.2.2.2.2.1.1.2 1 _ rfl).1 m' (fun j => .long (f j))) (fun q => by cases q) (by show ¬ (j < 0 ∨ (arrV _ _ _).slots.size ≤ _); rw [arrV_size]; exact hin) rfl rfl hd fun H1 e1 z oq => ?_
      refine hK _ _ _ _ _ _ h H1 _ ls hl (hH.setA hM (by decide) z oq ?_) (hS.put z oq hA)
      rw [e1, vp_cell_l, vp_cell_l, arrV_store]
      congr 2
      funext q
      by_cases hq : q = j.toNatClampNeg
      · subst hq
        simp [updV, vp_updL]
        try rfl
      · simp [updV, vp_updL, hq]
    · exact h.elim
  · exact h.elim
def oZast (n : Nat) : qP := fun l st M c s _ K => match st with
  | .int x :: .int j :: .ref a :: r => (match M.2 a with
    | some (.inl (t, m, .inl f)) => t = 3 ∧ vp_in j m ∧ (x = 0 ∨ x = 1) ∧ K n l r (q_set M a (.inl (3, m, .inl (upd f j.toNatClampNeg x)))) c s
    | _ => False)
  | _ => False
theorem ok_zastore {mi : qMI} {pc n : Nat} (hd : decode mi.2.1 pc = .ok (.bastore, 1)) (hn : pc + 1 = n) : q_Ok mi pc (oZast n) := by
  intro G L R Z p e σ m args below meth c E B hB K hK l st M cs ss h H locs ls hl hH hS
  unfold oZast at h
  split at h
  · next x j a r =>
    split at h
    · next t m' f hM =>
      obtain ⟨rfl, hin, hx01, h⟩ := h
      subst hn
      obtain ⟨hA, hcell⟩ := hH.2.2.2.2.2.1 a 3 _ hM (by decide)
      refine W.zast E.1 E.2.1 hcell ((E.2.2.2.2.2.2.2.2.1.1.2 2 _ rfl).1 m' (fun j => .int (f j))) (fun q => by cases q) (by show ¬ (j < 0 ∨ (arrV _ _ _).slots.size ≤ _); rw [arrV_size]; exact hin) rfl rfl hd fun H1 e1 z oq => ?_
      refine hK _ _ _ _ _ _ h H1 _ ls hl (hH.setA hM (by decide) z oq ?_) (hS.put z oq hA)
      rw [e1, vp_cell_i, vp_cell_i, arrV_store]
      congr 2
      funext q
      by_cases hq : q = j.toNatClampNeg
      · subst hq
        simp [updV, upd, vp_nar]
        first | rfl | (rcases hx01 with rfl | rfl <;> rfl)
      · simp [updV, upd, vp_nar, hq]
    · exact h.elim
  · exact h.elim
def oAast (n : Nat) : qP := fun l st M c s _ K => match st with
  | .ref v :: .int j :: .ref a :: r => (match M.2 a with
    | some (.inl (t, m, .inr (.inr (.inr (.inr f))))) => t = 5 ∧ vp_in j m ∧ (match M.2 v with
      | some (.inr (ci, _)) => ci = 4
      | _ => False) ∧ K n l r (q_set M a (.inl (5, m, .inr (.inr (.inr (.inr (va_up f j.toNatClampNeg (some v)))))))) c s
    | _ => False)
  | _ => False
theorem ok_aastore {mi : qMI} {pc n : Nat} (hd : decode mi.2.1 pc = .ok (.aastore, 1)) (hn : pc + 1 = n) : q_Ok mi pc (oAast n) := by
  intro G L R Z p e σ m args below meth c E B hB K hK l st M cs ss h H locs ls hl hH hS
  unfold oAast at h
  split at h
  · next v j a r =>
    split at h
    · next t m' f hM =>
      obtain ⟨rfl, hin, hv, h⟩ := h
      split at hv
      · next ci vs hMv =>
        subst hv
        subst hn
        obtain ⟨hA, hcell⟩ := hH.2.2.2.2.2.1 a 5 _ hM (by decide)
        have hlt : j.toNatClampNeg < m' := Nat.not_le.mp fun q => hin (Or.inr q)
        have h0 : ¬ j < 0 := fun q => hin (Or.inl q)
        have hKk := E.2.2.2.2.2.2.2.2.1.1
        obtain ⟨-, r', hr', cellV, g1, g2, g3, -⟩ := hH.2.2.2.2.2.2 v _ hMv
        have hcls := (hKk.1 4 (RX4, TX4, 4) rfl).2
        obtain ⟨kA, comp, k1, k2, k3, -⟩ := (hKk.2 4 (G.2.1 5, .object "ShownPatterns$Nodes") rfl).2
        have hcomp : comp = G.1.1 4 := Option.some.inj (k3.symm.trans hcls.1)
        subst hcomp
        obtain ⟨kC, hkC, -⟩ := hcls.2
        refine W.aast E.1 E.2.1 hcell (fun q h => by cases h) (fun h => by cases h) k1 k2 rfl hkC ⟨h0, by show _ < (arrV _ _ _).slots.size; rw [arrV_size]; exact hlt⟩ g1 (fun q h => by rw [g3] at h; cases h) (by rw [g2]; exact hkC) (by rw [g2]; exact va_assign hcls) rfl rfl hd fun H1 e1 z oq => ?_
        refine hK _ _ _ _ _ _ h H1 _ ls hl (hH.setA hM (by decide) z oq ?_) (hS.put z oq hA)
        rw [e1, vp_cell_q, vp_cell_q, arrV_store]
        congr 2
        funext q
        by_cases hq : q = j.toNatClampNeg
        · subst hq
          simp [updV, va_up, va_rf]
        · simp [updV, va_up, hq]
      · exact hv.elim
    · exact h.elim
  · exact h.elim
def oAlen (n : Nat) : qP := fun l st M c s _ K => match st with
  | .ref a :: r => (match M.2 a with
    | some (.inl (t, m, _)) => K n l (.int (nI m) :: r) M c s ∧ (t = 1 ∨ t = 2 ∨ t = 3 ∨ t = 4 ∨ t = 5 ∨ t = 6)
    | _ => False)
  | _ => False
theorem ok_alen {mi : qMI} {pc n : Nat} (hd : decode mi.2.1 pc = .ok (.arraylength, 1)) (hn : pc + 1 = n) : q_Ok mi pc (oAlen n) := by
  intro G L R Z p e σ m args below meth c E B hB K hK l st M cs ss h H locs ls hl hH hS
  unfold oAlen at h
  split at h
  · next a r =>
    split at h
    · next t m' f hM =>
      obtain ⟨h, ht⟩ := h
      subst hn
      have hKk := E.2.2.2.2.2.2.2.2.1.1
      have go := hK _ _ _ _ _ _ h H locs ls hl hH hS
      rcases ht with rfl | rfl | rfl | rfl | rfl | rfl
      · exact va_alen (D := G.1) (cl := vwCl) (tys := q_tys G) (ws := [(a, .inl (G.2.1 1, m', f))]) E.1 E.2.1 hKk (q_P1 (hH.2.2.2.2.2.1 a 1 _ hM (by decide)).2) 0 0 rfl rfl rfl hd go
      · exact va_alen (D := G.1) (cl := vwCl) (tys := q_tys G) (ws := [(a, .inl (G.2.1 2, m', f))]) E.1 E.2.1 hKk (q_P1 (hH.2.2.2.2.2.1 a 2 _ hM (by decide)).2) 0 1 rfl rfl rfl hd go
      · exact va_alen (D := G.1) (cl := vwCl) (tys := q_tys G) (ws := [(a, .inl (G.2.1 3, m', f))]) E.1 E.2.1 hKk (q_P1 (hH.2.2.2.2.2.1 a 3 _ hM (by decide)).2) 0 2 rfl rfl rfl hd go
      · exact va_alen (D := G.1) (cl := vwCl) (tys := q_tys G) (ws := [(a, .inl (G.2.1 4, m', f))]) E.1 E.2.1 hKk (q_P1 (hH.2.2.2.2.2.1 a 4 _ hM (by decide)).2) 0 3 rfl rfl rfl hd go
      · exact va_alen (D := G.1) (cl := vwCl) (tys := q_tys G) (ws := [(a, .inl (G.2.1 5, m', f))]) E.1 E.2.1 hKk (q_P1 (hH.2.2.2.2.2.1 a 5 _ hM (by decide)).2) 0 4 rfl rfl rfl hd go
      · rcases hH.2.2.2.2.1 a _ hM with ⟨rfl, hx⟩ | ⟨rfl, hx⟩ | ⟨rfl, hx⟩
        · cases hx
          obtain ⟨cell, h1, h2, h3, h4, h5, h6, h7⟩ := q_Tk E.2.2.2.2.2.2.2.2.1.2.2.2.2.1 E.2.2.2.2.2.2.2.2.2
          exact W.alen E.1 E.2.1 (by rw [hS.2.1 _ (Array.getElem?_eq_some_iff.mp h1).1 h7]; exact h1) h2 h5 rfl rfl hd go
        · cases hx
          obtain ⟨cell, h1, h2, h3, h4, h5, h6, h7⟩ := q_Tk E.2.2.2.2.2.2.2.2.1.2.2.2.2.2.2.1 E.2.2.2.2.2.2.2.2.2
          exact W.alen E.1 E.2.1 (by rw [hS.2.1 _ (Array.getElem?_eq_some_iff.mp h1).1 h7]; exact h1) h2 h5 rfl rfl hd go
        · cases hx
          obtain ⟨cell, h1, h2, h3, h4, h5, h6, h7⟩ := q_Tk E.2.2.2.2.2.2.2.2.1.2.2.2.2.2.2.2 E.2.2.2.2.2.2.2.2.2
          exact W.alen E.1 E.2.1 (by rw [hS.2.1 _ (Array.getElem?_eq_some_iff.mp h1).1 h7]; exact h1) h2 h5 rfl rfl hd go
    · exact h.elim
  · exact h.elim
/-! making -/
def q_zero (t : Nat) : (Nat → Int32) ⊕ (Nat → Int64) ⊕ (Nat → UInt32) ⊕ (Nat → UInt64) ⊕ (Nat → Option Nat) := if t = 2 then .inr (.inl (fun _ => 0)) else .inl (fun _ => 0)
def oNewa (t n : Nat) : qP := fun l st M c s B K => match st with
  | .int j :: r => ¬ j < 0 ∧ j.toNatClampNeg ≤ 1000000 ∧ c + 1 ≤ B.2.2.2.2.1 ∧ s + j.toNatClampNeg ≤ B.2.2.2.2.2.1 ∧ K n l (.ref M.1 :: r) (q_new M (.inl (t, j.toNatClampNeg, q_zero t))) (c + 1) (s + j.toNatClampNeg)
  | _ => False
theorem ok_newa_int {mi : qMI} {pc n : Nat} (hd : decode mi.2.1 pc = .ok (.newarray .int, 2)) (hn : pc + 2 = n) (hw : Cond.arrayClass .int ∈ q_gw) : q_Ok mi pc (oNewa 1 n) := by
  intro G L R Z p e σ m args below meth c E B hB K hK l st M cs ss h H locs ls hl hH hS
  unfold oNewa at h
  split at h
  · next j r =>
    obtain ⟨h0, h1, h2, h3, h⟩ := h
    subst hn
    refine va_newaK (atype := .int) E.1 E.2.1 (E.2.2.2.2.1 _ hw) rfl hd rfl h0 rfl (by show j.toNatClampNeg * componentBytes .int ≤ _; have : componentBytes .int ≤ 8 := (by decide); have := Nat.mul_le_mul_left j.toNatClampNeg this; omega) (Nat.le_trans h2 hB.2.2.2.2.1) (Nat.le_trans h3 hB.2.2.2.2.2.1) rfl fun H1 cA e1 z1 o1 hAr hNm => ?_
    have hcA : cA = G.2.1 1 := Option.some.inj (hNm.symm.trans (E.2.2.2.2.2.2.2.2.1.1.2 0 _ rfl).2)
    subst hcA
    have hM1 : M.1 = H.size := hH.1
    have g := hK _ _ _ _ _ _ h H1 locs ls hl (hH.push z1 o1 (Or.inl ⟨1, _, rfl, by decide, e1⟩)) (q_S.push hS z1 o1)
    rw [hM1] at g
    exact g
  · exact h.elim
theorem ok_newa_long {mi : qMI} {pc n : Nat} (hd : decode mi.2.1 pc = .ok (.newarray .long, 2)) (hn : pc + 2 = n) (hw : Cond.arrayClass .long ∈ q_gw) : q_Ok mi pc (oNewa 2 n) := by
  intro G L R Z p e σ m args below meth c E B hB K hK l st M cs ss h H locs ls hl hH hS
  unfold oNewa at h
  split at h
  · next j r =>
    obtain ⟨h0, h1, h2, h3, h⟩ := h
    subst hn
    refine va_newaK (atype := .long) E.1 E.2.1 (E.2.2.2.2.1 _ hw) rfl hd rfl h0 rfl (by show j.toNatClampNeg * componentBytes .long ≤ _; have : componentBytes .long ≤ 8 := (by decide); have := Nat.mul_le_mul_left j.toNatClampNeg this; omega) (Nat.le_trans h2 hB.2.2.2.2.1) (Nat.le_trans h3 hB.2.2.2.2.2.1) rfl fun H1 cA e1 z1 o1 hAr hNm => ?_
    have hcA : cA = G.2.1 2 := Option.some.inj (hNm.symm.trans (E.2.2.2.2.2.2.2.2.1.1.2 1 _ rfl).2)
    subst hcA
    have hM1 : M.1 = H.size := hH.1
    have g := hK _ _ _ _ _ _ h H1 locs ls hl (hH.push z1 o1 (Or.inl ⟨2, _, rfl, by decide, e1⟩)) (q_S.push hS z1 o1)
    rw [hM1] at g
    exact g
  · exact h.elim
theorem ok_newa_boolean {mi : qMI} {pc n : Nat} (hd : decode mi.2.1 pc = .ok (.newarray .boolean, 2)) (hn : pc + 2 = n) (hw : Cond.arrayClass .boolean ∈ q_gw) : q_Ok mi pc (oNewa 3 n) := by
  intro G L R Z p e σ m args below meth c E B hB K hK l st M cs ss h H locs ls hl hH hS
  unfold oNewa at h
  split at h
  · next j r =>
    obtain ⟨h0, h1, h2, h3, h⟩ := h
    subst hn
    refine va_newaK (atype := .boolean) E.1 E.2.1 (E.2.2.2.2.1 _ hw) rfl hd rfl h0 rfl (by show j.toNatClampNeg * componentBytes .boolean ≤ _; have : componentBytes .boolean ≤ 8 := (by decide); have := Nat.mul_le_mul_left j.toNatClampNeg this; omega) (Nat.le_trans h2 hB.2.2.2.2.1) (Nat.le_trans h3 hB.2.2.2.2.2.1) rfl fun H1 cA e1 z1 o1 hAr hNm => ?_
    have hcA : cA = G.2.1 3 := Option.some.inj (hNm.symm.trans (E.2.2.2.2.2.2.2.2.1.1.2 2 _ rfl).2)
    subst hcA
    have hM1 : M.1 = H.size := hH.1
    have g := hK _ _ _ _ _ _ h H1 locs ls hl (hH.push z1 o1 (Or.inl ⟨3, _, rfl, by decide, e1⟩)) (q_S.push hS z1 o1)
    rw [hM1] at g
    exact g
  · exact h.elim
theorem ok_newa_byte {mi : qMI} {pc n : Nat} (hd : decode mi.2.1 pc = .ok (.newarray .byte, 2)) (hn : pc + 2 = n) (hw : Cond.arrayClass .byte ∈ q_gw) : q_Ok mi pc (oNewa 4 n) := by
  intro G L R Z p e σ m args below meth c E B hB K hK l st M cs ss h H locs ls hl hH hS
  unfold oNewa at h
  split at h
  · next j r =>
    obtain ⟨h0, h1, h2, h3, h⟩ := h
    subst hn
    refine va_newaK (atype := .byte) E.1 E.2.1 (E.2.2.2.2.1 _ hw) rfl hd rfl h0 rfl (by show j.toNatClampNeg * componentBytes .byte ≤ _; have : componentBytes .byte ≤ 8 := (by decide); have := Nat.mul_le_mul_left j.toNatClampNeg this; omega) (Nat.le_trans h2 hB.2.2.2.2.1) (Nat.le_trans h3 hB.2.2.2.2.2.1) rfl fun H1 cA e1 z1 o1 hAr hNm => ?_
    have hcA : cA = G.2.1 4 := Option.some.inj (hNm.symm.trans (E.2.2.2.2.2.2.2.2.1.1.2 3 _ rfl).2)
    subst hcA
    have hM1 : M.1 = H.size := hH.1
    have g := hK _ _ _ _ _ _ h H1 locs ls hl (hH.push z1 o1 (Or.inl ⟨4, _, rfl, by decide, e1⟩)) (q_S.push hS z1 o1)
    rw [hM1] at g
    exact g
  · exact h.elim
def oANew (n : Nat) : qP := fun l st M c s B K => match st with
  | .int j :: r => ¬ j < 0 ∧ j.toNatClampNeg ≤ 1000000 ∧ c + 1 ≤ B.2.2.2.2.1 ∧ s + j.toNatClampNeg ≤ B.2.2.2.2.2.1 ∧ K n l (.ref M.1 :: r) (q_new M (.inl (5, j.toNatClampNeg, .inr (.inr (.inr (.inr (fun _ => none))))))) (c + 1) (s + j.toNatClampNeg)
  | _ => False
theorem ok_anew {mi : qMI} {pc n idx : Nat} (hd : decode mi.2.1 pc = .ok (.anewarray idx, 3)) (hn : pc + 3 = n) (hw : Cond.classLink mi.1.cls idx "ShownPatterns$Nodes" ∈ q_gw) : q_Ok mi pc (oANew n) := by
  intro G L R Z p e σ m args below meth c E B hB K hK l st M cs ss h H locs ls hl hH hS
  unfold oANew at h
  split at h
  · next j r =>
    obtain ⟨h0, h1, h2, h3, h⟩ := h
    subst hn
    refine W.anew E.1 E.2.1 E.2.2.2.1 (E.2.2.2.2.1 _ hw) (va_AO.use E.2.2.2.2.2.2.2.2.1.2.2.1) rfl hd rfl h0 (by omega) (Nat.le_trans h2 hB.2.2.2.2.1) (Nat.le_trans h3 hB.2.2.2.2.2.1) fun cA kA comp f1 f2 f3 f4 => ?_
    obtain ⟨kA', comp', g1, g2, g3, g4⟩ := (E.2.2.2.2.2.2.2.2.1.1.2 4 (G.2.1 5, .object "ShownPatterns$Nodes") rfl).2
    have hcA : cA = G.2.1 5 := Option.some.inj (f1.symm.trans g4)
    subst hcA
    have hM1 : M.1 = H.size := hH.1
    generalize hH1 : H.push ({ cls := G.2.1 5, slots := Array.replicate j.toNatClampNeg .null, vm := .none } : Cell) = H1
    have z1 : H1.size = H.size + 1 := by rw [← hH1, Array.size_push]
    have e1 : H1[H.size]? = some (arrV (G.2.1 5) j.toNatClampNeg (fun _ => .null)) := by rw [← hH1, Array.getElem?_push_size, ← arrV_new]
    have o1 : ∀ q : Nat, q < H.size → H1[q]? = H[q]? := fun q hq => by rw [← hH1, Array.getElem?_push, if_neg (Nat.ne_of_lt hq)]
    have g := hK _ _ _ _ _ _ h H1 locs ls hl (hH.push z1 o1 (Or.inl ⟨5, _, rfl, by decide, e1⟩)) (q_S.push hS z1 o1)
    rw [hM1] at g
    exact g
  · exact h.elim
def oNew (ci N : Nat) (fs : List Value) (n : Nat) : qP := fun l st M c s B K => c + 1 ≤ B.2.2.2.2.1 ∧ s + N ≤ B.2.2.2.2.2.1 ∧ K n l (.ref M.1 :: st) (q_new M (.inr (ci, fs))) (c + 1) (s + N)
theorem ok_new {mi : qMI} {pc n ci N idx : Nat} {C : String} {T : u_T} {fs : List Value} (ty0 : Nat → FieldType) (hd : decode mi.2.1 pc = .ok (.new idx, 3)) (hn : pc + 3 = n) (hc : vwCl[ci]? = some (C, T, N)) (hin : ∀ w ∈ u_ws C T N, w ∈ q_gw) (hty : ∀ k, k < N → parseFieldDescriptor (T k).2.2.1 = some (ty0 k)) (hcl : Cond.classLink mi.1.cls idx C ∈ q_gw) (hinst : Cond.instantiable C N ∈ q_gw) (hini : Cond.initialized C ∈ q_gw) (hfs : ∀ j, j < N → defaultValue (ty0 j) = vp_V fs j) : q_Ok mi pc (oNew ci N fs n) := by
  intro G L R Z p e σ m args below meth c E B hB K hK l st M cs ss h H locs ls hl hH hS
  obtain ⟨h1, h2, h⟩ := h
  subst hn
  have hKn := E.2.2.2.2.2.2.2.2.1.1.1 ci _ hc
  refine W.newcK E.1 E.2.1 E.2.2.2.1 (E.2.2.2.2.1 _ hcl) (E.2.2.2.2.1 _ hinst) (E.2.2.2.2.1 _ hini) rfl hd (Nat.le_trans h1 hB.2.2.2.2.1) (Nat.le_trans h2 hB.2.2.2.2.2.1) hKn.2.1 rfl fun H1 kC hkC e1 z1 o1 => ?_
  have hM1 : M.1 = H.size := hH.1
  have g := hK _ _ _ _ _ _ h H1 locs ls hl (hH.push z1 o1 (Or.inr ⟨_, rfl, ⟨_, hc, (u_born ty0 E.2.2.2.2.1 hin hKn hkC e1 hty).to hfs⟩⟩)) (q_S.push hS z1 o1)
  rw [hM1] at g
  exact g

