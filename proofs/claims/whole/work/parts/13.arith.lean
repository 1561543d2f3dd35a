/-! numbers: what the runs rewrite with -/
theorem z_clamp {n : Nat} (h : n < 2147483648) : (nI n).toNatClampNeg = n := nI_clamp h
theorem z_ltI {a b : Nat} (ha : a < 2147483648) (hb : b < 2147483648) : (nI a < nI b) = (a < b) := propext (nI_ltI ha hb)
theorem z_leI {a b : Nat} (ha : a < 2147483648) (hb : b < 2147483648) : (nI a ≤ nI b) = (a ≤ b) := propext (nI_leI ha hb)
theorem z_eqI {a b : Nat} (ha : a < 2147483648) (hb : b < 2147483648) : (nI a = nI b) = (a = b) := propext (nI_eq ha hb)
theorem z_lt0 {a : Nat} (ha : a < 2147483648) : (nI a < 0) = False := eq_false (nI_pos ha)
theorem z_ge0 {a : Nat} (ha : a < 2147483648) : (0 ≤ nI a) = True := eq_true (nI_pos' ha)
theorem z_eq0I {a : Nat} (ha : a < 2147483648) : (nI a = 0) = (a = 0) := by
  have h : (nI a = nI 0) = (a = 0) := z_eqI ha (by decide)
  exact h
theorem z_gt0I {a : Nat} (ha : a < 2147483648) : (0 < nI a) = (0 < a) := by
  have h : (nI 0 < nI a) = (0 < a) := z_ltI (by decide) ha
  exact h
theorem z_le0I {a : Nat} (ha : a < 2147483648) : (nI a ≤ 0) = (a = 0) := by
  have h : (nI a ≤ nI 0) = (a ≤ 0) := z_leI ha (by decide)
  rw [Nat.le_zero_eq] at h
  exact h
theorem z_m1lt : ((-1 : Int32) < 0) = True := eq_true (by decide)
theorem z_m1ge : (0 ≤ (-1 : Int32)) = False := eq_false (by decide)
theorem z_m1eq {a : Nat} (ha : a < 2147483648) : (nI a = -1) = False := eq_false (fun h => by
  have := nI_pos ha
  rw [h] at this
  exact this (by decide))
theorem z_m1eq' {a : Nat} (ha : a < 2147483648) : ((-1 : Int32) = nI a) = False := eq_false (fun h => by
  have := z_m1eq ha
  rw [← h] at this
  exact (this ▸ rfl : False))
theorem z_m1lt' {a : Nat} (ha : a < 2147483648) : ((-1 : Int32) < nI a) = True := eq_true (by
  rw [Int32.lt_iff_toInt_lt, nI_toInt ha]
  have : (-1 : Int32).toInt = -1 := by decide
  omega)
theorem z_m1le {a : Nat} (ha : a < 2147483648) : (nI a ≤ (-1 : Int32)) = False := eq_false (by
  rw [Int32.le_iff_toInt_le, nI_toInt ha]
  have : (-1 : Int32).toInt = -1 := by decide
  omega)
theorem z_m1lt2 {a : Nat} (ha : a < 2147483648) : (nI a < (-1 : Int32)) = False := eq_false (by
  rw [Int32.lt_iff_toInt_lt, nI_toInt ha]
  have : (-1 : Int32).toInt = -1 := by decide
  omega)
theorem n_ltT {a b : Nat} (h : a < b) : (a < b) = True := eq_true h
theorem n_ltF {a b : Nat} (h : b ≤ a) : (a < b) = False := eq_false (Nat.not_lt.mpr h)
theorem n_leT {a b : Nat} (h : a ≤ b) : (a ≤ b) = True := eq_true h
theorem n_leF {a b : Nat} (h : b < a) : (a ≤ b) = False := eq_false (Nat.not_le.mpr h)
theorem n_eqT {a b : Nat} (h : a = b) : (a = b) = True := eq_true h
theorem n_eqF {a b : Nat} (h : a ≠ b) : (a = b) = False := eq_false h
theorem z_inT {a n : Nat} (h : a < n) (hn : n < 2147483648) : vp_in (nI a) n = True := eq_true (vp_in_nI h hn)
theorem z_add (a b : Nat) : nI a + nI b = nI (a + b) := nI_add a b
theorem z_sub {a b : Nat} (h : b ≤ a) : nI a - nI b = nI (a - b) := pk_sub h
theorem z_mul (a b : Nat) : nI a * nI b = nI (a * b) := pk_mul a b
theorem z_div {a d : Nat} (ha : a < 2147483648) (h0 : 0 < d) (hd : d < 2147483648) : nI a / nI d = nI (a / d) := pk_div ha h0 hd
theorem z_rem {a d : Nat} (ha : a < 2147483648) (h0 : 0 < d) (hd : d < 2147483648) : q_rem (nI a) (nI d) = nI (a % d) := pk_rem ha h0 hd
theorem z_addm1 {a : Nat} (h : 0 < a) : nI a + (-1) = nI (a - 1) := by
  obtain ⟨b, rfl⟩ : ∃ b, a = b + 1 := ⟨a - 1, by omega⟩
  exact pk_m1 b
theorem z_and (a b : Nat) : nI a &&& nI b = nI (a &&& b) := by
  apply Int32.toBitVec_inj.mp
  simp [nI]
/-! memory -/
theorem q_set_s (M : qM) (a : Nat) (e : qE) : (q_set M a e).2 a = some e := va_up_self _ _ _
theorem q_set_n (M : qM) {a b : Nat} (e : qE) (h : b ≠ a) : (q_set M a e).2 b = M.2 b := va_up_ne _ _ h
theorem q_set_1 (M : qM) (a : Nat) (e : qE) : (q_set M a e).1 = M.1 := Eq.trans rfl rfl
theorem q_new_s (M : qM) (e : qE) : (q_new M e).2 M.1 = some e := va_up_self _ _ _
theorem q_new_n (M : qM) {b : Nat} (e : qE) (h : b ≠ M.1) : (q_new M e).2 b = M.2 b := va_up_ne _ _ h
theorem q_new_1 (M : qM) (e : qE) : (q_new M e).1 = M.1 + 1 := Eq.trans rfl rfl
theorem q_up_a {α : Type} (f : Nat → α) (k : Nat) (v : α) (j : Nat) : va_up f k v j = if j = k then v else f j := Eq.trans rfl rfl
/-! runs -/
theorem q_run_s (t : Nat → qP) (ps : List Nat) (B : qB) (n pc : Nat) (l : qLv) (st : List Value) (M : qM) (cs ss : Nat) : q_run t ps B (n + 1) pc l st M cs ss = t pc l st M cs ss B (fun pc' l' st' M' cs' ss' => if q_stop ps pc' = true then B.1 pc' l' st' M' cs' ss' else q_run t ps B n pc' l' st' M' cs' ss') := Eq.trans rfl rfl
theorem q_stop_n (pc : Nat) : q_stop [] pc = false := Eq.trans rfl rfl
theorem q_stop_c (q : Nat) (r : List Nat) (pc : Nat) : q_stop (q :: r) pc = if pc = q then true else q_stop r pc := Eq.trans rfl rfl
theorem q_lg_c (j : Nat) (v : Value) (l : qLv) (i : Nat) : q_lg ((j, v) :: l) i = if j = i then some v else q_lg l i := Eq.trans rfl rfl
theorem q_ld_n (i : Nat) : q_ld [] i = [] := Eq.trans rfl rfl
theorem q_ld_c (j : Nat) (v : Value) (l : qLv) (i : Nat) : q_ld ((j, v) :: l) i = if j = i ∨ (j + 1 = i ∧ q_cat v = 2) then q_ld l i else (j, v) :: q_ld l i := Eq.trans rfl rfl
theorem q_ls_d (l : qLv) (i : Nat) (v : Value) : q_ls l i v = (i, v) :: q_ld l i := Eq.trans rfl rfl
theorem q_ls2_d (l : qLv) (i : Nat) (v : Value) : q_ls2 l i v = (i, v) :: q_ld (q_ld1 l (i + 1)) i := by
  unfold q_ls2
  congr 2
  induction l with
  | nil => rfl
  | cons q l ih =>
    unfold q_ld1
    rw [List.filter_cons]
    by_cases h : q.1 = i + 1
    · simp [h, ← ih]
    · simp [h, ← ih]
theorem q_ld1_n (i : Nat) : q_ld1 [] i = [] := Eq.trans rfl rfl
theorem q_ld1_c (j : Nat) (v : Value) (l : qLv) (i : Nat) : q_ld1 ((j, v) :: l) i = if j = i then q_ld1 l i else (j, v) :: q_ld1 l i := Eq.trans rfl rfl
theorem q_cat_i (x : Int32) : q_cat (.int x) = 1 := Eq.trans rfl rfl
theorem q_cat_l (x : Int64) : q_cat (.long x) = 2 := Eq.trans rfl rfl
theorem q_cat_r (x : Nat) : q_cat (.ref x) = 1 := Eq.trans rfl rfl
theorem q_cat_n : q_cat .null = 1 := Eq.trans rfl rfl
theorem q_wd_n : q_wd [] = 0 := Eq.trans rfl rfl
theorem q_wd_c (v : Value) (l : List Value) : q_wd (v :: l) = q_cat v + q_wd l := Eq.trans rfl rfl
theorem q_pop_0 (acc st : List Value) : q_pop 0 acc st = some (acc, st) := Eq.trans rfl rfl
theorem q_pop_s (n : Nat) (acc : List Value) (v : Value) (st : List Value) : q_pop (n + 1) acc (v :: st) = q_pop n (v :: acc) st := Eq.trans rfl rfl
theorem q_tl_i (v : Value) : (some v).toList = [v] := Eq.trans rfl rfl
theorem q_tl_n : (none : Option Value).toList = [] := Eq.trans rfl rfl
theorem q_ap_n (l : List Value) : [] ++ l = l := Eq.trans rfl rfl
theorem q_ap_c (v : Value) (l : List Value) : [v] ++ l = v :: l := Eq.trans rfl rfl
theorem q_tab_n (x : Int32) (F : Nat → Prop) (k d : Nat) : q_tab x F k [] d = F d := Eq.trans rfl rfl
theorem q_tab_c (x : Int32) (F : Nat → Prop) (k t d : Nat) (ts : List Nat) : q_tab x F k (t :: ts) d = if x = nI k then F t else q_tab x F (k + 1) ts d := Eq.trans rfl rfl
theorem q_look_n (x : Int32) (F : Nat → Prop) (d : Nat) : q_look x F [] d = F d := Eq.trans rfl rfl
theorem q_look_c (x : Int32) (F : Nat → Prop) (a t d : Nat) (ts : List (Nat × Nat)) : q_look x F ((a, t) :: ts) d = if x = nI a then F t else q_look x F ts d := Eq.trans rfl rfl
theorem q_bx_1 (G : qC) (L : Launch) (d : Nat) (mi : qMI) (mc ms : Nat) (Q : Option Value → qM → Prop) : (q_bx G L d mi mc ms Q).1 = q_X G L d mi mc ms Q := Eq.trans rfl rfl
theorem q_bx_2 (G : qC) (L : Launch) (d : Nat) (mi : qMI) (mc ms : Nat) (Q : Option Value → qM → Prop) (y : qMI) (mc' ms' : Nat) (As : List Value) (M : qM) (Q' : Option Value → qM → Prop) : (q_bx G L d mi mc ms Q).2.1 y mc' ms' As M Q' = (0 < d ∧ q_wd As ≤ y.2.2.1 ∧ q_Call G L (d - 1) y mc' ms' As M Q') := Eq.trans rfl rfl
theorem q_bx_3 (G : qC) (L : Launch) (d : Nat) (mi : qMI) (mc ms : Nat) (Q : Option Value → qM → Prop) (r : Option Value) (M : qM) (cs ss : Nat) : (q_bx G L d mi mc ms Q).2.2.1 r M cs ss = (cs ≤ mc ∧ ss ≤ ms ∧ Q r M) := Eq.trans rfl rfl
theorem q_bx_4 (G : qC) (L : Launch) (d : Nat) (mi : qMI) (mc ms : Nat) (Q : Option Value → qM → Prop) : (q_bx G L d mi mc ms Q).2.2.2.1 = d := Eq.trans rfl rfl
theorem q_bx_5 (G : qC) (L : Launch) (d : Nat) (mi : qMI) (mc ms : Nat) (Q : Option Value → qM → Prop) : (q_bx G L d mi mc ms Q).2.2.2.2.1 = mc := Eq.trans rfl rfl
theorem q_bx_6 (G : qC) (L : Launch) (d : Nat) (mi : qMI) (mc ms : Nat) (Q : Option Value → qM → Prop) : (q_bx G L d mi mc ms Q).2.2.2.2.2.1 = ms := Eq.trans rfl rfl
theorem q_bx_7 (G : qC) (L : Launch) (d : Nat) (mi : qMI) (mc ms : Nat) (Q : Option Value → qM → Prop) : (q_bx G L d mi mc ms Q).2.2.2.2.2.2.1 = G.2.2.2.1 := Eq.trans rfl rfl
theorem q_bx_8 (G : qC) (L : Launch) (d : Nat) (mi : qMI) (mc ms : Nat) (Q : Option Value → qM → Prop) : (q_bx G L d mi mc ms Q).2.2.2.2.2.2.2 = G.2.2.2.2.1 := Eq.trans rfl rfl
theorem q_Call.of {G : qC} {L : Launch} {d : Nat} {mi : qMI} {mc ms : Nat} {As : List Value} {M : qM} {Q : Option Value → qM → Prop} (l : qLv) (hl : lv_args 0 As = l) (h : q_X G L d mi mc ms Q 0 l [] M 0 0) : q_Call G L d mi mc ms As M Q := by
  subst hl
  exact h
theorem z_11 : (nI 1 = 1) = True := eq_true rfl
theorem z_shl1 {k : Nat} (hk : k < 31) : nI 1 <<< (nI k &&& 31) = nI (2 ^ k) := by
  have h : ∀ k : Nat, k < 31 → nI 1 <<< (nI k &&& 31) = nI (2 ^ k) := by decide +kernel
  exact h k hk
theorem z_or (a b : Nat) : nI a ||| nI b = nI (a ||| b) := by
  apply Int32.toBitVec_inj.mp
  simp [nI]
