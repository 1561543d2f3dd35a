/-! the class: how many bits; paid, count -/
theorem and_sp (a b k : Nat) : a &&& b = (a / 2 ^ k &&& b / 2 ^ k) * 2 ^ k + (a % 2 ^ k &&& b % 2 ^ k) := by
  rw [← Nat.and_div_two_pow, ← Nat.and_mod_two_pow]
  exact (Nat.div_add_mod' _ _).symm
theorem and_8 (x y a m : Nat) (hx : x < 256) : (x + 256 * y) &&& m = (x &&& m % 256) + 256 * (y &&& m / 256) := by
  rw [and_sp _ m 8]
  have e : 2 ^ 8 = 256 := rfl
  rw [e, show (x + 256 * y) / 256 = y by omega, show (x + 256 * y) % 256 = x by omega]
  omega
theorem and_3 {x y z m μ : Nat} (hx : x < 256) (hy : y < 256) (hz : z < 256) (h0 : m % 256 = μ) (h1 : m / 256 % 256 = μ) (h2 : m / 256 / 256 % 256 = μ) : (x + 256 * (y + 256 * z)) &&& m = (x &&& μ) + 256 * ((y &&& μ) + 256 * (z &&& μ)) := by
  rw [and_8 _ _ 0 m hx, and_8 _ _ 0 (m / 256) hy, h0, h1]
  have e := and_8 z 0 0 (m / 256 / 256) hz
  rw [Nat.mul_zero, Nat.add_zero, h2, Nat.zero_and, Nat.mul_zero, Nat.add_zero] at e
  rw [e]
def c_1 (x : Nat) : Nat := x - (x / 2 &&& 85)
def c_2 (x : Nat) : Nat := (x &&& 51) + (x / 4 &&& 51)
def c_3 (x : Nat) : Nat := (x + x / 16) &&& 15
theorem c_f1 : ∀ x : Nat, x < 256 → ∀ b : Nat, b < 2 → (x / 2 + 128 * b) &&& 85 = x / 2 &&& 85 ∧ (x / 2 &&& 85) ≤ x ∧ x / 2 + 128 * b < 256 := by decide +kernel
theorem c_f2 : ∀ x : Nat, x < 256 → ∀ b : Nat, b < 4 → (x / 4 + 64 * b) &&& 51 = x / 4 &&& 51 := by decide +kernel
theorem c_f3 : ∀ x : Nat, x < 69 → ∀ b : Nat, b < 5 → (x + x / 16 + 16 * b) &&& 15 = c_3 x := by decide +kernel
theorem c_fb : ∀ x : Nat, x < 256 → c_1 x < 256 ∧ c_2 (c_1 x) < 69 ∧ c_2 (c_1 x) % 16 < 5 ∧ c_3 (c_2 (c_1 x)) ≤ 8 ∧ c_3 (c_2 (c_1 x)) = q_cnt (fun j => x.testBit j) 8 := by decide +kernel
theorem c_f4 : ∀ z : Nat, z < 16 → q_cnt (fun j => z.testBit j) 8 = q_cnt (fun j => z.testBit j) 4 := by decide +kernel
theorem q_cnt_add (P : Nat → Bool) (m : Nat) : ∀ n, q_cnt P (m + n) = q_cnt P m + q_cnt (fun j => P (m + j)) n
  | 0 => rfl
  | n + 1 => by
    have ih := q_cnt_add P m n
    show q_cnt P (m + n) + (if P (m + n) = true then 1 else 0) = q_cnt P m + (q_cnt (fun j => P (m + j)) n + (if P (m + n) = true then 1 else 0))
    omega
theorem q_cnt_cg {P P' : Nat → Bool} : ∀ n, (∀ j, j < n → P j = P' j) → q_cnt P n = q_cnt P' n
  | 0, _ => rfl
  | n + 1, h => by
    show q_cnt P n + (if P n = true then 1 else 0) = q_cnt P' n + (if P' n = true then 1 else 0)
    rw [q_cnt_cg n fun j hj => h j (by omega), h n (by omega)]
theorem c_20 {x y z : Nat} (hx : x < 256) (hy : y < 256) (hz : z < 16) : q_cnt (fun j => (x + 256 * (y + 256 * z)).testBit j) 20 = c_3 (c_2 (c_1 x)) + (c_3 (c_2 (c_1 y)) + c_3 (c_2 (c_1 z))) := by
  rw [(c_fb x hx).2.2.2.2, (c_fb y hy).2.2.2.2, (c_fb z (by omega)).2.2.2.2, c_f4 z hz]
  rw [show 20 = 8 + (8 + 4) from rfl, q_cnt_add, q_cnt_add]
  have lo : ∀ a b j, a < 256 → j < 8 → (a + 256 * b).testBit j = a.testBit j := fun a b j ha hj => by
    have h := Nat.testBit_mod_two_pow (a + 256 * b) 8 j
    rw [show (a + 256 * b) % 2 ^ 8 = a by have e : 2 ^ 8 = 256 := rfl; omega, decide_eq_true hj, Bool.true_and] at h
    exact h.symm
  have hi : ∀ a b j, a < 256 → (a + 256 * b).testBit (8 + j) = b.testBit j := fun a b j ha => by
    have h := Nat.testBit_div_two_pow (n := 8) (a + 256 * b) j
    rw [show (a + 256 * b) / 2 ^ 8 = b by have e : 2 ^ 8 = 256 := rfl; omega] at h
    rw [Nat.add_comm 8 j]
    exact h.symm
  have e1 := q_cnt_cg (P := fun j => (x + 256 * (y + 256 * z)).testBit j) (P' := fun j => x.testBit j) 8 fun j hj => lo _ _ _ hx hj
  have e2 := q_cnt_cg (P := fun j => (x + 256 * (y + 256 * z)).testBit (8 + j)) (P' := fun j => y.testBit j) 8 fun j hj => (hi _ _ _ hx).trans (lo _ _ _ hy hj)
  have e3 := q_cnt_cg (P := fun j => (x + 256 * (y + 256 * z)).testBit (8 + (8 + j))) (P' := fun j => z.testBit j) 4 fun j hj => (hi _ _ _ hx).trans (hi _ _ _ hy)
  omega
theorem z_ushr1 {a : Nat} (ha : a < 4294967296) : ((nI a).toUInt32 >>> ((nI 1).toUInt32 &&& Int32.toUInt32 31)).toInt32 = nI (a / 2) := by
  have e : (nI 1).toUInt32 &&& Int32.toUInt32 31 = 1 := by decide
  rw [e]
  apply Int32.toBitVec_inj.mp
  apply BitVec.eq_of_toNat_eq
  show ((nI a).toUInt32 >>> (1 : UInt32)).toNat = (BitVec.ofNat 32 (a / 2)).toNat
  rw [UInt32.toNat_shiftRight]
  show (BitVec.ofNat 32 a).toNat >>> (1 % 32) = _
  rw [Nat.shiftRight_eq_div_pow, BitVec.toNat_ofNat, BitVec.toNat_ofNat]
  show a % 4294967296 / 2 = a / 2 % 4294967296
  omega
theorem z_ushr2 {a : Nat} (ha : a < 4294967296) : ((nI a).toUInt32 >>> ((nI 2).toUInt32 &&& Int32.toUInt32 31)).toInt32 = nI (a / 4) := by
  have e : (nI 2).toUInt32 &&& Int32.toUInt32 31 = 2 := by decide
  rw [e]
  apply Int32.toBitVec_inj.mp
  apply BitVec.eq_of_toNat_eq
  show ((nI a).toUInt32 >>> (2 : UInt32)).toNat = (BitVec.ofNat 32 (a / 4)).toNat
  rw [UInt32.toNat_shiftRight]
  show (BitVec.ofNat 32 a).toNat >>> (2 % 32) = _
  rw [Nat.shiftRight_eq_div_pow, BitVec.toNat_ofNat, BitVec.toNat_ofNat]
  show a % 4294967296 / 4 = a / 4 % 4294967296
  omega
theorem z_ushr4 {a : Nat} (ha : a < 4294967296) : ((nI a).toUInt32 >>> ((nI 4).toUInt32 &&& Int32.toUInt32 31)).toInt32 = nI (a / 16) := by
  have e : (nI 4).toUInt32 &&& Int32.toUInt32 31 = 4 := by decide
  rw [e]
  apply Int32.toBitVec_inj.mp
  apply BitVec.eq_of_toNat_eq
  show ((nI a).toUInt32 >>> (4 : UInt32)).toNat = (BitVec.ofNat 32 (a / 16)).toNat
  rw [UInt32.toNat_shiftRight]
  show (BitVec.ofNat 32 a).toNat >>> (4 % 32) = _
  rw [Nat.shiftRight_eq_div_pow, BitVec.toNat_ofNat, BitVec.toNat_ofNat]
  show a % 4294967296 / 16 = a / 16 % 4294967296
  omega
theorem z_ushr16 {a : Nat} (ha : a < 4294967296) : ((nI a).toUInt32 >>> ((nI 16).toUInt32 &&& Int32.toUInt32 31)).toInt32 = nI (a / 65536) := by
  have e : (nI 16).toUInt32 &&& Int32.toUInt32 31 = 16 := by decide
  rw [e]
  apply Int32.toBitVec_inj.mp
  apply BitVec.eq_of_toNat_eq
  show ((nI a).toUInt32 >>> (16 : UInt32)).toNat = (BitVec.ofNat 32 (a / 65536)).toNat
  rw [UInt32.toNat_shiftRight]
  show (BitVec.ofNat 32 a).toNat >>> (16 % 32) = _
  rw [Nat.shiftRight_eq_div_pow, BitVec.toNat_ofNat, BitVec.toNat_ofNat]
  show a % 4294967296 / 65536 = a / 65536 % 4294967296
  omega
section
variable {G : qC} {L : Launch} {d : Nat} {Q : Option Value → qM → Prop} {M : qM}
set_option maxRecDepth 100000 in
set_option maxHeartbeats 8000000 in
theorem j6_bitCount {v : Nat} (hv : v < 1048576) (hQ : Q (some (.int (nI (q_cnt (fun j => v.testBit j) 20)))) M) : q_Call G L d mJ6_bitCount_0f7a4 0 0 [.int (nI v)] M Q := by
  obtain ⟨x, y, z, hx, hy, hz, rfl⟩ : ∃ x y z, x < 256 ∧ y < 256 ∧ z < 16 ∧ v = x + 256 * (y + 256 * z) := ⟨v % 256, v / 256 % 256, v / 65536, by omega, by omega, by omega, by omega⟩
  rw [c_20 hx hy hz] at hQ
  obtain ⟨x1, x2, x3, x4, -⟩ := c_fb x hx
  obtain ⟨y1, y2, y3, y4, -⟩ := c_fb y hy
  obtain ⟨z1, z2, z3, z4, -⟩ := c_fb z (by omega)
  have E1 : (x + 256 * (y + 256 * z)) / 2 &&& 1431655765 = (x / 2 &&& 85) + 256 * ((y / 2 &&& 85) + 256 * (z / 2 &&& 85)) := by
    have g1 := c_f1 x hx (y % 2) (by omega)
    have g2 := c_f1 y hy (z % 2) (by omega)
    rw [show (x + 256 * (y + 256 * z)) / 2 = (x / 2 + 128 * (y % 2)) + 256 * ((y / 2 + 128 * (z % 2)) + 256 * (z / 2)) by omega, and_3 (μ := 85) g1.2.2 g2.2.2 (by omega) rfl rfl rfl, g1.1, g2.1]
  have L1 := (c_f1 x hx 0 (by decide)).2.1
  have L2 := (c_f1 y hy 0 (by decide)).2.1
  have L3 := (c_f1 z (by omega) 0 (by decide)).2.1
  have E1' : (x + 256 * (y + 256 * z)) - ((x / 2 &&& 85) + 256 * ((y / 2 &&& 85) + 256 * (z / 2 &&& 85))) = c_1 x + 256 * (c_1 y + 256 * c_1 z) := by
    unfold c_1
    omega
  have hle : (x / 2 &&& 85) + 256 * ((y / 2 &&& 85) + 256 * (z / 2 &&& 85)) ≤ x + 256 * (y + 256 * z) := by omega
  refine q_Call.of [(0, .int (nI (x + 256 * (y + 256 * z))))] rfl ?_
  refine q_X.run sJ6_bitCount_0f7a4 [10] 40 ?_
  simp (maxSteps := 10000000) (disch := omega) only [↓q_run_s, q_stop_n, q_stop_c, q_lg_c, q_ls_d, q_ld_n, q_ld_c, q_cat_i, q_cat_r, q_cat_n, q_wd_n, q_wd_c, q_bx_1, q_bx_2, q_bx_3, q_bx_4, q_bx_5, q_bx_6, q_bx_7, q_bx_8, q_pop_0, q_pop_s, ↓reduceIte, Nat.reduceEqDiff, reduceCtorEq, eq_self, Bool.false_eq_true, Nat.reduceAdd, Nat.reduceSub, Nat.reduceMul, Nat.reduceLeDiff, Nat.reduceLT, Nat.le_refl, Nat.zero_le, true_and, and_true, false_and, and_false, or_false, false_or, true_or, or_true, not_true_eq_false, not_false_eq_true, if_true, if_false, List.getElem?_cons_zero, List.getElem?_cons_succ, List.set_cons_zero, List.set_cons_succ, List.length_cons, List.length_nil, ↓tJ6_bitCount_0f7a4_0, ↓tJ6_bitCount_0f7a4_1, ↓tJ6_bitCount_0f7a4_2, ↓tJ6_bitCount_0f7a4_3, ↓tJ6_bitCount_0f7a4_4, ↓tJ6_bitCount_0f7a4_7, ↓tJ6_bitCount_0f7a4_8, ↓tJ6_bitCount_0f7a4_9, ↓tJ6_bitCount_0f7a4_10, ↓tJ6_bitCount_0f7a4_11, ↓tJ6_bitCount_0f7a4_14, ↓tJ6_bitCount_0f7a4_15, ↓tJ6_bitCount_0f7a4_16, ↓tJ6_bitCount_0f7a4_17, ↓tJ6_bitCount_0f7a4_18, ↓tJ6_bitCount_0f7a4_21, ↓tJ6_bitCount_0f7a4_22, ↓tJ6_bitCount_0f7a4_23, ↓tJ6_bitCount_0f7a4_24, ↓tJ6_bitCount_0f7a4_25, ↓tJ6_bitCount_0f7a4_26, ↓tJ6_bitCount_0f7a4_27, ↓tJ6_bitCount_0f7a4_28, ↓tJ6_bitCount_0f7a4_29, ↓tJ6_bitCount_0f7a4_32, ↓tJ6_bitCount_0f7a4_33, ↓tJ6_bitCount_0f7a4_34, ↓tJ6_bitCount_0f7a4_35, ↓tJ6_bitCount_0f7a4_36, ↓tJ6_bitCount_0f7a4_38, ↓tJ6_bitCount_0f7a4_39, ↓tJ6_bitCount_0f7a4_40, ↓tJ6_bitCount_0f7a4_41, ↓tJ6_bitCount_0f7a4_42, ↓tJ6_bitCount_0f7a4_43, ↓tJ6_bitCount_0f7a4_45, ↓tJ6_bitCount_0f7a4_46, ↓tJ6_bitCount_0f7a4_47, ↓tJ6_bitCount_0f7a4_48, ↓tJ6_bitCount_0f7a4_49, ↓tJ6_bitCount_0f7a4_51, ↓tJ6_bitCount_0f7a4_52, ↓oAdd, ↓oAnd, ↓oIl, ↓oIret, ↓oIs, ↓oK, ↓oSub, ↓oUshr, q_set_s, q_set_n, z_clamp, z_ltI, z_leI, z_eqI, z_lt0, z_ge0, z_eq0I, z_gt0I, z_le0I, z_m1lt, z_m1ge, z_m1eq, z_m1eq', z_inT, z_add, z_sub, z_mul, z_div, z_rem, n_ltT, n_ltF, n_leT, n_leF, n_eqT, n_eqF, z_11, q_tl_i, q_tl_n, q_ap_n, q_ap_c, z_ushr1, z_and, E1, E1']
  generalize c_1 x = a at *
  generalize c_1 y = b at *
  generalize c_1 z = c at *
  clear E1 E1' hle L1 L2 L3
  have E2 : (a + 256 * (b + 256 * c)) &&& 858993459 = (a &&& 51) + 256 * ((b &&& 51) + 256 * (c &&& 51)) := and_3 x1 y1 z1 rfl rfl rfl
  have E3 : (a + 256 * (b + 256 * c)) / 4 &&& 858993459 = (a / 4 &&& 51) + 256 * ((b / 4 &&& 51) + 256 * (c / 4 &&& 51)) := by
    rw [show (a + 256 * (b + 256 * c)) / 4 = (a / 4 + 64 * (b % 4)) + 256 * ((b / 4 + 64 * (c % 4)) + 256 * (c / 4)) by omega, and_3 (μ := 51) (by omega) (by omega) (by omega) rfl rfl rfl, c_f2 a x1 _ (by omega), c_f2 b y1 _ (by omega)]
  have E3' : ((a &&& 51) + 256 * ((b &&& 51) + 256 * (c &&& 51))) + ((a / 4 &&& 51) + 256 * ((b / 4 &&& 51) + 256 * (c / 4 &&& 51))) = c_2 a + 256 * (c_2 b + 256 * c_2 c) := by
    unfold c_2
    omega
  refine q_X.run sJ6_bitCount_0f7a4 [24] 40 ?_
  simp (maxSteps := 10000000) (disch := omega) only [↓q_run_s, q_stop_n, q_stop_c, q_lg_c, q_ls_d, q_ld_n, q_ld_c, q_cat_i, q_cat_r, q_cat_n, q_wd_n, q_wd_c, q_bx_1, q_bx_2, q_bx_3, q_bx_4, q_bx_5, q_bx_6, q_bx_7, q_bx_8, q_pop_0, q_pop_s, ↓reduceIte, Nat.reduceEqDiff, reduceCtorEq, eq_self, Bool.false_eq_true, Nat.reduceAdd, Nat.reduceSub, Nat.reduceMul, Nat.reduceLeDiff, Nat.reduceLT, Nat.le_refl, Nat.zero_le, true_and, and_true, false_and, and_false, or_false, false_or, true_or, or_true, not_true_eq_false, not_false_eq_true, if_true, if_false, List.getElem?_cons_zero, List.getElem?_cons_succ, List.set_cons_zero, List.set_cons_succ, List.length_cons, List.length_nil, ↓tJ6_bitCount_0f7a4_0, ↓tJ6_bitCount_0f7a4_1, ↓tJ6_bitCount_0f7a4_2, ↓tJ6_bitCount_0f7a4_3, ↓tJ6_bitCount_0f7a4_4, ↓tJ6_bitCount_0f7a4_7, ↓tJ6_bitCount_0f7a4_8, ↓tJ6_bitCount_0f7a4_9, ↓tJ6_bitCount_0f7a4_10, ↓tJ6_bitCount_0f7a4_11, ↓tJ6_bitCount_0f7a4_14, ↓tJ6_bitCount_0f7a4_15, ↓tJ6_bitCount_0f7a4_16, ↓tJ6_bitCount_0f7a4_17, ↓tJ6_bitCount_0f7a4_18, ↓tJ6_bitCount_0f7a4_21, ↓tJ6_bitCount_0f7a4_22, ↓tJ6_bitCount_0f7a4_23, ↓tJ6_bitCount_0f7a4_24, ↓tJ6_bitCount_0f7a4_25, ↓tJ6_bitCount_0f7a4_26, ↓tJ6_bitCount_0f7a4_27, ↓tJ6_bitCount_0f7a4_28, ↓tJ6_bitCount_0f7a4_29, ↓tJ6_bitCount_0f7a4_32, ↓tJ6_bitCount_0f7a4_33, ↓tJ6_bitCount_0f7a4_34, ↓tJ6_bitCount_0f7a4_35, ↓tJ6_bitCount_0f7a4_36, ↓tJ6_bitCount_0f7a4_38, ↓tJ6_bitCount_0f7a4_39, ↓tJ6_bitCount_0f7a4_40, ↓tJ6_bitCount_0f7a4_41, ↓tJ6_bitCount_0f7a4_42, ↓tJ6_bitCount_0f7a4_43, ↓tJ6_bitCount_0f7a4_45, ↓tJ6_bitCount_0f7a4_46, ↓tJ6_bitCount_0f7a4_47, ↓tJ6_bitCount_0f7a4_48, ↓tJ6_bitCount_0f7a4_49, ↓tJ6_bitCount_0f7a4_51, ↓tJ6_bitCount_0f7a4_52, ↓oAdd, ↓oAnd, ↓oIl, ↓oIret, ↓oIs, ↓oK, ↓oSub, ↓oUshr, q_set_s, q_set_n, z_clamp, z_ltI, z_leI, z_eqI, z_lt0, z_ge0, z_eq0I, z_gt0I, z_le0I, z_m1lt, z_m1ge, z_m1eq, z_m1eq', z_inT, z_add, z_sub, z_mul, z_div, z_rem, n_ltT, n_ltF, n_leT, n_leF, n_eqT, n_eqF, z_11, q_tl_i, q_tl_n, q_ap_n, q_ap_c, z_ushr2, z_and, E2, E3, E3']
  generalize c_2 a = a2 at *
  generalize c_2 b = b2 at *
  generalize c_2 c = c2 at *
  clear E2 E3 E3'
  have E4 : ((a2 + 256 * (b2 + 256 * c2)) + (a2 + 256 * (b2 + 256 * c2)) / 16) &&& 252645135 = c_3 a2 + 256 * (c_3 b2 + 256 * c_3 c2) := by
    rw [show (a2 + 256 * (b2 + 256 * c2)) + (a2 + 256 * (b2 + 256 * c2)) / 16 = (a2 + a2 / 16 + 16 * (b2 % 16)) + 256 * ((b2 + b2 / 16 + 16 * (c2 % 16)) + 256 * (c2 + c2 / 16)) by omega, and_3 (μ := 15) (by omega) (by omega) (by omega) rfl rfl rfl, c_f3 a2 x2 _ y3, c_f3 b2 y2 _ z3]
    rfl
  refine q_X.run sJ6_bitCount_0f7a4 [34] 40 ?_
  simp (maxSteps := 10000000) (disch := omega) only [↓q_run_s, q_stop_n, q_stop_c, q_lg_c, q_ls_d, q_ld_n, q_ld_c, q_cat_i, q_cat_r, q_cat_n, q_wd_n, q_wd_c, q_bx_1, q_bx_2, q_bx_3, q_bx_4, q_bx_5, q_bx_6, q_bx_7, q_bx_8, q_pop_0, q_pop_s, ↓reduceIte, Nat.reduceEqDiff, reduceCtorEq, eq_self, Bool.false_eq_true, Nat.reduceAdd, Nat.reduceSub, Nat.reduceMul, Nat.reduceLeDiff, Nat.reduceLT, Nat.le_refl, Nat.zero_le, true_and, and_true, false_and, and_false, or_false, false_or, true_or, or_true, not_true_eq_false, not_false_eq_true, if_true, if_false, List.getElem?_cons_zero, List.getElem?_cons_succ, List.set_cons_zero, List.set_cons_succ, List.length_cons, List.length_nil, ↓tJ6_bitCount_0f7a4_0, ↓tJ6_bitCount_0f7a4_1, ↓tJ6_bitCount_0f7a4_2, ↓tJ6_bitCount_0f7a4_3, ↓tJ6_bitCount_0f7a4_4, ↓tJ6_bitCount_0f7a4_7, ↓tJ6_bitCount_0f7a4_8, ↓tJ6_bitCount_0f7a4_9, ↓tJ6_bitCount_0f7a4_10, ↓tJ6_bitCount_0f7a4_11, ↓tJ6_bitCount_0f7a4_14, ↓tJ6_bitCount_0f7a4_15, ↓tJ6_bitCount_0f7a4_16, ↓tJ6_bitCount_0f7a4_17, ↓tJ6_bitCount_0f7a4_18, ↓tJ6_bitCount_0f7a4_21, ↓tJ6_bitCount_0f7a4_22, ↓tJ6_bitCount_0f7a4_23, ↓tJ6_bitCount_0f7a4_24, ↓tJ6_bitCount_0f7a4_25, ↓tJ6_bitCount_0f7a4_26, ↓tJ6_bitCount_0f7a4_27, ↓tJ6_bitCount_0f7a4_28, ↓tJ6_bitCount_0f7a4_29, ↓tJ6_bitCount_0f7a4_32, ↓tJ6_bitCount_0f7a4_33, ↓tJ6_bitCount_0f7a4_34, ↓tJ6_bitCount_0f7a4_35, ↓tJ6_bitCount_0f7a4_36, ↓tJ6_bitCount_0f7a4_38, ↓tJ6_bitCount_0f7a4_39, ↓tJ6_bitCount_0f7a4_40, ↓tJ6_bitCount_0f7a4_41, ↓tJ6_bitCount_0f7a4_42, ↓tJ6_bitCount_0f7a4_43, ↓tJ6_bitCount_0f7a4_45, ↓tJ6_bitCount_0f7a4_46, ↓tJ6_bitCount_0f7a4_47, ↓tJ6_bitCount_0f7a4_48, ↓tJ6_bitCount_0f7a4_49, ↓tJ6_bitCount_0f7a4_51, ↓tJ6_bitCount_0f7a4_52, ↓oAdd, ↓oAnd, ↓oIl, ↓oIret, ↓oIs, ↓oK, ↓oSub, ↓oUshr, q_set_s, q_set_n, z_clamp, z_ltI, z_leI, z_eqI, z_lt0, z_ge0, z_eq0I, z_gt0I, z_le0I, z_m1lt, z_m1ge, z_m1eq, z_m1eq', z_inT, z_add, z_sub, z_mul, z_div, z_rem, n_ltT, n_ltF, n_leT, n_leF, n_eqT, n_eqF, z_11, q_tl_i, q_tl_n, q_ap_n, q_ap_c, z_ushr4, z_and, E4]
  generalize c_3 a2 = a3 at *
  generalize c_3 b2 = b3 at *
  generalize c_3 c2 = c3 at *
  clear E4
  have E5 : (a3 + 256 * (b3 + 256 * c3)) + (a3 + 256 * (b3 + 256 * c3)) / 256 = (a3 + b3) + 256 * ((b3 + c3) + 256 * c3) := by omega
  have E6 : (a3 + b3) + 256 * ((b3 + c3) + 256 * c3) + ((a3 + b3) + 256 * ((b3 + c3) + 256 * c3)) / 65536 = (a3 + (b3 + c3)) + 256 * ((b3 + c3) + 256 * c3) := by omega
  have E7 : (a3 + (b3 + c3)) + 256 * ((b3 + c3) + 256 * c3) &&& 63 = a3 + (b3 + c3) := by
    rw [show (63 : Nat) = 2 ^ 6 - 1 from rfl, Nat.and_two_pow_sub_one_eq_mod]
    have e : 2 ^ 6 = 64 := rfl
    omega
  refine q_X.run sJ6_bitCount_0f7a4 [41] 40 ?_
  simp (maxSteps := 10000000) (disch := omega) only [↓q_run_s, q_stop_n, q_stop_c, q_lg_c, q_ls_d, q_ld_n, q_ld_c, q_cat_i, q_cat_r, q_cat_n, q_wd_n, q_wd_c, q_bx_1, q_bx_2, q_bx_3, q_bx_4, q_bx_5, q_bx_6, q_bx_7, q_bx_8, q_pop_0, q_pop_s, ↓reduceIte, Nat.reduceEqDiff, reduceCtorEq, eq_self, Bool.false_eq_true, Nat.reduceAdd, Nat.reduceSub, Nat.reduceMul, Nat.reduceLeDiff, Nat.reduceLT, Nat.le_refl, Nat.zero_le, true_and, and_true, false_and, and_false, or_false, false_or, true_or, or_true, not_true_eq_false, not_false_eq_true, if_true, if_false, List.getElem?_cons_zero, List.getElem?_cons_succ, List.set_cons_zero, List.set_cons_succ, List.length_cons, List.length_nil, ↓tJ6_bitCount_0f7a4_0, ↓tJ6_bitCount_0f7a4_1, ↓tJ6_bitCount_0f7a4_2, ↓tJ6_bitCount_0f7a4_3, ↓tJ6_bitCount_0f7a4_4, ↓tJ6_bitCount_0f7a4_7, ↓tJ6_bitCount_0f7a4_8, ↓tJ6_bitCount_0f7a4_9, ↓tJ6_bitCount_0f7a4_10, ↓tJ6_bitCount_0f7a4_11, ↓tJ6_bitCount_0f7a4_14, ↓tJ6_bitCount_0f7a4_15, ↓tJ6_bitCount_0f7a4_16, ↓tJ6_bitCount_0f7a4_17, ↓tJ6_bitCount_0f7a4_18, ↓tJ6_bitCount_0f7a4_21, ↓tJ6_bitCount_0f7a4_22, ↓tJ6_bitCount_0f7a4_23, ↓tJ6_bitCount_0f7a4_24, ↓tJ6_bitCount_0f7a4_25, ↓tJ6_bitCount_0f7a4_26, ↓tJ6_bitCount_0f7a4_27, ↓tJ6_bitCount_0f7a4_28, ↓tJ6_bitCount_0f7a4_29, ↓tJ6_bitCount_0f7a4_32, ↓tJ6_bitCount_0f7a4_33, ↓tJ6_bitCount_0f7a4_34, ↓tJ6_bitCount_0f7a4_35, ↓tJ6_bitCount_0f7a4_36, ↓tJ6_bitCount_0f7a4_38, ↓tJ6_bitCount_0f7a4_39, ↓tJ6_bitCount_0f7a4_40, ↓tJ6_bitCount_0f7a4_41, ↓tJ6_bitCount_0f7a4_42, ↓tJ6_bitCount_0f7a4_43, ↓tJ6_bitCount_0f7a4_45, ↓tJ6_bitCount_0f7a4_46, ↓tJ6_bitCount_0f7a4_47, ↓tJ6_bitCount_0f7a4_48, ↓tJ6_bitCount_0f7a4_49, ↓tJ6_bitCount_0f7a4_51, ↓tJ6_bitCount_0f7a4_52, ↓oAdd, ↓oAnd, ↓oIl, ↓oIret, ↓oIs, ↓oK, ↓oSub, ↓oUshr, q_set_s, q_set_n, z_clamp, z_ltI, z_leI, z_eqI, z_lt0, z_ge0, z_eq0I, z_gt0I, z_le0I, z_m1lt, z_m1ge, z_m1eq, z_m1eq', z_inT, z_add, z_sub, z_mul, z_div, z_rem, n_ltT, n_ltF, n_leT, n_leF, n_eqT, n_eqF, z_11, q_tl_i, q_tl_n, q_ap_n, q_ap_c, z_ushr8, E5]
  refine q_X.run sJ6_bitCount_0f7a4 [48] 40 ?_
  simp (maxSteps := 10000000) (disch := omega) only [↓q_run_s, q_stop_n, q_stop_c, q_lg_c, q_ls_d, q_ld_n, q_ld_c, q_cat_i, q_cat_r, q_cat_n, q_wd_n, q_wd_c, q_bx_1, q_bx_2, q_bx_3, q_bx_4, q_bx_5, q_bx_6, q_bx_7, q_bx_8, q_pop_0, q_pop_s, ↓reduceIte, Nat.reduceEqDiff, reduceCtorEq, eq_self, Bool.false_eq_true, Nat.reduceAdd, Nat.reduceSub, Nat.reduceMul, Nat.reduceLeDiff, Nat.reduceLT, Nat.le_refl, Nat.zero_le, true_and, and_true, false_and, and_false, or_false, false_or, true_or, or_true, not_true_eq_false, not_false_eq_true, if_true, if_false, List.getElem?_cons_zero, List.getElem?_cons_succ, List.set_cons_zero, List.set_cons_succ, List.length_cons, List.length_nil, ↓tJ6_bitCount_0f7a4_0, ↓tJ6_bitCount_0f7a4_1, ↓tJ6_bitCount_0f7a4_2, ↓tJ6_bitCount_0f7a4_3, ↓tJ6_bitCount_0f7a4_4, ↓tJ6_bitCount_0f7a4_7, ↓tJ6_bitCount_0f7a4_8, ↓tJ6_bitCount_0f7a4_9, ↓tJ6_bitCount_0f7a4_10, ↓tJ6_bitCount_0f7a4_11, ↓tJ6_bitCount_0f7a4_14, ↓tJ6_bitCount_0f7a4_15, ↓tJ6_bitCount_0f7a4_16, ↓tJ6_bitCount_0f7a4_17, ↓tJ6_bitCount_0f7a4_18, ↓tJ6_bitCount_0f7a4_21, ↓tJ6_bitCount_0f7a4_22, ↓tJ6_bitCount_0f7a4_23, ↓tJ6_bitCount_0f7a4_24, ↓tJ6_bitCount_0f7a4_25, ↓tJ6_bitCount_0f7a4_26, ↓tJ6_bitCount_0f7a4_27, ↓tJ6_bitCount_0f7a4_28, ↓tJ6_bitCount_0f7a4_29, ↓tJ6_bitCount_0f7a4_32, ↓tJ6_bitCount_0f7a4_33, ↓tJ6_bitCount_0f7a4_34, ↓tJ6_bitCount_0f7a4_35, ↓tJ6_bitCount_0f7a4_36, ↓tJ6_bitCount_0f7a4_38, ↓tJ6_bitCount_0f7a4_39, ↓tJ6_bitCount_0f7a4_40, ↓tJ6_bitCount_0f7a4_41, ↓tJ6_bitCount_0f7a4_42, ↓tJ6_bitCount_0f7a4_43, ↓tJ6_bitCount_0f7a4_45, ↓tJ6_bitCount_0f7a4_46, ↓tJ6_bitCount_0f7a4_47, ↓tJ6_bitCount_0f7a4_48, ↓tJ6_bitCount_0f7a4_49, ↓tJ6_bitCount_0f7a4_51, ↓tJ6_bitCount_0f7a4_52, ↓oAdd, ↓oAnd, ↓oIl, ↓oIret, ↓oIs, ↓oK, ↓oSub, ↓oUshr, q_set_s, q_set_n, z_clamp, z_ltI, z_leI, z_eqI, z_lt0, z_ge0, z_eq0I, z_gt0I, z_le0I, z_m1lt, z_m1ge, z_m1eq, z_m1eq', z_inT, z_add, z_sub, z_mul, z_div, z_rem, n_ltT, n_ltF, n_leT, n_leF, n_eqT, n_eqF, z_11, q_tl_i, q_tl_n, q_ap_n, q_ap_c, z_ushr16, E6]
  refine q_X.run sJ6_bitCount_0f7a4 [] 40 ?_
  simp (maxSteps := 10000000) (disch := omega) only [↓q_run_s, q_stop_n, q_stop_c, q_lg_c, q_ls_d, q_ld_n, q_ld_c, q_cat_i, q_cat_r, q_cat_n, q_wd_n, q_wd_c, q_bx_1, q_bx_2, q_bx_3, q_bx_4, q_bx_5, q_bx_6, q_bx_7, q_bx_8, q_pop_0, q_pop_s, ↓reduceIte, Nat.reduceEqDiff, reduceCtorEq, eq_self, Bool.false_eq_true, Nat.reduceAdd, Nat.reduceSub, Nat.reduceMul, Nat.reduceLeDiff, Nat.reduceLT, Nat.le_refl, Nat.zero_le, true_and, and_true, false_and, and_false, or_false, false_or, true_or, or_true, not_true_eq_false, not_false_eq_true, if_true, if_false, List.getElem?_cons_zero, List.getElem?_cons_succ, List.set_cons_zero, List.set_cons_succ, List.length_cons, List.length_nil, ↓tJ6_bitCount_0f7a4_0, ↓tJ6_bitCount_0f7a4_1, ↓tJ6_bitCount_0f7a4_2, ↓tJ6_bitCount_0f7a4_3, ↓tJ6_bitCount_0f7a4_4, ↓tJ6_bitCount_0f7a4_7, ↓tJ6_bitCount_0f7a4_8, ↓tJ6_bitCount_0f7a4_9, ↓tJ6_bitCount_0f7a4_10, ↓tJ6_bitCount_0f7a4_11, ↓tJ6_bitCount_0f7a4_14, ↓tJ6_bitCount_0f7a4_15, ↓tJ6_bitCount_0f7a4_16, ↓tJ6_bitCount_0f7a4_17, ↓tJ6_bitCount_0f7a4_18, ↓tJ6_bitCount_0f7a4_21, ↓tJ6_bitCount_0f7a4_22, ↓tJ6_bitCount_0f7a4_23, ↓tJ6_bitCount_0f7a4_24, ↓tJ6_bitCount_0f7a4_25, ↓tJ6_bitCount_0f7a4_26, ↓tJ6_bitCount_0f7a4_27, ↓tJ6_bitCount_0f7a4_28, ↓tJ6_bitCount_0f7a4_29, ↓tJ6_bitCount_0f7a4_32, ↓tJ6_bitCount_0f7a4_33, ↓tJ6_bitCount_0f7a4_34, ↓tJ6_bitCount_0f7a4_35, ↓tJ6_bitCount_0f7a4_36, ↓tJ6_bitCount_0f7a4_38, ↓tJ6_bitCount_0f7a4_39, ↓tJ6_bitCount_0f7a4_40, ↓tJ6_bitCount_0f7a4_41, ↓tJ6_bitCount_0f7a4_42, ↓tJ6_bitCount_0f7a4_43, ↓tJ6_bitCount_0f7a4_45, ↓tJ6_bitCount_0f7a4_46, ↓tJ6_bitCount_0f7a4_47, ↓tJ6_bitCount_0f7a4_48, ↓tJ6_bitCount_0f7a4_49, ↓tJ6_bitCount_0f7a4_51, ↓tJ6_bitCount_0f7a4_52, ↓oAdd, ↓oAnd, ↓oIl, ↓oIret, ↓oIs, ↓oK, ↓oSub, ↓oUshr, q_set_s, q_set_n, z_clamp, z_ltI, z_leI, z_eqI, z_lt0, z_ge0, z_eq0I, z_gt0I, z_le0I, z_m1lt, z_m1ge, z_m1eq, z_m1eq', z_inT, z_add, z_sub, z_mul, z_div, z_rem, n_ltT, n_ltF, n_leT, n_leF, n_eqT, n_eqF, z_11, q_tl_i, q_tl_n, q_ap_n, q_ap_c, z_and, E7]
  exact hQ
end
