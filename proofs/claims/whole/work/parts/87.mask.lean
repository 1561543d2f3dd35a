/-! the reference: ask, noise -/
/-- a bit of a long, by a shift that keeps the sign -/
theorem l_shrb {a k : Nat} (ha : a < 18446744073709551616) (hk : k < 64) : (nL a >>> ((nI k).toInt64 &&& 63) &&& nL 1).toInt32 = nI (z_tn a k) := by
  have e : ((nI k).toInt64 &&& 63 : Int64) = Int64.ofNat k := by
    have h : ∀ k : Nat, k < 64 → ((nI k).toInt64 &&& 63 : Int64) = Int64.ofNat k := by decide +kernel
    exact h k hk
  rw [e]
  have hb : (nL a >>> Int64.ofNat k &&& nL 1) = if a.testBit k = true then (1 : Int64) else 0 := by
    apply Int64.toBitVec_inj.mp
    apply BitVec.eq_of_getElem_eq
    intro j hj
    have es : (Int64.ofNat k).toBitVec.smod 64 = BitVec.ofNat 64 k := by
      have h : ∀ k : Nat, k < 64 → (Int64.ofNat k).toBitVec.smod 64 = BitVec.ofNat 64 k := by decide +kernel
      exact h k hk
    rw [Int64.toBitVec_and, Int64.toBitVec_shiftRight, es]
    have ek : (BitVec.ofNat 64 k).toNat = k := by
      rw [BitVec.toNat_ofNat]
      exact Nat.mod_eq_of_lt (by omega)
    have e1 : (nL a).toBitVec = BitVec.ofNat 64 a := rfl
    have e2 : (nL 1).toBitVec = 1#64 := rfl
    rw [e1, e2]
    by_cases c0 : j = 0
    · subst c0
      by_cases c : a.testBit k = true
      · rw [if_pos c]
        simp [BitVec.getElem_sshiftRight, ek, c, hk]
        rw [BitVec.getElem_eq_testBit_toNat, BitVec.toNat_ofNat, Nat.mod_eq_of_lt (show a < 2 ^ 64 from ha)]
        exact c
      · rw [if_neg c]
        simp [BitVec.getElem_sshiftRight, ek, c, hk]
        rw [BitVec.getElem_eq_testBit_toNat, BitVec.toNat_ofNat, Nat.mod_eq_of_lt (show a < 2 ^ 64 from ha)]
        exact Bool.eq_false_iff.mpr c
    · by_cases c : a.testBit k = true
      · rw [if_pos c]
        simp [c0]
      · rw [if_neg c]
        simp [c0]
  rw [hb]
  unfold z_tn
  by_cases c : a.testBit k = true
  · rw [if_pos c, if_pos c]; rfl
  · rw [if_neg c, if_neg c]; rfl
/-- a pattern has the row with a number by order -/
def e_hr (k x : Nat) : Prop := ∃ n v, n ≤ 4 ∧ v < 3 ^ n ∧ k = z_o n + v ∧ z_S (e_t x) n v
/-- how many of the first j have it -/
noncomputable def e_ct (R : Nat → Prop) (l : List Nat) : Nat → Nat
  | 0 => 0
  | j + 1 => e_ct R l j + @ite Nat (∃ x, l[j]? = some x ∧ R x) (Classical.propDecidable _) 1 0
theorem e_ct_le (R : Nat → Prop) (l : List Nat) : ∀ j, e_ct R l j ≤ j
  | 0 => Nat.le_refl _
  | j + 1 => by
    have := e_ct_le R l j
    show e_ct R l j + @ite Nat (∃ x, l[j]? = some x ∧ R x) (Classical.propDecidable _) 1 0 ≤ _
    by_cases c : ∃ x, l[j]? = some x ∧ R x
    · rw [if_pos c]; omega
    · rw [if_neg c]; omega
def e_bs (N : Nat → Nat) (len : Nat) : Nat → Nat × Nat
  | 0 => (0, 0)
  | k + 1 => if (e_bs N len k).1 < min (N k) (len - N k) then (min (N k) (len - N k), k) else e_bs N len k
theorem e_bs_lt (N : Nat → Nat) (len : Nat) : ∀ k, (e_bs N len k).1 ≤ len ∧ ((e_bs N len k).1 ≠ 0 → (e_bs N len k).2 < k)
  | 0 => ⟨Nat.zero_le _, fun h => absurd rfl h⟩
  | k + 1 => by
    obtain ⟨h1, h2⟩ := e_bs_lt N len k
    have es : e_bs N len (k + 1) = if (e_bs N len k).1 < min (N k) (len - N k) then (min (N k) (len - N k), k) else e_bs N len k := rfl
    rw [es]
    by_cases c : (e_bs N len k).1 < min (N k) (len - N k)
    · rw [if_pos c]
      exact ⟨by show min (N k) (len - N k) ≤ len; omega, fun _ => Nat.lt_succ_self _⟩
    · rw [if_neg c]
      exact ⟨h1, fun h => by have := h2 h; omega⟩
def e_rw (b : Nat) : Nat := if b < 1 then 1 + b else if b < 4 then 3 + (b - 1) else if b < 13 then 9 + (b - 4) else 27 + (b - 13)
theorem e_rw_at {A : Nat → Nat → Int32} (h : m_Num A) {b : Nat} (hb : b < 40) : A 47 b = nI (e_rw b) := by
  obtain ⟨e0, e1, e2, e3, e4, -⟩ := z_o5
  unfold e_rw
  by_cases c1 : b < 1
  · rw [if_pos c1]
    have := h 0 b (by decide) (by show b < 1; omega)
    rw [e0, Nat.zero_add] at this
    exact this
  · rw [if_neg c1]
    by_cases c2 : b < 4
    · rw [if_pos c2]
      have := h 1 (b - 1) (by decide) (by show b - 1 < 3; omega)
      rw [e1, show 1 + (b - 1) = b by omega] at this
      exact this
    · rw [if_neg c2]
      by_cases c3 : b < 13
      · rw [if_pos c3]
        have := h 2 (b - 4) (by decide) (by show b - 4 < 9; omega)
        rw [e2, show 4 + (b - 4) = b by omega] at this
        exact this
      · rw [if_neg c3]
        have := h 3 (b - 13) (by decide) (by show b - 13 < 27; omega)
        rw [e3, show 13 + (b - 13) = b by omega] at this
        exact this
noncomputable def e_N (l : List Nat) (k : Nat) : Nat := e_ct (e_hr k) l l.length
noncomputable def e_an (l : List Nat) : Int32 := if (e_bs (e_N l) l.length 40).1 = 0 then -2 else nI (e_rw (e_bs (e_N l) l.length 40).2)
noncomputable def e_as (l : List Nat) : Nat := if (e_bs (e_N l) l.length 40).1 = 0 then 0 else e_N l (e_bs (e_N l) l.length 40).2
section
variable {G : qC} {L : Launch} {d : Nat} {Q : Option Value → qM → Prop} {M0 : qM} {r : Nat} {s : Nat → Int32} {A : Nat → Nat → Int32} {B : Nat → Nat → Int64} {S : Nat} {D : Nat → yD} {bk : Nat → Bool}
def m_bI (N : Nat → Nat) (len k : Nat) : Int32 := if (e_bs N len k).1 = 0 then -2 else nI (e_rw (e_bs N len k).2)
def m_aI (N : Nat → Nat) (len k : Nat) : Nat := if (e_bs N len k).1 = 0 then 0 else N (e_bs N len k).2
set_option maxRecDepth 100000 in
set_option maxHeartbeats 8000000 in
theorem c12_ask {u w : Int32} (h0 : s 11 = nI 0 ∨ k_Laid s A) (hS : m_Shw s A S D bk) (hKw : m_Kw A B) (hd : 62 ≤ d) (hT : ∀ K c s0 A0 s1 A1 B1 g, e_ask u w K c → m_Fl12 s A s0 A0 → k_Laid s0 A0 → m_Fq s0 A0 B s1 A1 B1 → m_Num (va_up A1 47 g) → Q (some (.int (e_an (e_G K c D bk S 4937)))) (q_md M0 r (va_up s1 57 (nI (e_as (e_G K c D bk S 4937)))) (va_up A1 47 g) B1)) (hF : (∀ K c, ¬ e_ask u w K c) → Q (some (.int (-1))) (q_md M0 r s A B)) : q_Call G L d mX12_ask 0 0 [.ref r, .int u, .int w] (q_md M0 r s A B) Q := by
  refine q_Call.of [(0, .ref r), (1, .int u), (2, .int w)] rfl ?_
  refine q_X.run sX12_ask [] 20 ?_
  simp (maxSteps := 10000000) (disch := omega) only [↓q_run_s, q_stop_n, q_stop_c, q_lg_c, q_ls_d, q_ld_n, q_ld_c, q_cat_i, q_cat_r, q_cat_n, q_wd_n, q_wd_c, q_bx_1, q_bx_2, q_bx_3, q_bx_4, q_bx_5, q_bx_6, q_bx_7, q_bx_8, q_pop_0, q_pop_s, ↓reduceIte, Nat.reduceEqDiff, reduceCtorEq, eq_self, Bool.false_eq_true, Nat.reduceAdd, Nat.reduceSub, Nat.reduceMul, Nat.reduceLeDiff, Nat.reduceLT, Nat.le_refl, Nat.zero_le, true_and, and_true, false_and, and_false, or_false, false_or, true_or, or_true, not_true_eq_false, not_false_eq_true, if_true, if_false, List.getElem?_cons_zero, List.getElem?_cons_succ, List.set_cons_zero, List.set_cons_succ, List.length_cons, List.length_nil, ↓tX12_ask_0, ↓tX12_ask_1, ↓tX12_ask_2, ↓tX12_ask_5, ↓tX12_ask_8, ↓tX12_ask_9, ↓tX12_ask_10, ↓tX12_ask_11, ↓tX12_ask_12, ↓tX12_ask_13, ↓tX12_ask_16, ↓tX12_ask_17, ↓tX12_ask_20, ↓tX12_ask_22, ↓tX12_ask_23, ↓tX12_ask_24, ↓tX12_ask_26, ↓tX12_ask_27, ↓tX12_ask_28, ↓tX12_ask_31, ↓tX12_ask_32, ↓tX12_ask_34, ↓tX12_ask_36, ↓tX12_ask_38, ↓tX12_ask_41, ↓tX12_ask_42, ↓tX12_ask_44, ↓tX12_ask_45, ↓tX12_ask_47, ↓tX12_ask_49, ↓tX12_ask_50, ↓tX12_ask_53, ↓tX12_ask_56, ↓tX12_ask_58, ↓tX12_ask_59, ↓tX12_ask_62, ↓tX12_ask_64, ↓tX12_ask_65, ↓tX12_ask_67, ↓tX12_ask_68, ↓tX12_ask_69, ↓tX12_ask_70, ↓tX12_ask_71, ↓tX12_ask_72, ↓tX12_ask_74, ↓tX12_ask_77, ↓tX12_ask_80, ↓tX12_ask_82, ↓tX12_ask_83, ↓tX12_ask_86, ↓tX12_ask_88, ↓tX12_ask_89, ↓tX12_ask_92, ↓tX12_ask_94, ↓tX12_ask_97, ↓tX12_ask_98, ↓tX12_ask_101, ↓tX12_ask_103, ↓tX12_ask_104, ↓tX12_ask_106, ↓tX12_ask_108, ↓tX12_ask_110, ↓tX12_ask_113, ↓tX12_ask_116, ↓tX12_ask_118, ↓tX12_ask_120, ↓tX12_ask_121, ↓tX12_ask_123, ↓tX12_ask_126, ↓tX12_ask_127, ↓tX12_ask_130, ↓tX12_ask_132, ↓tX12_ask_133, ↓tX12_ask_134, ↓tX12_ask_137, ↓tX12_ask_140, ↓tX12_ask_141, ↓oAdd, ↓oAl, ↓oCallS, ↓oCallV, ↓oGet, ↓oGo, ↓oIald, ↓oIf1ne, ↓oIf2ge, ↓oIf2gt, ↓oIl, ↓oInc, ↓oIret, ↓oIs, ↓oK, ↓oL2i, ↓oLald, ↓oLand, ↓oLshr, ↓oPutI, ↓oSub, q_set_s, q_set_n, q_md_0, mO_len, q_up_a, mOs_57, mO_54, mO_55, md_55, mO_47, md_47, z_clamp, z_ltI, z_leI, z_eqI, z_lt0, z_ge0, z_eq0I, z_gt0I, z_le0I, z_m1lt, z_m1ge, z_m1eq, z_m1eq', z_inT, z_add, z_sub, z_mul, z_div, z_rem, n_ltT, n_ltF, n_leT, n_leF, n_eqT, n_eqF, z_11, q_tl_i, q_tl_n, q_ap_n, q_ap_c]
  refine c12_areAsked (by omega) (fun K c hk => ?_) (fun hno => ?_)
  · have hk' := hk
    obtain ⟨e1, k1, k2, e2, c1, c2⟩ := hk'
    subst e1 e2
    refine q_X.run sX12_ask [] 20 ?_
    simp (maxSteps := 10000000) (disch := omega) only [↓q_run_s, q_stop_n, q_stop_c, q_lg_c, q_ls_d, q_ld_n, q_ld_c, q_cat_i, q_cat_r, q_cat_n, q_wd_n, q_wd_c, q_bx_1, q_bx_2, q_bx_3, q_bx_4, q_bx_5, q_bx_6, q_bx_7, q_bx_8, q_pop_0, q_pop_s, ↓reduceIte, Nat.reduceEqDiff, reduceCtorEq, eq_self, Bool.false_eq_true, Nat.reduceAdd, Nat.reduceSub, Nat.reduceMul, Nat.reduceLeDiff, Nat.reduceLT, Nat.le_refl, Nat.zero_le, true_and, and_true, false_and, and_false, or_false, false_or, true_or, or_true, not_true_eq_false, not_false_eq_true, if_true, if_false, List.getElem?_cons_zero, List.getElem?_cons_succ, List.set_cons_zero, List.set_cons_succ, List.length_cons, List.length_nil, ↓tX12_ask_0, ↓tX12_ask_1, ↓tX12_ask_2, ↓tX12_ask_5, ↓tX12_ask_8, ↓tX12_ask_9, ↓tX12_ask_10, ↓tX12_ask_11, ↓tX12_ask_12, ↓tX12_ask_13, ↓tX12_ask_16, ↓tX12_ask_17, ↓tX12_ask_20, ↓tX12_ask_22, ↓tX12_ask_23, ↓tX12_ask_24, ↓tX12_ask_26, ↓tX12_ask_27, ↓tX12_ask_28, ↓tX12_ask_31, ↓tX12_ask_32, ↓tX12_ask_34, ↓tX12_ask_36, ↓tX12_ask_38, ↓tX12_ask_41, ↓tX12_ask_42, ↓tX12_ask_44, ↓tX12_ask_45, ↓tX12_ask_47, ↓tX12_ask_49, ↓tX12_ask_50, ↓tX12_ask_53, ↓tX12_ask_56, ↓tX12_ask_58, ↓tX12_ask_59, ↓tX12_ask_62, ↓tX12_ask_64, ↓tX12_ask_65, ↓tX12_ask_67, ↓tX12_ask_68, ↓tX12_ask_69, ↓tX12_ask_70, ↓tX12_ask_71, ↓tX12_ask_72, ↓tX12_ask_74, ↓tX12_ask_77, ↓tX12_ask_80, ↓tX12_ask_82, ↓tX12_ask_83, ↓tX12_ask_86, ↓tX12_ask_88, ↓tX12_ask_89, ↓tX12_ask_92, ↓tX12_ask_94, ↓tX12_ask_97, ↓tX12_ask_98, ↓tX12_ask_101, ↓tX12_ask_103, ↓tX12_ask_104, ↓tX12_ask_106, ↓tX12_ask_108, ↓tX12_ask_110, ↓tX12_ask_113, ↓tX12_ask_116, ↓tX12_ask_118, ↓tX12_ask_120, ↓tX12_ask_121, ↓tX12_ask_123, ↓tX12_ask_126, ↓tX12_ask_127, ↓tX12_ask_130, ↓tX12_ask_132, ↓tX12_ask_133, ↓tX12_ask_134, ↓tX12_ask_137, ↓tX12_ask_140, ↓tX12_ask_141, ↓oAdd, ↓oAl, ↓oCallS, ↓oCallV, ↓oGet, ↓oGo, ↓oIald, ↓oIf1ne, ↓oIf2ge, ↓oIf2gt, ↓oIl, ↓oInc, ↓oIret, ↓oIs, ↓oK, ↓oL2i, ↓oLald, ↓oLand, ↓oLshr, ↓oPutI, ↓oSub, q_set_s, q_set_n, q_md_0, mO_len, q_up_a, mOs_57, mO_54, mO_55, md_55, mO_47, md_47, z_clamp, z_ltI, z_leI, z_eqI, z_lt0, z_ge0, z_eq0I, z_gt0I, z_le0I, z_m1lt, z_m1ge, z_m1eq, z_m1eq', z_inT, z_add, z_sub, z_mul, z_div, z_rem, n_ltT, n_ltF, n_leT, n_leF, n_eqT, n_eqF, z_11, q_tl_i, q_tl_n, q_ap_n, q_ap_c]
    refine c12_gather h0 k2 c2 hS hKw (by omega) fun s0 A0 s1 A1 B1 hf hl hq e54 hG => ?_
    refine q_X.run sX12_ask [] 20 ?_
    simp (maxSteps := 10000000) (disch := omega) only [↓q_run_s, q_stop_n, q_stop_c, q_lg_c, q_ls_d, q_ld_n, q_ld_c, q_cat_i, q_cat_r, q_cat_n, q_wd_n, q_wd_c, q_bx_1, q_bx_2, q_bx_3, q_bx_4, q_bx_5, q_bx_6, q_bx_7, q_bx_8, q_pop_0, q_pop_s, ↓reduceIte, Nat.reduceEqDiff, reduceCtorEq, eq_self, Bool.false_eq_true, Nat.reduceAdd, Nat.reduceSub, Nat.reduceMul, Nat.reduceLeDiff, Nat.reduceLT, Nat.le_refl, Nat.zero_le, true_and, and_true, false_and, and_false, or_false, false_or, true_or, or_true, not_true_eq_false, not_false_eq_true, if_true, if_false, List.getElem?_cons_zero, List.getElem?_cons_succ, List.set_cons_zero, List.set_cons_succ, List.length_cons, List.length_nil, ↓tX12_ask_0, ↓tX12_ask_1, ↓tX12_ask_2, ↓tX12_ask_5, ↓tX12_ask_8, ↓tX12_ask_9, ↓tX12_ask_10, ↓tX12_ask_11, ↓tX12_ask_12, ↓tX12_ask_13, ↓tX12_ask_16, ↓tX12_ask_17, ↓tX12_ask_20, ↓tX12_ask_22, ↓tX12_ask_23, ↓tX12_ask_24, ↓tX12_ask_26, ↓tX12_ask_27, ↓tX12_ask_28, ↓tX12_ask_31, ↓tX12_ask_32, ↓tX12_ask_34, ↓tX12_ask_36, ↓tX12_ask_38, ↓tX12_ask_41, ↓tX12_ask_42, ↓tX12_ask_44, ↓tX12_ask_45, ↓tX12_ask_47, ↓tX12_ask_49, ↓tX12_ask_50, ↓tX12_ask_53, ↓tX12_ask_56, ↓tX12_ask_58, ↓tX12_ask_59, ↓tX12_ask_62, ↓tX12_ask_64, ↓tX12_ask_65, ↓tX12_ask_67, ↓tX12_ask_68, ↓tX12_ask_69, ↓tX12_ask_70, ↓tX12_ask_71, ↓tX12_ask_72, ↓tX12_ask_74, ↓tX12_ask_77, ↓tX12_ask_80, ↓tX12_ask_82, ↓tX12_ask_83, ↓tX12_ask_86, ↓tX12_ask_88, ↓tX12_ask_89, ↓tX12_ask_92, ↓tX12_ask_94, ↓tX12_ask_97, ↓tX12_ask_98, ↓tX12_ask_101, ↓tX12_ask_103, ↓tX12_ask_104, ↓tX12_ask_106, ↓tX12_ask_108, ↓tX12_ask_110, ↓tX12_ask_113, ↓tX12_ask_116, ↓tX12_ask_118, ↓tX12_ask_120, ↓tX12_ask_121, ↓tX12_ask_123, ↓tX12_ask_126, ↓tX12_ask_127, ↓tX12_ask_130, ↓tX12_ask_132, ↓tX12_ask_133, ↓tX12_ask_134, ↓tX12_ask_137, ↓tX12_ask_140, ↓tX12_ask_141, ↓oAdd, ↓oAl, ↓oCallS, ↓oCallV, ↓oGet, ↓oGo, ↓oIald, ↓oIf1ne, ↓oIf2ge, ↓oIf2gt, ↓oIl, ↓oInc, ↓oIret, ↓oIs, ↓oK, ↓oL2i, ↓oLald, ↓oLand, ↓oLshr, ↓oPutI, ↓oSub, q_set_s, q_set_n, q_md_0, mO_len, q_up_a, mOs_57, mO_54, mO_55, md_55, mO_47, md_47, z_clamp, z_ltI, z_leI, z_eqI, z_lt0, z_ge0, z_eq0I, z_gt0I, z_le0I, z_m1lt, z_m1ge, z_m1eq, z_m1eq', z_inT, z_add, z_sub, z_mul, z_div, z_rem, n_ltT, n_ltF, n_leT, n_leF, n_eqT, n_eqF, z_11, q_tl_i, q_tl_n, q_ap_n, q_ap_c]
    refine c12_number hq.2.2.2.1 fun g hg => ?_
    have h' := hT K c s0 A0 s1 A1 B1 g hk hf hl hq hg
    have hlen := (e_G_lt (K := K) (c := c) (D := D) (bk := bk) (S := S) 4937).1
    unfold e_an e_as at h'
    generalize hGq : e_G K c D bk S 4937 = Gq at *
    have count : ∀ k, k < 40 → ∀ (g2 j : Nat), g2 + j = Gq.length → ∀ (bi gr : Int32) (s2 : Nat → Int32), (∀ q, q ≠ 57 → s2 q = s1 q) → q_X G L d mX12_ask 0 0 Q 80 [(0, .ref r), (3, .int bi), (4, .int gr), (5, .int (nI k)), (6, .int (nI (e_N Gq k)))] [] (q_md M0 r s2 (va_up A1 47 g) B1) 0 0 → q_X G L d mX12_ask 0 0 Q 47 [(0, .ref r), (3, .int bi), (4, .int gr), (5, .int (nI k)), (6, .int (nI (e_ct (e_hr k) Gq j))), (7, .int (nI j))] [] (q_md M0 r s2 (va_up A1 47 g) B1) 0 0 := by
      intro k hk g2
      induction g2 with
      | zero =>
        intro j hj bi gr s2 hs2 h'
        have e : j = Gq.length := by omega
        subst e
        have e54' : s2 54 = nI Gq.length := (hs2 54 (by decide)).trans e54
        refine q_X.run sX12_ask [80] 20 ?_
        simp (maxSteps := 10000000) (disch := omega) only [↓q_run_s, q_stop_n, q_stop_c, q_lg_c, q_ls_d, q_ld_n, q_ld_c, q_cat_i, q_cat_r, q_cat_n, q_wd_n, q_wd_c, q_bx_1, q_bx_2, q_bx_3, q_bx_4, q_bx_5, q_bx_6, q_bx_7, q_bx_8, q_pop_0, q_pop_s, ↓reduceIte, Nat.reduceEqDiff, reduceCtorEq, eq_self, Bool.false_eq_true, Nat.reduceAdd, Nat.reduceSub, Nat.reduceMul, Nat.reduceLeDiff, Nat.reduceLT, Nat.le_refl, Nat.zero_le, true_and, and_true, false_and, and_false, or_false, false_or, true_or, or_true, not_true_eq_false, not_false_eq_true, if_true, if_false, List.getElem?_cons_zero, List.getElem?_cons_succ, List.set_cons_zero, List.set_cons_succ, List.length_cons, List.length_nil, ↓tX12_ask_0, ↓tX12_ask_1, ↓tX12_ask_2, ↓tX12_ask_5, ↓tX12_ask_8, ↓tX12_ask_9, ↓tX12_ask_10, ↓tX12_ask_11, ↓tX12_ask_12, ↓tX12_ask_13, ↓tX12_ask_16, ↓tX12_ask_17, ↓tX12_ask_20, ↓tX12_ask_22, ↓tX12_ask_23, ↓tX12_ask_24, ↓tX12_ask_26, ↓tX12_ask_27, ↓tX12_ask_28, ↓tX12_ask_31, ↓tX12_ask_32, ↓tX12_ask_34, ↓tX12_ask_36, ↓tX12_ask_38, ↓tX12_ask_41, ↓tX12_ask_42, ↓tX12_ask_44, ↓tX12_ask_45, ↓tX12_ask_47, ↓tX12_ask_49, ↓tX12_ask_50, ↓tX12_ask_53, ↓tX12_ask_56, ↓tX12_ask_58, ↓tX12_ask_59, ↓tX12_ask_62, ↓tX12_ask_64, ↓tX12_ask_65, ↓tX12_ask_67, ↓tX12_ask_68, ↓tX12_ask_69, ↓tX12_ask_70, ↓tX12_ask_71, ↓tX12_ask_72, ↓tX12_ask_74, ↓tX12_ask_77, ↓tX12_ask_80, ↓tX12_ask_82, ↓tX12_ask_83, ↓tX12_ask_86, ↓tX12_ask_88, ↓tX12_ask_89, ↓tX12_ask_92, ↓tX12_ask_94, ↓tX12_ask_97, ↓tX12_ask_98, ↓tX12_ask_101, ↓tX12_ask_103, ↓tX12_ask_104, ↓tX12_ask_106, ↓tX12_ask_108, ↓tX12_ask_110, ↓tX12_ask_113, ↓tX12_ask_116, ↓tX12_ask_118, ↓tX12_ask_120, ↓tX12_ask_121, ↓tX12_ask_123, ↓tX12_ask_126, ↓tX12_ask_127, ↓tX12_ask_130, ↓tX12_ask_132, ↓tX12_ask_133, ↓tX12_ask_134, ↓tX12_ask_137, ↓tX12_ask_140, ↓tX12_ask_141, ↓oAdd, ↓oAl, ↓oCallS, ↓oCallV, ↓oGet, ↓oGo, ↓oIald, ↓oIf1ne, ↓oIf2ge, ↓oIf2gt, ↓oIl, ↓oInc, ↓oIret, ↓oIs, ↓oK, ↓oL2i, ↓oLald, ↓oLand, ↓oLshr, ↓oPutI, ↓oSub, q_set_s, q_set_n, q_md_0, mO_len, q_up_a, mOs_57, mO_54, mO_55, md_55, mO_47, md_47, z_clamp, z_ltI, z_leI, z_eqI, z_lt0, z_ge0, z_eq0I, z_gt0I, z_le0I, z_m1lt, z_m1ge, z_m1eq, z_m1eq', z_inT, z_add, z_sub, z_mul, z_div, z_rem, n_ltT, n_ltF, n_leT, n_leF, n_eqT, n_eqF, z_11, q_tl_i, q_tl_n, q_ap_n, q_ap_c, e54']
        refine q_X.lv2 _ ?_ h'
        exact ⟨rfl, rfl, rfl, rfl, rfl, trivial⟩
      | succ g2 ih =>
        intro j hj bi gr s2 hs2 h'
        have e54' : s2 54 = nI Gq.length := (hs2 54 (by decide)).trans e54
        have hjl : j < Gq.length := by omega
        obtain ⟨x, hx⟩ : ∃ x, Gq[j]? = some x := ⟨_, List.getElem?_eq_getElem hjl⟩
        obtain ⟨Lo, Hi, f1, f2, f3⟩ := hG j x hx
        obtain ⟨n, v, hn, hv, ek⟩ := z_dec (k := k) (by omega)
        have hbit := (f3.2.2 n v hn hv).1 (by omega)
        rw [← ek] at hbit
        have hct : e_ct (e_hr k) Gq (j + 1) = e_ct (e_hr k) Gq j + z_tn Lo k := by
          show e_ct (e_hr k) Gq j + @ite Nat (∃ x, Gq[j]? = some x ∧ e_hr k x) (Classical.propDecidable _) 1 0 = _
          congr 1
          unfold z_tn
          by_cases cb : Lo.testBit k = true
          · rw [if_pos cb, if_pos ⟨x, hx, n, v, hn, hv, ek, hbit.mp cb⟩]
          · rw [if_neg cb, if_neg]
            rintro ⟨x', hx', n', v', hn', hv', ek', hS'⟩
            rw [hx] at hx'
            cases hx'
            obtain ⟨z1, z2⟩ := z_o_inj hn hv hn' hv' (by omega)
            subst z1 z2
            exact cb (hbit.mpr hS')
        have hle := e_ct_le (e_hr k) Gq j
        have h'' := ih (j + 1) (by omega) bi gr s2 hs2 h'
        rw [hct] at h''
        have ls := l_shrb (a := Lo) (k := k) f3.1 (by omega)
        generalize e_ct (e_hr k) Gq j = cnt at *
        refine q_X.run sX12_ask [47] 40 ?_
        simp (maxSteps := 10000000) (disch := omega) only [↓q_run_s, q_stop_n, q_stop_c, q_lg_c, q_ls_d, q_ld_n, q_ld_c, q_cat_i, q_cat_r, q_cat_n, q_wd_n, q_wd_c, q_bx_1, q_bx_2, q_bx_3, q_bx_4, q_bx_5, q_bx_6, q_bx_7, q_bx_8, q_pop_0, q_pop_s, ↓reduceIte, Nat.reduceEqDiff, reduceCtorEq, eq_self, Bool.false_eq_true, Nat.reduceAdd, Nat.reduceSub, Nat.reduceMul, Nat.reduceLeDiff, Nat.reduceLT, Nat.le_refl, Nat.zero_le, true_and, and_true, false_and, and_false, or_false, false_or, true_or, or_true, not_true_eq_false, not_false_eq_true, if_true, if_false, List.getElem?_cons_zero, List.getElem?_cons_succ, List.set_cons_zero, List.set_cons_succ, List.length_cons, List.length_nil, ↓tX12_ask_0, ↓tX12_ask_1, ↓tX12_ask_2, ↓tX12_ask_5, ↓tX12_ask_8, ↓tX12_ask_9, ↓tX12_ask_10, ↓tX12_ask_11, ↓tX12_ask_12, ↓tX12_ask_13, ↓tX12_ask_16, ↓tX12_ask_17, ↓tX12_ask_20, ↓tX12_ask_22, ↓tX12_ask_23, ↓tX12_ask_24, ↓tX12_ask_26, ↓tX12_ask_27, ↓tX12_ask_28, ↓tX12_ask_31, ↓tX12_ask_32, ↓tX12_ask_34, ↓tX12_ask_36, ↓tX12_ask_38, ↓tX12_ask_41, ↓tX12_ask_42, ↓tX12_ask_44, ↓tX12_ask_45, ↓tX12_ask_47, ↓tX12_ask_49, ↓tX12_ask_50, ↓tX12_ask_53, ↓tX12_ask_56, ↓tX12_ask_58, ↓tX12_ask_59, ↓tX12_ask_62, ↓tX12_ask_64, ↓tX12_ask_65, ↓tX12_ask_67, ↓tX12_ask_68, ↓tX12_ask_69, ↓tX12_ask_70, ↓tX12_ask_71, ↓tX12_ask_72, ↓tX12_ask_74, ↓tX12_ask_77, ↓tX12_ask_80, ↓tX12_ask_82, ↓tX12_ask_83, ↓tX12_ask_86, ↓tX12_ask_88, ↓tX12_ask_89, ↓tX12_ask_92, ↓tX12_ask_94, ↓tX12_ask_97, ↓tX12_ask_98, ↓tX12_ask_101, ↓tX12_ask_103, ↓tX12_ask_104, ↓tX12_ask_106, ↓tX12_ask_108, ↓tX12_ask_110, ↓tX12_ask_113, ↓tX12_ask_116, ↓tX12_ask_118, ↓tX12_ask_120, ↓tX12_ask_121, ↓tX12_ask_123, ↓tX12_ask_126, ↓tX12_ask_127, ↓tX12_ask_130, ↓tX12_ask_132, ↓tX12_ask_133, ↓tX12_ask_134, ↓tX12_ask_137, ↓tX12_ask_140, ↓tX12_ask_141, ↓oAdd, ↓oAl, ↓oCallS, ↓oCallV, ↓oGet, ↓oGo, ↓oIald, ↓oIf1ne, ↓oIf2ge, ↓oIf2gt, ↓oIl, ↓oInc, ↓oIret, ↓oIs, ↓oK, ↓oL2i, ↓oLald, ↓oLand, ↓oLshr, ↓oPutI, ↓oSub, q_set_s, q_set_n, q_md_0, mO_len, q_up_a, mOs_57, mO_54, mO_55, md_55, mO_47, md_47, z_clamp, z_ltI, z_leI, z_eqI, z_lt0, z_ge0, z_eq0I, z_gt0I, z_le0I, z_m1lt, z_m1ge, z_m1eq, z_m1eq', z_inT, z_add, z_sub, z_mul, z_div, z_rem, n_ltT, n_ltF, n_leT, n_leF, n_eqT, n_eqF, z_11, q_tl_i, q_tl_n, q_ap_n, q_ap_c, e54', f1, l_c1, ls]
        refine q_X.lv2 _ ?_ h''
        exact ⟨rfl, rfl, rfl, rfl, rfl, rfl, trivial⟩
    have loop : ∀ (g2 k : Nat) (s2 : Nat → Int32), g2 + k = 40 → s2 = va_up s1 57 (nI (m_aI (e_N Gq) Gq.length k)) → q_X G L d mX12_ask 0 0 Q 34 [(0, .ref r), (3, .int (m_bI (e_N Gq) Gq.length k)), (4, .int (nI (e_bs (e_N Gq) Gq.length k).1)), (5, .int (nI k))] [] (q_md M0 r s2 (va_up A1 47 g) B1) 0 0 := by
      intro g2
      induction g2 with
      | zero =>
        intro k s2 hk hs2
        have e : k = 40 := by omega
        subst e
        subst hs2
        refine q_X.run sX12_ask [] 20 ?_
        simp (maxSteps := 10000000) (disch := omega) only [↓q_run_s, q_stop_n, q_stop_c, q_lg_c, q_ls_d, q_ld_n, q_ld_c, q_cat_i, q_cat_r, q_cat_n, q_wd_n, q_wd_c, q_bx_1, q_bx_2, q_bx_3, q_bx_4, q_bx_5, q_bx_6, q_bx_7, q_bx_8, q_pop_0, q_pop_s, ↓reduceIte, Nat.reduceEqDiff, reduceCtorEq, eq_self, Bool.false_eq_true, Nat.reduceAdd, Nat.reduceSub, Nat.reduceMul, Nat.reduceLeDiff, Nat.reduceLT, Nat.le_refl, Nat.zero_le, true_and, and_true, false_and, and_false, or_false, false_or, true_or, or_true, not_true_eq_false, not_false_eq_true, if_true, if_false, List.getElem?_cons_zero, List.getElem?_cons_succ, List.set_cons_zero, List.set_cons_succ, List.length_cons, List.length_nil, ↓tX12_ask_0, ↓tX12_ask_1, ↓tX12_ask_2, ↓tX12_ask_5, ↓tX12_ask_8, ↓tX12_ask_9, ↓tX12_ask_10, ↓tX12_ask_11, ↓tX12_ask_12, ↓tX12_ask_13, ↓tX12_ask_16, ↓tX12_ask_17, ↓tX12_ask_20, ↓tX12_ask_22, ↓tX12_ask_23, ↓tX12_ask_24, ↓tX12_ask_26, ↓tX12_ask_27, ↓tX12_ask_28, ↓tX12_ask_31, ↓tX12_ask_32, ↓tX12_ask_34, ↓tX12_ask_36, ↓tX12_ask_38, ↓tX12_ask_41, ↓tX12_ask_42, ↓tX12_ask_44, ↓tX12_ask_45, ↓tX12_ask_47, ↓tX12_ask_49, ↓tX12_ask_50, ↓tX12_ask_53, ↓tX12_ask_56, ↓tX12_ask_58, ↓tX12_ask_59, ↓tX12_ask_62, ↓tX12_ask_64, ↓tX12_ask_65, ↓tX12_ask_67, ↓tX12_ask_68, ↓tX12_ask_69, ↓tX12_ask_70, ↓tX12_ask_71, ↓tX12_ask_72, ↓tX12_ask_74, ↓tX12_ask_77, ↓tX12_ask_80, ↓tX12_ask_82, ↓tX12_ask_83, ↓tX12_ask_86, ↓tX12_ask_88, ↓tX12_ask_89, ↓tX12_ask_92, ↓tX12_ask_94, ↓tX12_ask_97, ↓tX12_ask_98, ↓tX12_ask_101, ↓tX12_ask_103, ↓tX12_ask_104, ↓tX12_ask_106, ↓tX12_ask_108, ↓tX12_ask_110, ↓tX12_ask_113, ↓tX12_ask_116, ↓tX12_ask_118, ↓tX12_ask_120, ↓tX12_ask_121, ↓tX12_ask_123, ↓tX12_ask_126, ↓tX12_ask_127, ↓tX12_ask_130, ↓tX12_ask_132, ↓tX12_ask_133, ↓tX12_ask_134, ↓tX12_ask_137, ↓tX12_ask_140, ↓tX12_ask_141, ↓oAdd, ↓oAl, ↓oCallS, ↓oCallV, ↓oGet, ↓oGo, ↓oIald, ↓oIf1ne, ↓oIf2ge, ↓oIf2gt, ↓oIl, ↓oInc, ↓oIret, ↓oIs, ↓oK, ↓oL2i, ↓oLald, ↓oLand, ↓oLshr, ↓oPutI, ↓oSub, q_set_s, q_set_n, q_md_0, mO_len, q_up_a, mOs_57, mO_54, mO_55, md_55, mO_47, md_47, z_clamp, z_ltI, z_leI, z_eqI, z_lt0, z_ge0, z_eq0I, z_gt0I, z_le0I, z_m1lt, z_m1ge, z_m1eq, z_m1eq', z_inT, z_add, z_sub, z_mul, z_div, z_rem, n_ltT, n_ltF, n_leT, n_leF, n_eqT, n_eqF, z_11, q_tl_i, q_tl_n, q_ap_n, q_ap_c]
        exact h'
      | succ g2 ih =>
        intro k s2 hk hs2
        have hk40 : k < 40 := by omega
        have hNle : e_N Gq k ≤ Gq.length := e_ct_le _ _ _
        obtain ⟨hb1, hb2⟩ := e_bs_lt (e_N Gq) Gq.length k
        have hs2' : ∀ q, q ≠ 57 → s2 q = s1 q := fun q hq => by rw [hs2, va_up_ne _ _ hq]
        have e54' : s2 54 = nI Gq.length := (hs2' 54 (by decide)).trans e54
        have e47 : (va_up A1 47 g) 47 k = nI (e_rw k) := e_rw_at hg hk40
        rw [va_up_self] at e47
        have hend : q_X G L d mX12_ask 0 0 Q 80 [(0, .ref r), (3, .int (m_bI (e_N Gq) Gq.length k)), (4, .int (nI (e_bs (e_N Gq) Gq.length k).1)), (5, .int (nI k)), (6, .int (nI (e_N Gq k)))] [] (q_md M0 r s2 (va_up A1 47 g) B1) 0 0 := by
          by_cases cm : (e_bs (e_N Gq) Gq.length k).1 < min (e_N Gq k) (Gq.length - e_N Gq k)
          · have es : e_bs (e_N Gq) Gq.length (k + 1) = (min (e_N Gq k) (Gq.length - e_N Gq k), k) := if_pos cm
            have h'' := ih (k + 1) (va_up s2 57 (nI (e_N Gq k))) (by omega) (by
              rw [hs2, q_upup]
              congr 2
              unfold m_aI
              rw [es, if_neg (by show min _ _ ≠ 0; omega)])
            have eb : m_bI (e_N Gq) Gq.length (k + 1) = nI (e_rw k) := by
              unfold m_bI
              rw [es, if_neg (by show min _ _ ≠ 0; omega)]
            rw [eb, es] at h''
            generalize e_N Gq k = nk at *
            generalize (e_bs (e_N Gq) Gq.length k).1 = gr at *
            generalize m_bI (e_N Gq) Gq.length k = bi at *
            by_cases cl : nk < Gq.length - nk
            · rw [Nat.min_eq_left (by omega)] at h'' cm
              refine q_X.run sX12_ask [34] 60 ?_
              simp (maxSteps := 10000000) (disch := omega) only [↓q_run_s, q_stop_n, q_stop_c, q_lg_c, q_ls_d, q_ld_n, q_ld_c, q_cat_i, q_cat_r, q_cat_n, q_wd_n, q_wd_c, q_bx_1, q_bx_2, q_bx_3, q_bx_4, q_bx_5, q_bx_6, q_bx_7, q_bx_8, q_pop_0, q_pop_s, ↓reduceIte, Nat.reduceEqDiff, reduceCtorEq, eq_self, Bool.false_eq_true, Nat.reduceAdd, Nat.reduceSub, Nat.reduceMul, Nat.reduceLeDiff, Nat.reduceLT, Nat.le_refl, Nat.zero_le, true_and, and_true, false_and, and_false, or_false, false_or, true_or, or_true, not_true_eq_false, not_false_eq_true, if_true, if_false, List.getElem?_cons_zero, List.getElem?_cons_succ, List.set_cons_zero, List.set_cons_succ, List.length_cons, List.length_nil, ↓tX12_ask_0, ↓tX12_ask_1, ↓tX12_ask_2, ↓tX12_ask_5, ↓tX12_ask_8, ↓tX12_ask_9, ↓tX12_ask_10, ↓tX12_ask_11, ↓tX12_ask_12, ↓tX12_ask_13, ↓tX12_ask_16, ↓tX12_ask_17, ↓tX12_ask_20, ↓tX12_ask_22, ↓tX12_ask_23, ↓tX12_ask_24, ↓tX12_ask_26, ↓tX12_ask_27, ↓tX12_ask_28, ↓tX12_ask_31, ↓tX12_ask_32, ↓tX12_ask_34, ↓tX12_ask_36, ↓tX12_ask_38, ↓tX12_ask_41, ↓tX12_ask_42, ↓tX12_ask_44, ↓tX12_ask_45, ↓tX12_ask_47, ↓tX12_ask_49, ↓tX12_ask_50, ↓tX12_ask_53, ↓tX12_ask_56, ↓tX12_ask_58, ↓tX12_ask_59, ↓tX12_ask_62, ↓tX12_ask_64, ↓tX12_ask_65, ↓tX12_ask_67, ↓tX12_ask_68, ↓tX12_ask_69, ↓tX12_ask_70, ↓tX12_ask_71, ↓tX12_ask_72, ↓tX12_ask_74, ↓tX12_ask_77, ↓tX12_ask_80, ↓tX12_ask_82, ↓tX12_ask_83, ↓tX12_ask_86, ↓tX12_ask_88, ↓tX12_ask_89, ↓tX12_ask_92, ↓tX12_ask_94, ↓tX12_ask_97, ↓tX12_ask_98, ↓tX12_ask_101, ↓tX12_ask_103, ↓tX12_ask_104, ↓tX12_ask_106, ↓tX12_ask_108, ↓tX12_ask_110, ↓tX12_ask_113, ↓tX12_ask_116, ↓tX12_ask_118, ↓tX12_ask_120, ↓tX12_ask_121, ↓tX12_ask_123, ↓tX12_ask_126, ↓tX12_ask_127, ↓tX12_ask_130, ↓tX12_ask_132, ↓tX12_ask_133, ↓tX12_ask_134, ↓tX12_ask_137, ↓tX12_ask_140, ↓tX12_ask_141, ↓oAdd, ↓oAl, ↓oCallS, ↓oCallV, ↓oGet, ↓oGo, ↓oIald, ↓oIf1ne, ↓oIf2ge, ↓oIf2gt, ↓oIl, ↓oInc, ↓oIret, ↓oIs, ↓oK, ↓oL2i, ↓oLald, ↓oLand, ↓oLshr, ↓oPutI, ↓oSub, q_set_s, q_set_n, q_md_0, mO_len, q_up_a, mOs_57, mO_54, mO_55, md_55, mO_47, md_47, z_clamp, z_ltI, z_leI, z_eqI, z_lt0, z_ge0, z_eq0I, z_gt0I, z_le0I, z_m1lt, z_m1ge, z_m1eq, z_m1eq', z_inT, z_add, z_sub, z_mul, z_div, z_rem, n_ltT, n_ltF, n_leT, n_leF, n_eqT, n_eqF, z_11, q_tl_i, q_tl_n, q_ap_n, q_ap_c, e54', e47]
              refine q_X.lv2 _ ?_ h''
              exact ⟨rfl, rfl, rfl, rfl, trivial⟩
            · rw [Nat.min_eq_right (by omega)] at h'' cm
              refine q_X.run sX12_ask [34] 60 ?_
              simp (maxSteps := 10000000) (disch := omega) only [↓q_run_s, q_stop_n, q_stop_c, q_lg_c, q_ls_d, q_ld_n, q_ld_c, q_cat_i, q_cat_r, q_cat_n, q_wd_n, q_wd_c, q_bx_1, q_bx_2, q_bx_3, q_bx_4, q_bx_5, q_bx_6, q_bx_7, q_bx_8, q_pop_0, q_pop_s, ↓reduceIte, Nat.reduceEqDiff, reduceCtorEq, eq_self, Bool.false_eq_true, Nat.reduceAdd, Nat.reduceSub, Nat.reduceMul, Nat.reduceLeDiff, Nat.reduceLT, Nat.le_refl, Nat.zero_le, true_and, and_true, false_and, and_false, or_false, false_or, true_or, or_true, not_true_eq_false, not_false_eq_true, if_true, if_false, List.getElem?_cons_zero, List.getElem?_cons_succ, List.set_cons_zero, List.set_cons_succ, List.length_cons, List.length_nil, ↓tX12_ask_0, ↓tX12_ask_1, ↓tX12_ask_2, ↓tX12_ask_5, ↓tX12_ask_8, ↓tX12_ask_9, ↓tX12_ask_10, ↓tX12_ask_11, ↓tX12_ask_12, ↓tX12_ask_13, ↓tX12_ask_16, ↓tX12_ask_17, ↓tX12_ask_20, ↓tX12_ask_22, ↓tX12_ask_23, ↓tX12_ask_24, ↓tX12_ask_26, ↓tX12_ask_27, ↓tX12_ask_28, ↓tX12_ask_31, ↓tX12_ask_32, ↓tX12_ask_34, ↓tX12_ask_36, ↓tX12_ask_38, ↓tX12_ask_41, ↓tX12_ask_42, ↓tX12_ask_44, ↓tX12_ask_45, ↓tX12_ask_47, ↓tX12_ask_49, ↓tX12_ask_50, ↓tX12_ask_53, ↓tX12_ask_56, ↓tX12_ask_58, ↓tX12_ask_59, ↓tX12_ask_62, ↓tX12_ask_64, ↓tX12_ask_65, ↓tX12_ask_67, ↓tX12_ask_68, ↓tX12_ask_69, ↓tX12_ask_70, ↓tX12_ask_71, ↓tX12_ask_72, ↓tX12_ask_74, ↓tX12_ask_77, ↓tX12_ask_80, ↓tX12_ask_82, ↓tX12_ask_83, ↓tX12_ask_86, ↓tX12_ask_88, ↓tX12_ask_89, ↓tX12_ask_92, ↓tX12_ask_94, ↓tX12_ask_97, ↓tX12_ask_98, ↓tX12_ask_101, ↓tX12_ask_103, ↓tX12_ask_104, ↓tX12_ask_106, ↓tX12_ask_108, ↓tX12_ask_110, ↓tX12_ask_113, ↓tX12_ask_116, ↓tX12_ask_118, ↓tX12_ask_120, ↓tX12_ask_121, ↓tX12_ask_123, ↓tX12_ask_126, ↓tX12_ask_127, ↓tX12_ask_130, ↓tX12_ask_132, ↓tX12_ask_133, ↓tX12_ask_134, ↓tX12_ask_137, ↓tX12_ask_140, ↓tX12_ask_141, ↓oAdd, ↓oAl, ↓oCallS, ↓oCallV, ↓oGet, ↓oGo, ↓oIald, ↓oIf1ne, ↓oIf2ge, ↓oIf2gt, ↓oIl, ↓oInc, ↓oIret, ↓oIs, ↓oK, ↓oL2i, ↓oLald, ↓oLand, ↓oLshr, ↓oPutI, ↓oSub, q_set_s, q_set_n, q_md_0, mO_len, q_up_a, mOs_57, mO_54, mO_55, md_55, mO_47, md_47, z_clamp, z_ltI, z_leI, z_eqI, z_lt0, z_ge0, z_eq0I, z_gt0I, z_le0I, z_m1lt, z_m1ge, z_m1eq, z_m1eq', z_inT, z_add, z_sub, z_mul, z_div, z_rem, n_ltT, n_ltF, n_leT, n_leF, n_eqT, n_eqF, z_11, q_tl_i, q_tl_n, q_ap_n, q_ap_c, e54', e47]
              refine q_X.lv2 _ ?_ h''
              exact ⟨rfl, rfl, rfl, rfl, trivial⟩
          · have es : e_bs (e_N Gq) Gq.length (k + 1) = e_bs (e_N Gq) Gq.length k := if_neg cm
            have h'' := ih (k + 1) s2 (by omega) (by rw [hs2]; unfold m_aI; rw [es])
            have eb : m_bI (e_N Gq) Gq.length (k + 1) = m_bI (e_N Gq) Gq.length k := by unfold m_bI; rw [es]
            rw [eb, es] at h''
            generalize e_N Gq k = nk at *
            generalize (e_bs (e_N Gq) Gq.length k).1 = gr at *
            generalize m_bI (e_N Gq) Gq.length k = bi at *
            by_cases cl : nk < Gq.length - nk
            · rw [Nat.min_eq_left (by omega)] at cm
              refine q_X.run sX12_ask [34] 60 ?_
              simp (maxSteps := 10000000) (disch := omega) only [↓q_run_s, q_stop_n, q_stop_c, q_lg_c, q_ls_d, q_ld_n, q_ld_c, q_cat_i, q_cat_r, q_cat_n, q_wd_n, q_wd_c, q_bx_1, q_bx_2, q_bx_3, q_bx_4, q_bx_5, q_bx_6, q_bx_7, q_bx_8, q_pop_0, q_pop_s, ↓reduceIte, Nat.reduceEqDiff, reduceCtorEq, eq_self, Bool.false_eq_true, Nat.reduceAdd, Nat.reduceSub, Nat.reduceMul, Nat.reduceLeDiff, Nat.reduceLT, Nat.le_refl, Nat.zero_le, true_and, and_true, false_and, and_false, or_false, false_or, true_or, or_true, not_true_eq_false, not_false_eq_true, if_true, if_false, List.getElem?_cons_zero, List.getElem?_cons_succ, List.set_cons_zero, List.set_cons_succ, List.length_cons, List.length_nil, ↓tX12_ask_0, ↓tX12_ask_1, ↓tX12_ask_2, ↓tX12_ask_5, ↓tX12_ask_8, ↓tX12_ask_9, ↓tX12_ask_10, ↓tX12_ask_11, ↓tX12_ask_12, ↓tX12_ask_13, ↓tX12_ask_16, ↓tX12_ask_17, ↓tX12_ask_20, ↓tX12_ask_22, ↓tX12_ask_23, ↓tX12_ask_24, ↓tX12_ask_26, ↓tX12_ask_27, ↓tX12_ask_28, ↓tX12_ask_31, ↓tX12_ask_32, ↓tX12_ask_34, ↓tX12_ask_36, ↓tX12_ask_38, ↓tX12_ask_41, ↓tX12_ask_42, ↓tX12_ask_44, ↓tX12_ask_45, ↓tX12_ask_47, ↓tX12_ask_49, ↓tX12_ask_50, ↓tX12_ask_53, ↓tX12_ask_56, ↓tX12_ask_58, ↓tX12_ask_59, ↓tX12_ask_62, ↓tX12_ask_64, ↓tX12_ask_65, ↓tX12_ask_67, ↓tX12_ask_68, ↓tX12_ask_69, ↓tX12_ask_70, ↓tX12_ask_71, ↓tX12_ask_72, ↓tX12_ask_74, ↓tX12_ask_77, ↓tX12_ask_80, ↓tX12_ask_82, ↓tX12_ask_83, ↓tX12_ask_86, ↓tX12_ask_88, ↓tX12_ask_89, ↓tX12_ask_92, ↓tX12_ask_94, ↓tX12_ask_97, ↓tX12_ask_98, ↓tX12_ask_101, ↓tX12_ask_103, ↓tX12_ask_104, ↓tX12_ask_106, ↓tX12_ask_108, ↓tX12_ask_110, ↓tX12_ask_113, ↓tX12_ask_116, ↓tX12_ask_118, ↓tX12_ask_120, ↓tX12_ask_121, ↓tX12_ask_123, ↓tX12_ask_126, ↓tX12_ask_127, ↓tX12_ask_130, ↓tX12_ask_132, ↓tX12_ask_133, ↓tX12_ask_134, ↓tX12_ask_137, ↓tX12_ask_140, ↓tX12_ask_141, ↓oAdd, ↓oAl, ↓oCallS, ↓oCallV, ↓oGet, ↓oGo, ↓oIald, ↓oIf1ne, ↓oIf2ge, ↓oIf2gt, ↓oIl, ↓oInc, ↓oIret, ↓oIs, ↓oK, ↓oL2i, ↓oLald, ↓oLand, ↓oLshr, ↓oPutI, ↓oSub, q_set_s, q_set_n, q_md_0, mO_len, q_up_a, mOs_57, mO_54, mO_55, md_55, mO_47, md_47, z_clamp, z_ltI, z_leI, z_eqI, z_lt0, z_ge0, z_eq0I, z_gt0I, z_le0I, z_m1lt, z_m1ge, z_m1eq, z_m1eq', z_inT, z_add, z_sub, z_mul, z_div, z_rem, n_ltT, n_ltF, n_leT, n_leF, n_eqT, n_eqF, z_11, q_tl_i, q_tl_n, q_ap_n, q_ap_c, e54']
              refine q_X.lv2 _ ?_ h''
              exact ⟨rfl, rfl, rfl, rfl, trivial⟩
            · rw [Nat.min_eq_right (by omega)] at cm
              refine q_X.run sX12_ask [34] 60 ?_
              simp (maxSteps := 10000000) (disch := omega) only [↓q_run_s, q_stop_n, q_stop_c, q_lg_c, q_ls_d, q_ld_n, q_ld_c, q_cat_i, q_cat_r, q_cat_n, q_wd_n, q_wd_c, q_bx_1, q_bx_2, q_bx_3, q_bx_4, q_bx_5, q_bx_6, q_bx_7, q_bx_8, q_pop_0, q_pop_s, ↓reduceIte, Nat.reduceEqDiff, reduceCtorEq, eq_self, Bool.false_eq_true, Nat.reduceAdd, Nat.reduceSub, Nat.reduceMul, Nat.reduceLeDiff, Nat.reduceLT, Nat.le_refl, Nat.zero_le, true_and, and_true, false_and, and_false, or_false, false_or, true_or, or_true, not_true_eq_false, not_false_eq_true, if_true, if_false, List.getElem?_cons_zero, List.getElem?_cons_succ, List.set_cons_zero, List.set_cons_succ, List.length_cons, List.length_nil, ↓tX12_ask_0, ↓tX12_ask_1, ↓tX12_ask_2, ↓tX12_ask_5, ↓tX12_ask_8, ↓tX12_ask_9, ↓tX12_ask_10, ↓tX12_ask_11, ↓tX12_ask_12, ↓tX12_ask_13, ↓tX12_ask_16, ↓tX12_ask_17, ↓tX12_ask_20, ↓tX12_ask_22, ↓tX12_ask_23, ↓tX12_ask_24, ↓tX12_ask_26, ↓tX12_ask_27, ↓tX12_ask_28, ↓tX12_ask_31, ↓tX12_ask_32, ↓tX12_ask_34, ↓tX12_ask_36, ↓tX12_ask_38, ↓tX12_ask_41, ↓tX12_ask_42, ↓tX12_ask_44, ↓tX12_ask_45, ↓tX12_ask_47, ↓tX12_ask_49, ↓tX12_ask_50, ↓tX12_ask_53, ↓tX12_ask_56, ↓tX12_ask_58, ↓tX12_ask_59, ↓tX12_ask_62, ↓tX12_ask_64, ↓tX12_ask_65, ↓tX12_ask_67, ↓tX12_ask_68, ↓tX12_ask_69, ↓tX12_ask_70, ↓tX12_ask_71, ↓tX12_ask_72, ↓tX12_ask_74, ↓tX12_ask_77, ↓tX12_ask_80, ↓tX12_ask_82, ↓tX12_ask_83, ↓tX12_ask_86, ↓tX12_ask_88, ↓tX12_ask_89, ↓tX12_ask_92, ↓tX12_ask_94, ↓tX12_ask_97, ↓tX12_ask_98, ↓tX12_ask_101, ↓tX12_ask_103, ↓tX12_ask_104, ↓tX12_ask_106, ↓tX12_ask_108, ↓tX12_ask_110, ↓tX12_ask_113, ↓tX12_ask_116, ↓tX12_ask_118, ↓tX12_ask_120, ↓tX12_ask_121, ↓tX12_ask_123, ↓tX12_ask_126, ↓tX12_ask_127, ↓tX12_ask_130, ↓tX12_ask_132, ↓tX12_ask_133, ↓tX12_ask_134, ↓tX12_ask_137, ↓tX12_ask_140, ↓tX12_ask_141, ↓oAdd, ↓oAl, ↓oCallS, ↓oCallV, ↓oGet, ↓oGo, ↓oIald, ↓oIf1ne, ↓oIf2ge, ↓oIf2gt, ↓oIl, ↓oInc, ↓oIret, ↓oIs, ↓oK, ↓oL2i, ↓oLald, ↓oLand, ↓oLshr, ↓oPutI, ↓oSub, q_set_s, q_set_n, q_md_0, mO_len, q_up_a, mOs_57, mO_54, mO_55, md_55, mO_47, md_47, z_clamp, z_ltI, z_leI, z_eqI, z_lt0, z_ge0, z_eq0I, z_gt0I, z_le0I, z_m1lt, z_m1ge, z_m1eq, z_m1eq', z_inT, z_add, z_sub, z_mul, z_div, z_rem, n_ltT, n_ltF, n_leT, n_leF, n_eqT, n_eqF, z_11, q_tl_i, q_tl_n, q_ap_n, q_ap_c, e54']
              refine q_X.lv2 _ ?_ h''
              exact ⟨rfl, rfl, rfl, rfl, trivial⟩
        have h'' := count k hk40 Gq.length 0 (by omega) _ _ s2 hs2' hend
        have e0 : e_ct (e_hr k) Gq 0 = 0 := rfl
        rw [e0] at h''
        generalize m_bI (e_N Gq) Gq.length k = bi at *
        generalize (e_bs (e_N Gq) Gq.length k).1 = gr at *
        refine q_X.run sX12_ask [47] 20 ?_
        simp (maxSteps := 10000000) (disch := omega) only [↓q_run_s, q_stop_n, q_stop_c, q_lg_c, q_ls_d, q_ld_n, q_ld_c, q_cat_i, q_cat_r, q_cat_n, q_wd_n, q_wd_c, q_bx_1, q_bx_2, q_bx_3, q_bx_4, q_bx_5, q_bx_6, q_bx_7, q_bx_8, q_pop_0, q_pop_s, ↓reduceIte, Nat.reduceEqDiff, reduceCtorEq, eq_self, Bool.false_eq_true, Nat.reduceAdd, Nat.reduceSub, Nat.reduceMul, Nat.reduceLeDiff, Nat.reduceLT, Nat.le_refl, Nat.zero_le, true_and, and_true, false_and, and_false, or_false, false_or, true_or, or_true, not_true_eq_false, not_false_eq_true, if_true, if_false, List.getElem?_cons_zero, List.getElem?_cons_succ, List.set_cons_zero, List.set_cons_succ, List.length_cons, List.length_nil, ↓tX12_ask_0, ↓tX12_ask_1, ↓tX12_ask_2, ↓tX12_ask_5, ↓tX12_ask_8, ↓tX12_ask_9, ↓tX12_ask_10, ↓tX12_ask_11, ↓tX12_ask_12, ↓tX12_ask_13, ↓tX12_ask_16, ↓tX12_ask_17, ↓tX12_ask_20, ↓tX12_ask_22, ↓tX12_ask_23, ↓tX12_ask_24, ↓tX12_ask_26, ↓tX12_ask_27, ↓tX12_ask_28, ↓tX12_ask_31, ↓tX12_ask_32, ↓tX12_ask_34, ↓tX12_ask_36, ↓tX12_ask_38, ↓tX12_ask_41, ↓tX12_ask_42, ↓tX12_ask_44, ↓tX12_ask_45, ↓tX12_ask_47, ↓tX12_ask_49, ↓tX12_ask_50, ↓tX12_ask_53, ↓tX12_ask_56, ↓tX12_ask_58, ↓tX12_ask_59, ↓tX12_ask_62, ↓tX12_ask_64, ↓tX12_ask_65, ↓tX12_ask_67, ↓tX12_ask_68, ↓tX12_ask_69, ↓tX12_ask_70, ↓tX12_ask_71, ↓tX12_ask_72, ↓tX12_ask_74, ↓tX12_ask_77, ↓tX12_ask_80, ↓tX12_ask_82, ↓tX12_ask_83, ↓tX12_ask_86, ↓tX12_ask_88, ↓tX12_ask_89, ↓tX12_ask_92, ↓tX12_ask_94, ↓tX12_ask_97, ↓tX12_ask_98, ↓tX12_ask_101, ↓tX12_ask_103, ↓tX12_ask_104, ↓tX12_ask_106, ↓tX12_ask_108, ↓tX12_ask_110, ↓tX12_ask_113, ↓tX12_ask_116, ↓tX12_ask_118, ↓tX12_ask_120, ↓tX12_ask_121, ↓tX12_ask_123, ↓tX12_ask_126, ↓tX12_ask_127, ↓tX12_ask_130, ↓tX12_ask_132, ↓tX12_ask_133, ↓tX12_ask_134, ↓tX12_ask_137, ↓tX12_ask_140, ↓tX12_ask_141, ↓oAdd, ↓oAl, ↓oCallS, ↓oCallV, ↓oGet, ↓oGo, ↓oIald, ↓oIf1ne, ↓oIf2ge, ↓oIf2gt, ↓oIl, ↓oInc, ↓oIret, ↓oIs, ↓oK, ↓oL2i, ↓oLald, ↓oLand, ↓oLshr, ↓oPutI, ↓oSub, q_set_s, q_set_n, q_md_0, mO_len, q_up_a, mOs_57, mO_54, mO_55, md_55, mO_47, md_47, z_clamp, z_ltI, z_leI, z_eqI, z_lt0, z_ge0, z_eq0I, z_gt0I, z_le0I, z_m1lt, z_m1ge, z_m1eq, z_m1eq', z_inT, z_add, z_sub, z_mul, z_div, z_rem, n_ltT, n_ltF, n_leT, n_leF, n_eqT, n_eqF, z_11, q_tl_i, q_tl_n, q_ap_n, q_ap_c]
        refine q_X.lv2 _ ?_ h''
        exact ⟨rfl, rfl, rfl, rfl, rfl, rfl, trivial⟩
    have h'' := loop 40 0 (va_up s1 57 (nI 0)) rfl rfl
    have eb : m_bI (e_N Gq) Gq.length 0 = -2 := rfl
    have ec : (e_bs (e_N Gq) Gq.length 0).1 = 0 := rfl
    rw [eb, ec] at h''
    refine q_X.run sX12_ask [34] 20 ?_
    simp (maxSteps := 10000000) (disch := omega) only [↓q_run_s, q_stop_n, q_stop_c, q_lg_c, q_ls_d, q_ld_n, q_ld_c, q_cat_i, q_cat_r, q_cat_n, q_wd_n, q_wd_c, q_bx_1, q_bx_2, q_bx_3, q_bx_4, q_bx_5, q_bx_6, q_bx_7, q_bx_8, q_pop_0, q_pop_s, ↓reduceIte, Nat.reduceEqDiff, reduceCtorEq, eq_self, Bool.false_eq_true, Nat.reduceAdd, Nat.reduceSub, Nat.reduceMul, Nat.reduceLeDiff, Nat.reduceLT, Nat.le_refl, Nat.zero_le, true_and, and_true, false_and, and_false, or_false, false_or, true_or, or_true, not_true_eq_false, not_false_eq_true, if_true, if_false, List.getElem?_cons_zero, List.getElem?_cons_succ, List.set_cons_zero, List.set_cons_succ, List.length_cons, List.length_nil, ↓tX12_ask_0, ↓tX12_ask_1, ↓tX12_ask_2, ↓tX12_ask_5, ↓tX12_ask_8, ↓tX12_ask_9, ↓tX12_ask_10, ↓tX12_ask_11, ↓tX12_ask_12, ↓tX12_ask_13, ↓tX12_ask_16, ↓tX12_ask_17, ↓tX12_ask_20, ↓tX12_ask_22, ↓tX12_ask_23, ↓tX12_ask_24, ↓tX12_ask_26, ↓tX12_ask_27, ↓tX12_ask_28, ↓tX12_ask_31, ↓tX12_ask_32, ↓tX12_ask_34, ↓tX12_ask_36, ↓tX12_ask_38, ↓tX12_ask_41, ↓tX12_ask_42, ↓tX12_ask_44, ↓tX12_ask_45, ↓tX12_ask_47, ↓tX12_ask_49, ↓tX12_ask_50, ↓tX12_ask_53, ↓tX12_ask_56, ↓tX12_ask_58, ↓tX12_ask_59, ↓tX12_ask_62, ↓tX12_ask_64, ↓tX12_ask_65, ↓tX12_ask_67, ↓tX12_ask_68, ↓tX12_ask_69, ↓tX12_ask_70, ↓tX12_ask_71, ↓tX12_ask_72, ↓tX12_ask_74, ↓tX12_ask_77, ↓tX12_ask_80, ↓tX12_ask_82, ↓tX12_ask_83, ↓tX12_ask_86, ↓tX12_ask_88, ↓tX12_ask_89, ↓tX12_ask_92, ↓tX12_ask_94, ↓tX12_ask_97, ↓tX12_ask_98, ↓tX12_ask_101, ↓tX12_ask_103, ↓tX12_ask_104, ↓tX12_ask_106, ↓tX12_ask_108, ↓tX12_ask_110, ↓tX12_ask_113, ↓tX12_ask_116, ↓tX12_ask_118, ↓tX12_ask_120, ↓tX12_ask_121, ↓tX12_ask_123, ↓tX12_ask_126, ↓tX12_ask_127, ↓tX12_ask_130, ↓tX12_ask_132, ↓tX12_ask_133, ↓tX12_ask_134, ↓tX12_ask_137, ↓tX12_ask_140, ↓tX12_ask_141, ↓oAdd, ↓oAl, ↓oCallS, ↓oCallV, ↓oGet, ↓oGo, ↓oIald, ↓oIf1ne, ↓oIf2ge, ↓oIf2gt, ↓oIl, ↓oInc, ↓oIret, ↓oIs, ↓oK, ↓oL2i, ↓oLald, ↓oLand, ↓oLshr, ↓oPutI, ↓oSub, q_set_s, q_set_n, q_md_0, mO_len, q_up_a, mOs_57, mO_54, mO_55, md_55, mO_47, md_47, z_clamp, z_ltI, z_leI, z_eqI, z_lt0, z_ge0, z_eq0I, z_gt0I, z_le0I, z_m1lt, z_m1ge, z_m1eq, z_m1eq', z_inT, z_add, z_sub, z_mul, z_div, z_rem, n_ltT, n_ltF, n_leT, n_leF, n_eqT, n_eqF, z_11, q_tl_i, q_tl_n, q_ap_n, q_ap_c]
    refine q_X.lv2 _ ?_ h''
    exact ⟨rfl, rfl, rfl, rfl, trivial⟩
  · have h' := hF hno
    refine q_X.run sX12_ask [] 20 ?_
    simp (maxSteps := 10000000) (disch := omega) only [↓q_run_s, q_stop_n, q_stop_c, q_lg_c, q_ls_d, q_ld_n, q_ld_c, q_cat_i, q_cat_r, q_cat_n, q_wd_n, q_wd_c, q_bx_1, q_bx_2, q_bx_3, q_bx_4, q_bx_5, q_bx_6, q_bx_7, q_bx_8, q_pop_0, q_pop_s, ↓reduceIte, Nat.reduceEqDiff, reduceCtorEq, eq_self, Bool.false_eq_true, Nat.reduceAdd, Nat.reduceSub, Nat.reduceMul, Nat.reduceLeDiff, Nat.reduceLT, Nat.le_refl, Nat.zero_le, true_and, and_true, false_and, and_false, or_false, false_or, true_or, or_true, not_true_eq_false, not_false_eq_true, if_true, if_false, List.getElem?_cons_zero, List.getElem?_cons_succ, List.set_cons_zero, List.set_cons_succ, List.length_cons, List.length_nil, ↓tX12_ask_0, ↓tX12_ask_1, ↓tX12_ask_2, ↓tX12_ask_5, ↓tX12_ask_8, ↓tX12_ask_9, ↓tX12_ask_10, ↓tX12_ask_11, ↓tX12_ask_12, ↓tX12_ask_13, ↓tX12_ask_16, ↓tX12_ask_17, ↓tX12_ask_20, ↓tX12_ask_22, ↓tX12_ask_23, ↓tX12_ask_24, ↓tX12_ask_26, ↓tX12_ask_27, ↓tX12_ask_28, ↓tX12_ask_31, ↓tX12_ask_32, ↓tX12_ask_34, ↓tX12_ask_36, ↓tX12_ask_38, ↓tX12_ask_41, ↓tX12_ask_42, ↓tX12_ask_44, ↓tX12_ask_45, ↓tX12_ask_47, ↓tX12_ask_49, ↓tX12_ask_50, ↓tX12_ask_53, ↓tX12_ask_56, ↓tX12_ask_58, ↓tX12_ask_59, ↓tX12_ask_62, ↓tX12_ask_64, ↓tX12_ask_65, ↓tX12_ask_67, ↓tX12_ask_68, ↓tX12_ask_69, ↓tX12_ask_70, ↓tX12_ask_71, ↓tX12_ask_72, ↓tX12_ask_74, ↓tX12_ask_77, ↓tX12_ask_80, ↓tX12_ask_82, ↓tX12_ask_83, ↓tX12_ask_86, ↓tX12_ask_88, ↓tX12_ask_89, ↓tX12_ask_92, ↓tX12_ask_94, ↓tX12_ask_97, ↓tX12_ask_98, ↓tX12_ask_101, ↓tX12_ask_103, ↓tX12_ask_104, ↓tX12_ask_106, ↓tX12_ask_108, ↓tX12_ask_110, ↓tX12_ask_113, ↓tX12_ask_116, ↓tX12_ask_118, ↓tX12_ask_120, ↓tX12_ask_121, ↓tX12_ask_123, ↓tX12_ask_126, ↓tX12_ask_127, ↓tX12_ask_130, ↓tX12_ask_132, ↓tX12_ask_133, ↓tX12_ask_134, ↓tX12_ask_137, ↓tX12_ask_140, ↓tX12_ask_141, ↓oAdd, ↓oAl, ↓oCallS, ↓oCallV, ↓oGet, ↓oGo, ↓oIald, ↓oIf1ne, ↓oIf2ge, ↓oIf2gt, ↓oIl, ↓oInc, ↓oIret, ↓oIs, ↓oK, ↓oL2i, ↓oLald, ↓oLand, ↓oLshr, ↓oPutI, ↓oSub, q_set_s, q_set_n, q_md_0, mO_len, q_up_a, mOs_57, mO_54, mO_55, md_55, mO_47, md_47, z_clamp, z_ltI, z_leI, z_eqI, z_lt0, z_ge0, z_eq0I, z_gt0I, z_le0I, z_m1lt, z_m1ge, z_m1eq, z_m1eq', z_inT, z_add, z_sub, z_mul, z_div, z_rem, n_ltT, n_ltF, n_leT, n_leF, n_eqT, n_eqF, z_11, q_tl_i, q_tl_n, q_ap_n, q_ap_c]
    exact h'
end
