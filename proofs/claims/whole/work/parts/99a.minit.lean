/-! constructor of the reference -/
section
variable {G : qC} {L : Launch} {d : Nat} {Q : Option Value → qM → Prop} {i : Nat}
def m_s0 : Nat → Int32 := fun k => if k = 10 then nI 6000 else if k = 48 then -1 else 0
set_option maxRecDepth 100000 in
set_option maxHeartbeats 40000000 in
theorem c12_init {f : Nat → Option qE} (hd : 1 ≤ d) (hf : f i = some (.inr (12, [.int 0, .null, .int 0, .null, .null, .null, .null, .null, .null, .null, .int 0, .int 0, .null, .null, .null, .null, .int 0, .null, .int 0, .int 0, .int 0, .int 0, .int 0, .null, .null, .null, .null, .null, .null, .null, .int 0, .int 0, .int 0, .null, .null, .null, .null, .int 0, .int 0, .null, .null, .null, .null, .null, .null, .null, .null, .null, .int 0, .int 0, .int 0, .int 0, .null, .null, .int 0, .null, .null, .int 0]))) (hQ : Q none (q_md (i + 38, f) i m_s0 (fun _ _ => 0) (fun _ _ => 0))) : q_Call G L d mX12_init 37 287531 [.ref i] (i + 1, f) Q := by
  have e : ∀ M : qM, M.1 = i + 38 → (∀ a, M.2 a = (q_md (i + 38, f) i m_s0 (fun _ _ => 0) (fun _ _ => 0)).2 a) → Q none M := fun M h1 h2 => by
    rw [q_ext (M' := q_md (i + 38, f) i m_s0 (fun _ _ => 0) (fun _ _ => 0)) h1 h2]
    exact hQ
  refine q_Call.of [(0, .ref i)] rfl ?_
  refine q_X.run sX12_init [] 400 ?_
  simp (maxSteps := 10000000) (disch := omega) only [↓q_run_s, q_stop_n, q_stop_c, q_lg_c, q_ls_d, q_ld_n, q_ld_c, q_cat_i, q_cat_r, q_cat_n, q_wd_n, q_wd_c, q_bx_1, q_bx_2, q_bx_3, q_bx_4, q_bx_5, q_bx_6, q_bx_7, q_bx_8, q_pop_0, q_pop_s, ↓reduceIte, Nat.reduceEqDiff, reduceCtorEq, eq_self, Bool.false_eq_true, Nat.reduceAdd, Nat.reduceSub, Nat.reduceMul, Nat.reduceLeDiff, Nat.reduceLT, Nat.le_refl, Nat.zero_le, true_and, and_true, false_and, and_false, or_false, false_or, true_or, or_true, not_true_eq_false, not_false_eq_true, if_true, if_false, List.getElem?_cons_zero, List.getElem?_cons_succ, List.set_cons_zero, List.set_cons_succ, List.length_cons, List.length_nil, ↓tX12_init_0, ↓tX12_init_1, ↓tX12_init_4, ↓tX12_init_5, ↓tX12_init_7, ↓tX12_init_9, ↓tX12_init_12, ↓tX12_init_13, ↓tX12_init_16, ↓tX12_init_18, ↓tX12_init_21, ↓tX12_init_22, ↓tX12_init_25, ↓tX12_init_27, ↓tX12_init_30, ↓tX12_init_31, ↓tX12_init_34, ↓tX12_init_36, ↓tX12_init_39, ↓tX12_init_40, ↓tX12_init_43, ↓tX12_init_45, ↓tX12_init_48, ↓tX12_init_49, ↓tX12_init_52, ↓tX12_init_54, ↓tX12_init_57, ↓tX12_init_58, ↓tX12_init_61, ↓tX12_init_63, ↓tX12_init_66, ↓tX12_init_67, ↓tX12_init_70, ↓tX12_init_72, ↓tX12_init_75, ↓tX12_init_76, ↓tX12_init_79, ↓tX12_init_82, ↓tX12_init_83, ↓tX12_init_85, ↓tX12_init_87, ↓tX12_init_90, ↓tX12_init_91, ↓tX12_init_93, ↓tX12_init_95, ↓tX12_init_98, ↓tX12_init_99, ↓tX12_init_101, ↓tX12_init_103, ↓tX12_init_106, ↓tX12_init_107, ↓tX12_init_109, ↓tX12_init_111, ↓tX12_init_114, ↓tX12_init_115, ↓tX12_init_117, ↓tX12_init_119, ↓tX12_init_122, ↓tX12_init_123, ↓tX12_init_126, ↓tX12_init_128, ↓tX12_init_131, ↓tX12_init_132, ↓tX12_init_133, ↓tX12_init_135, ↓tX12_init_138, ↓tX12_init_139, ↓tX12_init_141, ↓tX12_init_143, ↓tX12_init_146, ↓tX12_init_147, ↓tX12_init_149, ↓tX12_init_151, ↓tX12_init_154, ↓tX12_init_155, ↓tX12_init_156, ↓tX12_init_158, ↓tX12_init_161, ↓tX12_init_162, ↓tX12_init_163, ↓tX12_init_165, ↓tX12_init_168, ↓tX12_init_169, ↓tX12_init_170, ↓tX12_init_172, ↓tX12_init_175, ↓tX12_init_176, ↓tX12_init_179, ↓tX12_init_181, ↓tX12_init_184, ↓tX12_init_185, ↓tX12_init_187, ↓tX12_init_189, ↓tX12_init_192, ↓tX12_init_193, ↓tX12_init_195, ↓tX12_init_197, ↓tX12_init_200, ↓tX12_init_201, ↓tX12_init_203, ↓tX12_init_205, ↓tX12_init_208, ↓tX12_init_209, ↓tX12_init_211, ↓tX12_init_213, ↓tX12_init_216, ↓tX12_init_217, ↓tX12_init_219, ↓tX12_init_221, ↓tX12_init_224, ↓tX12_init_225, ↓tX12_init_227, ↓tX12_init_229, ↓tX12_init_232, ↓tX12_init_233, ↓tX12_init_235, ↓tX12_init_237, ↓tX12_init_240, ↓tX12_init_241, ↓tX12_init_243, ↓tX12_init_245, ↓tX12_init_248, ↓tX12_init_249, ↓tX12_init_252, ↓tX12_init_254, ↓tX12_init_257, ↓tX12_init_258, ↓tX12_init_261, ↓tX12_init_263, ↓tX12_init_266, ↓tX12_init_267, ↓tX12_init_270, ↓tX12_init_272, ↓tX12_init_275, ↓tX12_init_276, ↓tX12_init_278, ↓tX12_init_280, ↓tX12_init_283, ↓tX12_init_284, ↓tX12_init_285, ↓tX12_init_288, ↓tX12_init_289, ↓tX12_init_292, ↓tX12_init_294, ↓tX12_init_297, ↓tX12_init_298, ↓tX12_init_301, ↓tX12_init_303, ↓tX12_init_306, ↓tX12_init_307, ↓tX12_init_310, ↓tX12_init_312, ↓tX12_init_315, ↓tX12_init_316, ↓tX12_init_319, ↓tX12_init_321, ↓tX12_init_324, ↓oAl, ↓oK, ↓oNewa, ↓oObj, ↓oPutI, ↓oPutR, ↓oVret, q_set_s, q_set_n, q_md_0, mO_len, q_up_a, mOs_10, mOs_48, z_clamp, z_ltI, z_leI, z_eqI, z_lt0, z_ge0, z_eq0I, z_gt0I, z_le0I, z_m1lt, z_m1ge, z_m1eq, z_m1eq', z_inT, z_add, z_sub, z_mul, z_div, z_rem, n_ltT, n_ltF, n_leT, n_leF, n_eqT, n_eqF, z_11, q_tl_i, q_tl_n, q_ap_n, q_ap_c, q_newP, q_setP, va_up_ne, va_up_self, hf]
  refine e _ rfl fun a => ?_
  rcases (show a < i ∨ a = i ∨ a = i + 1 ∨ a = i + 2 ∨ a = i + 3 ∨ a = i + 4 ∨ a = i + 5 ∨ a = i + 6 ∨ a = i + 7 ∨ a = i + 8 ∨ a = i + 9 ∨ a = i + 10 ∨ a = i + 11 ∨ a = i + 12 ∨ a = i + 13 ∨ a = i + 14 ∨ a = i + 15 ∨ a = i + 16 ∨ a = i + 17 ∨ a = i + 18 ∨ a = i + 19 ∨ a = i + 20 ∨ a = i + 21 ∨ a = i + 22 ∨ a = i + 23 ∨ a = i + 24 ∨ a = i + 25 ∨ a = i + 26 ∨ a = i + 27 ∨ a = i + 28 ∨ a = i + 29 ∨ a = i + 30 ∨ a = i + 31 ∨ a = i + 32 ∨ a = i + 33 ∨ a = i + 34 ∨ a = i + 35 ∨ a = i + 36 ∨ a = i + 37 ∨ i + 38 ≤ a by omega) with g | g | g | g | g | g | g | g | g | g | g | g | g | g | g | g | g | g | g | g | g | g | g | g | g | g | g | g | g | g | g | g | g | g | g | g | g | g | g | g
  · simp (disch := omega) only [va_up_ne]
    exact (q_md_out (i + 38, f) i m_s0 (fun _ _ => 0) (fun _ _ => 0) (Or.inl g)).symm
  · rw [g]
    simp (disch := omega) only [va_up_ne, va_up_self]
    exact (q_md_k (i + 38, f) i m_s0 (fun _ _ => 0) (fun _ _ => 0) (k := 0) (by decide)).symm
  · rw [g]
    simp (disch := omega) only [va_up_ne, va_up_self]
    exact (q_md_k (i + 38, f) i m_s0 (fun _ _ => 0) (fun _ _ => 0) (k := 1) (by decide)).symm
  · rw [g]
    simp (disch := omega) only [va_up_ne, va_up_self]
    exact (q_md_k (i + 38, f) i m_s0 (fun _ _ => 0) (fun _ _ => 0) (k := 2) (by decide)).symm
  · rw [g]
    simp (disch := omega) only [va_up_ne, va_up_self]
    exact (q_md_k (i + 38, f) i m_s0 (fun _ _ => 0) (fun _ _ => 0) (k := 3) (by decide)).symm
  · rw [g]
    simp (disch := omega) only [va_up_ne, va_up_self]
    exact (q_md_k (i + 38, f) i m_s0 (fun _ _ => 0) (fun _ _ => 0) (k := 4) (by decide)).symm
  · rw [g]
    simp (disch := omega) only [va_up_ne, va_up_self]
    exact (q_md_k (i + 38, f) i m_s0 (fun _ _ => 0) (fun _ _ => 0) (k := 5) (by decide)).symm
  · rw [g]
    simp (disch := omega) only [va_up_ne, va_up_self]
    exact (q_md_k (i + 38, f) i m_s0 (fun _ _ => 0) (fun _ _ => 0) (k := 6) (by decide)).symm
  · rw [g]
    simp (disch := omega) only [va_up_ne, va_up_self]
    exact (q_md_k (i + 38, f) i m_s0 (fun _ _ => 0) (fun _ _ => 0) (k := 7) (by decide)).symm
  · rw [g]
    simp (disch := omega) only [va_up_ne, va_up_self]
    exact (q_md_k (i + 38, f) i m_s0 (fun _ _ => 0) (fun _ _ => 0) (k := 8) (by decide)).symm
  · rw [g]
    simp (disch := omega) only [va_up_ne, va_up_self]
    exact (q_md_k (i + 38, f) i m_s0 (fun _ _ => 0) (fun _ _ => 0) (k := 9) (by decide)).symm
  · rw [g]
    simp (disch := omega) only [va_up_ne, va_up_self]
    exact (q_md_k (i + 38, f) i m_s0 (fun _ _ => 0) (fun _ _ => 0) (k := 10) (by decide)).symm
  · rw [g]
    simp (disch := omega) only [va_up_ne, va_up_self]
    exact (q_md_k (i + 38, f) i m_s0 (fun _ _ => 0) (fun _ _ => 0) (k := 11) (by decide)).symm
  · rw [g]
    simp (disch := omega) only [va_up_ne, va_up_self]
    exact (q_md_k (i + 38, f) i m_s0 (fun _ _ => 0) (fun _ _ => 0) (k := 12) (by decide)).symm
  · rw [g]
    simp (disch := omega) only [va_up_ne, va_up_self]
    exact (q_md_k (i + 38, f) i m_s0 (fun _ _ => 0) (fun _ _ => 0) (k := 13) (by decide)).symm
  · rw [g]
    simp (disch := omega) only [va_up_ne, va_up_self]
    exact (q_md_k (i + 38, f) i m_s0 (fun _ _ => 0) (fun _ _ => 0) (k := 14) (by decide)).symm
  · rw [g]
    simp (disch := omega) only [va_up_ne, va_up_self]
    exact (q_md_k (i + 38, f) i m_s0 (fun _ _ => 0) (fun _ _ => 0) (k := 15) (by decide)).symm
  · rw [g]
    simp (disch := omega) only [va_up_ne, va_up_self]
    exact (q_md_k (i + 38, f) i m_s0 (fun _ _ => 0) (fun _ _ => 0) (k := 16) (by decide)).symm
  · rw [g]
    simp (disch := omega) only [va_up_ne, va_up_self]
    exact (q_md_k (i + 38, f) i m_s0 (fun _ _ => 0) (fun _ _ => 0) (k := 17) (by decide)).symm
  · rw [g]
    simp (disch := omega) only [va_up_ne, va_up_self]
    exact (q_md_k (i + 38, f) i m_s0 (fun _ _ => 0) (fun _ _ => 0) (k := 18) (by decide)).symm
  · rw [g]
    simp (disch := omega) only [va_up_ne, va_up_self]
    exact (q_md_k (i + 38, f) i m_s0 (fun _ _ => 0) (fun _ _ => 0) (k := 19) (by decide)).symm
  · rw [g]
    simp (disch := omega) only [va_up_ne, va_up_self]
    exact (q_md_k (i + 38, f) i m_s0 (fun _ _ => 0) (fun _ _ => 0) (k := 20) (by decide)).symm
  · rw [g]
    simp (disch := omega) only [va_up_ne, va_up_self]
    exact (q_md_k (i + 38, f) i m_s0 (fun _ _ => 0) (fun _ _ => 0) (k := 21) (by decide)).symm
  · rw [g]
    simp (disch := omega) only [va_up_ne, va_up_self]
    exact (q_md_k (i + 38, f) i m_s0 (fun _ _ => 0) (fun _ _ => 0) (k := 22) (by decide)).symm
  · rw [g]
    simp (disch := omega) only [va_up_ne, va_up_self]
    exact (q_md_k (i + 38, f) i m_s0 (fun _ _ => 0) (fun _ _ => 0) (k := 23) (by decide)).symm
  · rw [g]
    simp (disch := omega) only [va_up_ne, va_up_self]
    exact (q_md_k (i + 38, f) i m_s0 (fun _ _ => 0) (fun _ _ => 0) (k := 24) (by decide)).symm
  · rw [g]
    simp (disch := omega) only [va_up_ne, va_up_self]
    exact (q_md_k (i + 38, f) i m_s0 (fun _ _ => 0) (fun _ _ => 0) (k := 25) (by decide)).symm
  · rw [g]
    simp (disch := omega) only [va_up_ne, va_up_self]
    exact (q_md_k (i + 38, f) i m_s0 (fun _ _ => 0) (fun _ _ => 0) (k := 26) (by decide)).symm
  · rw [g]
    simp (disch := omega) only [va_up_ne, va_up_self]
    exact (q_md_k (i + 38, f) i m_s0 (fun _ _ => 0) (fun _ _ => 0) (k := 27) (by decide)).symm
  · rw [g]
    simp (disch := omega) only [va_up_ne, va_up_self]
    exact (q_md_k (i + 38, f) i m_s0 (fun _ _ => 0) (fun _ _ => 0) (k := 28) (by decide)).symm
  · rw [g]
    simp (disch := omega) only [va_up_ne, va_up_self]
    exact (q_md_k (i + 38, f) i m_s0 (fun _ _ => 0) (fun _ _ => 0) (k := 29) (by decide)).symm
  · rw [g]
    simp (disch := omega) only [va_up_ne, va_up_self]
    exact (q_md_k (i + 38, f) i m_s0 (fun _ _ => 0) (fun _ _ => 0) (k := 30) (by decide)).symm
  · rw [g]
    simp (disch := omega) only [va_up_ne, va_up_self]
    exact (q_md_k (i + 38, f) i m_s0 (fun _ _ => 0) (fun _ _ => 0) (k := 31) (by decide)).symm
  · rw [g]
    simp (disch := omega) only [va_up_ne, va_up_self]
    exact (q_md_k (i + 38, f) i m_s0 (fun _ _ => 0) (fun _ _ => 0) (k := 32) (by decide)).symm
  · rw [g]
    simp (disch := omega) only [va_up_ne, va_up_self]
    exact (q_md_k (i + 38, f) i m_s0 (fun _ _ => 0) (fun _ _ => 0) (k := 33) (by decide)).symm
  · rw [g]
    simp (disch := omega) only [va_up_ne, va_up_self]
    exact (q_md_k (i + 38, f) i m_s0 (fun _ _ => 0) (fun _ _ => 0) (k := 34) (by decide)).symm
  · rw [g]
    simp (disch := omega) only [va_up_ne, va_up_self]
    exact (q_md_k (i + 38, f) i m_s0 (fun _ _ => 0) (fun _ _ => 0) (k := 35) (by decide)).symm
  · rw [g]
    simp (disch := omega) only [va_up_ne, va_up_self]
    exact (q_md_k (i + 38, f) i m_s0 (fun _ _ => 0) (fun _ _ => 0) (k := 36) (by decide)).symm
  · rw [g]
    simp (disch := omega) only [va_up_ne, va_up_self]
    exact (q_md_k (i + 38, f) i m_s0 (fun _ _ => 0) (fun _ _ => 0) (k := 37) (by decide)).symm
  · simp (disch := omega) only [va_up_ne]
    exact (q_md_out (i + 38, f) i m_s0 (fun _ _ => 0) (fun _ _ => 0) (Or.inr g)).symm
end
