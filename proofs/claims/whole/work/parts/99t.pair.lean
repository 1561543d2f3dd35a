/-! a call of the class and the same of the reference -/
def w_1 {α : Type} : Option α → Nat
  | none => 1
  | some _ => 0
def y_I (M : qM) (io r b k cs ss : Nat) : Prop := ∃ (zp zc : Option Nat) (zf : Option (Nat × Nat)) (T : Nat) (tp : Nat → Nat) (P : Nat → Option qT) (S : Nat) (D : Nat → yD) (tb : Nat) (σ : fS) (as : Nat) (s : Nat → Int32) (A : Nat → Nat → Int32) (B : Nat → Nat → Int64), w_All M io r b zp zc zf T tp P S D tb k σ as s A B ∧ m_J T tp P S D tb σ as s A B ∧ cs + 3 * w_1 zp + 9 * w_1 zc + 15 * w_1 zf ≤ 600000 ∧ ss + 8453 * w_1 zp + 19793 * w_1 zc + 27978 * w_1 zf ≤ 7302250
def y_M (G : qC) (L : Launch) (mi : qMI) (r : Nat) (As : List Value) (M1 : qM) (w : Int32) (I : qM → Prop) : Prop := (∃ fs, M1.2 r = some (.inr (12, fs))) ∧ ∀ (d2 : Nat) (Q2 : Option Value → qM → Prop), 402 ≤ d2 → (∀ M2, I M2 → Q2 (some (.int w)) M2) → q_Call G L d2 mi 0 0 (.ref r :: As) M1 Q2
section
variable {G : qC} {L : Launch} {d : Nat} {Q : Option Value → qM → Prop} {M M1 : qM} {cs ss : Nat} {io r b : Nat} {zp : Option Nat} {zc : Option Nat} {zf : Option (Nat × Nat)} {T : Nat} {tp : Nat → Nat} {P : Nat → Option qT} {S : Nat} {D : Nat → yD} {tb : Nat} {k : Nat} {σ : fS} {as : Nat} {s : Nat → Int32} {A : Nat → Nat → Int32} {B : Nat → Nat → Int64}
theorem y_M_of {mi : qMI} {As : List Value} {w : Int32} {I : qM → Prop} (h1 : w_All M1 io r b zp zc zf T tp P S D tb k σ as s A B) (hc : ∀ (d2 : Nat) (Q2 : Option Value → qM → Prop), 402 ≤ d2 → (∀ M2, I M2 → Q2 (some (.int w)) M2) → q_Call G L d2 mi 0 0 (.ref r :: As) (q_md M1 r s A B) Q2) : y_M G L mi r As M1 w I := by
  have hm := h1.2.2.2.2.2.2.2.2.2.2.1
  rw [hm.eq] at hc
  exact ⟨⟨mO r s, hm 0 (by decide)⟩, hc⟩
theorem y_in {s' : Nat → Int32} {A' : Nat → Nat → Int32} {B' : Nat → Nat → Int64} (h1 : w_All M1 io r b zp zc zf T tp P S D tb k σ as s A B) (hJ : m_J T tp P S D tb σ as s' A' B') (hb : cs + 3 * w_1 zp + 9 * w_1 zc + 15 * w_1 zf ≤ 600000 ∧ ss + 8453 * w_1 zp + 19793 * w_1 zc + 27978 * w_1 zf ≤ 7302250) : y_I (q_md M1 r s' A' B') io r b k cs ss := ⟨zp, zc, zf, T, tp, P, S, D, tb, σ, as, s', A', B', h1.md w_Md_of (Nat.le_refl _) (fun x hx => q_md_out _ _ _ _ _ hx), hJ, hb⟩
theorem m_J.feed {f : Nat → Int32} {m : Nat} {tp' : Nat → Nat} {v : Int32} (h : m_J T tp P S D tb σ as s A B) (hm : T + m ≤ 60) (f1 : ∀ j, j < T → f j = A 17 j) (f2 : ∀ j, j < m → f (T + j) = m_sb (z_by v j)) (t1 : ∀ j, j < T → tp' j = tp j) (t2 : ∀ j, j < m → tp' (T + j) = z_by v j) : m_J (T + m) tp' P S D tb σ as (va_up s 18 (nI (T + m))) (va_up A 17 f) B := by
  obtain ⟨j1, j2, j3, j4, j5, j6, j7, j8, j9, j10, j11⟩ := h
  have hs : ∀ k, k ≠ 18 → va_up s 18 (nI (T + m)) k = s k := fun k hk => va_up_ne _ _ hk
  have ha : ∀ k, k ≠ 17 → va_up A 17 f k = A k := fun k hk => va_up_ne _ _ hk
  have hl : k_Laid s A → k_Laid (va_up s 18 (nI (T + m))) (va_up A 17 f) := fun g => k_Laid_fr g (hs 11 (by decide)) (fun f _ _ => ha f (by omega)) (ha 12 (by decide))
  refine ⟨m_P_cg j1 (ha 13 (by decide)) (ha 14 (by decide)) (ha 15 (by decide)), j2, ⟨(hs 38 (by decide)).trans j3.1, j3.2.1, fun j hj => ?_⟩, ⟨j4.1, fun j g1 g2 => by rw [ha 43 (by decide)]; exact j4.2 j g1 g2⟩, ⟨va_up_self _ _ _, hm, fun j hj => ?_⟩, j6.imp (fun g => (hs 11 (by decide)).trans g) hl, m_Kw_cg j7 (ha 44 (by decide)) (ha 47 (by decide)) rfl rfl, j8.imp fun fo g => g.imp fun ac g => m_blk_cg g (ha 25 (by decide)) (ha 26 (by decide)), j9.imp fun fo g => g.imp fun ac g => m_blk_cg g (ha 25 (by decide)) (ha 26 (by decide)), ?_, (hs 57 (by decide)).trans j11⟩
  · rw [ha 39 (by decide), ha 40 (by decide), ha 41 (by decide), ha 42 (by decide), ha 43 (by decide)]
    exact j3.2.2 j hj
  · rw [va_up_self]
    by_cases c : j < T
    · rw [f1 j c, t1 j c]
      exact j5.2.2 j c
    · have g1 := f2 (j - T) (by omega)
      have g2 := t2 (j - T) (by omega)
      rw [show T + (j - T) = j by omega] at g1 g2
      rw [g1, g2]
      exact ⟨rfl, z_by_lt⟩
  · cases σ with
    | none => exact ⟨(hs 48 (by decide)).trans j10.1, (hs 51 (by decide)).trans j10.2⟩
    | some x =>
      obtain ⟨K, c, a, m', fnd⟩ := x
      obtain ⟨q1, q2, q3, q4, q5, q6, q7, q8, q9, q10⟩ := j10
      exact ⟨q1, q2, (hs 48 (by decide)).trans q3, (hs 49 (by decide)).trans q4, (hs 50 (by decide)).trans q5, (hs 51 (by decide)).trans q6, q7, q8, q9, hl q10⟩
theorem m_J.sh {S' tb' : Nat} {D' : Nat → yD} {s' : Nat → Int32} {A' : Nat → Nat → Int32} (h : m_J T tp P S D tb σ as s A B) (hs : ∀ k, k ≠ 2 → k ≠ 38 → s' k = s k) (ha : ∀ f, f ≠ 1 → f ≠ 39 → f ≠ 40 → f ≠ 41 → f ≠ 42 → f ≠ 43 → A' f = A f) (h3 : m_Shw s' A' S' D' (fun j => tb'.testBit j)) (h4 : tb' < 2 ^ S' ∧ ∀ j, S' ≤ j → j < 20 → A' 43 j = nI 0) : m_J T tp P S' D' tb' σ as s' A' B := by
  obtain ⟨j1, j2, j3, j4, j5, j6, j7, j8, j9, j10, j11⟩ := h
  have ha' : ∀ f, f ≠ 1 → f < 39 ∨ 43 < f → A' f = A f := fun f h1 h2 => ha f h1 (by omega) (by omega) (by omega) (by omega) (by omega)
  have hl : k_Laid s A → k_Laid s' A' := fun g => k_Laid_fr g (hs 11 (by decide) (by decide)) (fun f _ _ => ha' f (by omega) (by omega)) (ha' 12 (by decide) (by decide))
  refine ⟨m_P_cg j1 (ha' 13 (by decide) (by decide)) (ha' 14 (by decide) (by decide)) (ha' 15 (by decide) (by decide)), j2, h3, h4, ⟨(hs 18 (by decide) (by decide)).trans j5.1, j5.2.1, fun j hj => by rw [ha' 17 (by decide) (by decide)]; exact j5.2.2 j hj⟩, j6.imp (fun g => (hs 11 (by decide) (by decide)).trans g) hl, m_Kw_cg j7 (ha' 44 (by decide) (by decide)) (ha' 47 (by decide) (by decide)) rfl rfl, j8.imp fun fo g => g.imp fun ac g => m_blk_cg g (ha' 25 (by decide) (by decide)) (ha' 26 (by decide) (by decide)), j9.imp fun fo g => g.imp fun ac g => m_blk_cg g (ha' 25 (by decide) (by decide)) (ha' 26 (by decide) (by decide)), ?_, (hs 57 (by decide) (by decide)).trans j11⟩
  cases σ with
  | none => exact ⟨(hs 48 (by decide) (by decide)).trans j10.1, (hs 51 (by decide) (by decide)).trans j10.2⟩
  | some x =>
    obtain ⟨K, c, a, m', fnd⟩ := x
    obtain ⟨q1, q2, q3, q4, q5, q6, q7, q8, q9, q10⟩ := j10
    exact ⟨q1, q2, (hs 48 (by decide) (by decide)).trans q3, (hs 49 (by decide) (by decide)).trans q4, (hs 50 (by decide) (by decide)).trans q5, (hs 51 (by decide) (by decide)).trans q6, q7, q8, q9, hl q10⟩
theorem y_feed {n v : Int32} (h : y_I M io r b k cs ss) (hd : 402 ≤ d) (hQ : ∀ ww M1, y_M G L mX12_feed r [.int n, .int v] M1 ww (fun M2 => y_I M2 io r b (k + 1) cs ss) → Q (some (.int ww)) M1) : q_Call G L d mX11_feed 0 0 [.ref io, .int n, .int v] M Q := by
  obtain ⟨zp, zc, zf, T, tp, P, S, D, tb, σ, as, s, A, B, h, hJ, hb⟩ := h
  have hTp := hJ.2.2.2.2.1
  have bad : ∀ m, n = nI m → 1 ≤ m → m ≤ 4 → nI 1 ≤ n ∧ n ≤ nI 4 := fun m e h1 h2 => by subst e; exact ⟨(nI_leI (by decide) (by omega)).mpr h1, (nI_leI (by omega) (by decide)).mpr h2⟩
  have inj : ∀ m m', n = nI m → n = nI m' → m ≤ 4 → m' ≤ 4 → m = m' := fun m m' e e' h1 h2 => (nI_eq (by omega) (by omega)).mp (e.symm.trans e')
  refine v11_feed h (by omega) (fun c => ?_) (fun m e m1 m4 hm => ?_) (fun m M1 tp' e m1 m4 hm ht1 ht2 h1 => ?_)
  · refine hQ _ _ (y_M_of h fun d2 Q2 hd2 hK => ?_)
    exact c12_feed (by omega) hTp.1 hTp.2.1 (fun _ => hK _ (y_in h.next hJ hb)) (fun m e m1 m4 _ => absurd (bad m e m1 m4) c) (fun m f e m1 m4 _ _ _ => absurd (bad m e m1 m4) c)
  · refine hQ _ _ (y_M_of h fun d2 Q2 hd2 hK => ?_)
    exact c12_feed (by omega) hTp.1 hTp.2.1 (fun c => absurd (bad m e m1 m4) c) (fun m' e' _ _ _ => hK _ (y_in h.next hJ hb)) (fun m' f e' g1 g4 hm' _ _ => absurd hm' (by have := inj m m' e e' m4 g4; omega))
  · refine hQ _ _ (y_M_of h1 fun d2 Q2 hd2 hK => ?_)
    refine c12_feed (by omega) hTp.1 hTp.2.1 (fun c => absurd (bad m e m1 m4) c) (fun m' e' g1 g4 hm' => absurd hm' (by have := inj m m' e e' m4 g4; omega)) (fun m' f e' g1 g4 hm' f1 f2 => ?_)
    have em := inj m m' e e' m4 g4
    subst em
    exact hK _ (y_in h1.next (hJ.feed hm f1 f2 ht1 ht2) hb)
end
