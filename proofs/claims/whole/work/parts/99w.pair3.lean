/-! pairs of calls: read, alike, parted, inside, about, nth, find, next, open, ask, noise -/
section
variable {cs ss : Nat} {zp zc : Option Nat} {zf : Option (Nat × Nat)}
theorem bud_p (hb : cs + 3 * w_1 zp + 9 * w_1 zc + 15 * w_1 zf ≤ 600000 ∧ ss + 8453 * w_1 zp + 19793 * w_1 zc + 27978 * w_1 zf ≤ 7302250) (good : Prop) : ∃ mc ms, (cs + mc ≤ 600000 ∧ ss + ms ≤ 7302250) ∧ (good → zp = none → 3 ≤ mc ∧ 8453 ≤ ms) ∧ (good → ∀ z : Nat, cs + mc + 3 * w_1 (some z) + 9 * w_1 zc + 15 * w_1 zf ≤ 600000 ∧ ss + ms + 8453 * w_1 (some z) + 19793 * w_1 zc + 27978 * w_1 zf ≤ 7302250) ∧ (¬ good → mc = 0 ∧ ms = 0) := by
  have e1 : w_1 (none : Option Nat) = 1 := rfl
  have e0 : ∀ z : Nat, w_1 (some z) = 0 := fun _ => rfl
  by_cases g : good
  · refine ⟨3 * w_1 zp, 8453 * w_1 zp, ⟨by omega, by omega⟩, fun _ h => ?_, fun _ z => ?_, fun h => absurd g h⟩
    · subst h; rw [e1]; omega
    · rw [e0]; omega
  · exact ⟨0, 0, ⟨by omega, by omega⟩, fun h => absurd h g, fun h => absurd h g, fun _ => ⟨rfl, rfl⟩⟩
theorem bud_c (hb : cs + 3 * w_1 zp + 9 * w_1 zc + 15 * w_1 zf ≤ 600000 ∧ ss + 8453 * w_1 zp + 19793 * w_1 zc + 27978 * w_1 zf ≤ 7302250) (good : Prop) : ∃ mc ms, (cs + mc ≤ 600000 ∧ ss + ms ≤ 7302250) ∧ (good → zc = none → 9 ≤ mc ∧ 19793 ≤ ms) ∧ (good → ∀ z : Nat, cs + mc + 3 * w_1 zp + 9 * w_1 (some z) + 15 * w_1 zf ≤ 600000 ∧ ss + ms + 8453 * w_1 zp + 19793 * w_1 (some z) + 27978 * w_1 zf ≤ 7302250) ∧ (¬ good → mc = 0 ∧ ms = 0) := by
  have e1 : w_1 (none : Option Nat) = 1 := rfl
  have e0 : ∀ z : Nat, w_1 (some z) = 0 := fun _ => rfl
  by_cases g : good
  · refine ⟨9 * w_1 zc, 19793 * w_1 zc, ⟨by omega, by omega⟩, fun _ h => ?_, fun _ z => ?_, fun h => absurd g h⟩
    · subst h; rw [e1]; omega
    · rw [e0]; omega
  · exact ⟨0, 0, ⟨by omega, by omega⟩, fun h => absurd h g, fun h => absurd h g, fun _ => ⟨rfl, rfl⟩⟩
theorem bud_f (hb : cs + 3 * w_1 zp + 9 * w_1 zc + 15 * w_1 zf ≤ 600000 ∧ ss + 8453 * w_1 zp + 19793 * w_1 zc + 27978 * w_1 zf ≤ 7302250) (good : Prop) : ∃ mc ms, (cs + mc ≤ 600000 ∧ ss + ms ≤ 7302250) ∧ (good → zf = none → (zc = none → 24 ≤ mc ∧ 47771 ≤ ms) ∧ 15 ≤ mc ∧ 27978 ≤ ms) ∧ (good → ∀ (z : Nat) (y : Nat × Nat), cs + mc + 3 * w_1 zp + 9 * w_1 (some z) + 15 * w_1 (some y) ≤ 600000 ∧ ss + ms + 8453 * w_1 zp + 19793 * w_1 (some z) + 27978 * w_1 (some y) ≤ 7302250) ∧ (¬ good → mc = 0 ∧ ms = 0) := by
  have e1 : w_1 (none : Option Nat) = 1 := rfl
  have e2 : w_1 (none : Option (Nat × Nat)) = 1 := rfl
  have e0 : ∀ z : Nat, w_1 (some z) = 0 := fun _ => rfl
  have e3 : ∀ z : Nat × Nat, w_1 (some z) = 0 := fun _ => rfl
  by_cases g : good
  · refine ⟨9 * w_1 zc + 15 * w_1 zf, 19793 * w_1 zc + 27978 * w_1 zf, ⟨by omega, by omega⟩, fun _ h => ⟨fun h' => ?_, ?_⟩, fun _ z y => ?_, fun h => absurd g h⟩
    · subst h h'; rw [e1, e2]; omega
    · subst h; rw [e2]; omega
    · rw [e0, e3]; omega
  · exact ⟨0, 0, ⟨by omega, by omega⟩, fun h => absurd h g, fun h => absurd h g, fun _ => ⟨rfl, rfl⟩⟩
end
section
variable {G : qC} {L : Launch} {d : Nat} {Q : Option Value → qM → Prop} {M M1 : qM} {cs ss : Nat} {io r b : Nat} {zp : Option Nat} {zc : Option Nat} {zf : Option (Nat × Nat)} {T : Nat} {tp : Nat → Nat} {P : Nat → Option qT} {S : Nat} {D : Nat → yD} {tb : Nat} {k : Nat} {σ : fS} {as : Nat} {s : Nat → Int32} {A : Nat → Nat → Int32} {B : Nat → Nat → Int64}
theorem y_read {v : Int32} (h : y_I M io r b k cs ss) (hd : 402 ≤ d) (hQ : ∀ ww M1, y_M G L mX12_read r [.int v] M1 ww (fun M2 => y_I M2 io r b (k + 1) cs ss) → Q (some (.int ww)) M1) : q_Call G L d mX11_read 0 0 [.ref io, .int v] M Q := by
  obtain ⟨zp, zc, zf, T, tp, P, S, D, tb, σ, as, s, A, B, h, hJ, hb⟩ := h
  have hTp := hJ.2.2.2.2.1
  have hBp := p_all_B (tp := tp) (T := T)
  refine v11_read h hd (fun hno => ?_) (fun p M1 hp e hno h1 => ?_) (fun p x M1 hp e hx1 hx2 h12 h1 => ?_) (fun p x M1 hp e hx1 hx2 h12 h1 => ?_)
  · refine hQ _ _ (y_M_of h fun d2 Q2 hd2 hK => ?_)
    exact c12_read hTp (by omega) (fun _ => hK _ (y_in h.next hJ hb)) (fun p s' A' hp e => absurd e (hno p hp)) (fun p x s' A' hp e => absurd e (hno p hp)) (fun p x s1 A1 s' A' hp e => absurd e (hno p hp))
  · refine hQ _ _ (y_M_of h1 fun d2 Q2 hd2 hK => ?_)
    have bad : ∀ x, (p_all tp T).2.1 = some x → (p_all tp T).1 = T → False := fun x g1 g2 => by
      rcases hno with g | g
      · rw [g] at g1; cases g1
      · omega
    exact c12_read hTp (by omega) (fun hn => absurd e (hn p hp)) (fun p' s' A' hp' e' _ hf a13 a14 a15 => hK _ (y_in h1.next (hJ.rd hf (m_P_cg hJ.1 a13 a14 a15) hJ.2.1) hb)) (fun p' x s' A' hp' e' g1 g2 => absurd (bad x g1 g2) id) (fun p' x s1 A1 s' A' hp' e' g1 g2 => absurd (bad x g1 g2) id)
  · refine hQ _ _ (y_M_of h1 fun d2 Q2 hd2 hK => ?_)
    refine c12_read hTp (by omega) (fun hn => absurd e (hn p hp)) (fun p' s' A' hp' e' hno => ?_) (fun p' x' s' A' hp' e' g1 g2 g3 hf a13 a14 a15 => hK _ (y_in h1.next (hJ.rd hf (m_P_cg hJ.1 a13 a14 a15) hJ.2.1) hb)) (fun p' x' s1 A1 s' A' hp' e' g1 g2 g3 => ?_)
    · rcases hno with g | g
      · rw [g] at hx1; cases hx1
      · omega
    · rw [hx1] at g1
      cases g1
      omega
  · refine hQ _ _ (y_M_of h1 fun d2 Q2 hd2 hK => ?_)
    refine c12_read hTp (by omega) (fun hn => absurd e (hn p hp)) (fun p' s' A' hp' e' hno => ?_) (fun p' x' s' A' hp' e' g1 g2 g3 => ?_) (fun p' x' s1 A1 s' A' hp' e' g1 g2 g3 hf hu a13 a14 a15 => ?_)
    · rcases hno with g | g
      · rw [g] at hx1; cases hx1
      · omega
    · rw [hx1] at g1
      cases g1
      omega
    · rw [hx1] at g1
      cases g1
      have := z_p hp hp' e e'
      subst this
      obtain ⟨u1, u2, u3, u4, u5⟩ := hu
      refine hK _ (y_in h1.next (hJ.rd hf (m_P_up hJ.1 h12 ⟨by rw [u3, a13], fun f j hf hj => ?_, u5⟩) (w_wf hJ.2.1 (hBp.2.2.1 x hx1).2)) hb)
      rw [u4 f j hf hj]
      rcases hf with rfl | rfl
      · rw [a14]
      · rw [a15]
theorem m_two_u {v u : Int32} {p p' q q' : Nat} {ta tc ta' tc' : qT} (h : m_two P v u p p' ta tc) (h' : m_two P v u q q' ta' tc') : ta' = ta ∧ tc' = tc := by
  obtain ⟨a1, a2, a3, a4, a5, a6⟩ := h
  obtain ⟨b1, b2, b3, b4, b5, b6⟩ := h'
  have e1 := z_p a1 b1 a3 b3
  have e2 := z_p a2 b2 a4 b4
  subst e1 e2
  rw [a5] at b5
  rw [a6] at b6
  cases b5
  cases b6
  exact ⟨rfl, rfl⟩
theorem y_alike {v u : Int32} (h : y_I M io r b k cs ss) (hd : 402 ≤ d) : ∃ mc ms, (cs + mc ≤ 600000 ∧ ss + ms ≤ 7302250) ∧ ∀ Q : Option Value → qM → Prop, (∀ ww M1, y_M G L mX12_alike r [.int v, .int u] M1 ww (fun M2 => y_I M2 io r b (k + 1) (cs + mc) (ss + ms)) → Q (some (.int ww)) M1) → q_Call G L d mX11_alike mc ms [.ref io, .int v, .int u] M Q := by
  obtain ⟨zp, zc, zf, T, tp, P, S, D, tb, σ, as, s, A, B, h, hJ, hb⟩ := h
  obtain ⟨fo0, ac0, hb0⟩ := hJ.2.2.2.2.2.2.2.1
  obtain ⟨fo1, ac1, hb1⟩ := hJ.2.2.2.2.2.2.2.2.1
  obtain ⟨mc, ms, bu, br, bg, bn⟩ := bud_p hb (∃ p p' ta tc, m_two P v u p p' ta tc)
  refine ⟨mc, ms, bu, fun Q hQ => v11_alike h (by omega) br (fun p p' ta tc ka kb o z M1 h2 na nc hka hkb ho h1 => ?_) (fun hno => ?_)⟩
  · refine hQ _ _ (y_M_of h1 fun d2 Q2 hd2 hK => ?_)
    refine c12_alike hJ.1 hb0 hb1 (by omega) (fun q q' ta' tc' s' A' o' ka' kb' h2' _ _ hf hka' hkb' ho' => ?_) (fun hn => absurd h2 (hn p p' ta tc))
    obtain ⟨rfl, rfl⟩ := m_two_u h2 h2'
    rw [p_nx_ac hka' hkb' hka hkb] at ho'
    rw [b_res_inj ho' ho]
    exact hK _ (y_in h1.next (hJ.fp hf) (bg ⟨p, p', ta', tc', h2⟩ z))
  · obtain ⟨rfl, rfl⟩ := bn fun ⟨p, p', ta, tc, g⟩ => hno p p' ta tc g
    refine hQ _ _ (y_M_of h fun d2 Q2 hd2 hK => ?_)
    exact c12_alike hJ.1 hb0 hb1 (by omega) (fun q q' ta' tc' s' A' o' ka' kb' h2' _ _ _ _ _ _ => absurd h2' (hno q q' ta' tc')) (fun _ => hK _ (y_in h.next hJ hb))
theorem y_inside {v u : Int32} (h : y_I M io r b k cs ss) (hd : 402 ≤ d) : ∃ mc ms, (cs + mc ≤ 600000 ∧ ss + ms ≤ 7302250) ∧ ∀ Q : Option Value → qM → Prop, (∀ ww M1, y_M G L mX12_inside r [.int v, .int u] M1 ww (fun M2 => y_I M2 io r b (k + 1) (cs + mc) (ss + ms)) → Q (some (.int ww)) M1) → q_Call G L d mX11_inside mc ms [.ref io, .int v, .int u] M Q := by
  obtain ⟨zp, zc, zf, T, tp, P, S, D, tb, σ, as, s, A, B, h, hJ, hb⟩ := h
  obtain ⟨fo0, ac0, hb0⟩ := hJ.2.2.2.2.2.2.2.1
  obtain ⟨fo1, ac1, hb1⟩ := hJ.2.2.2.2.2.2.2.2.1
  obtain ⟨mc, ms, bu, br, bg, bn⟩ := bud_p hb (∃ p p' ta tc, m_two P v u p p' ta tc)
  refine ⟨mc, ms, bu, fun Q hQ => v11_inside h (by omega) br (fun p p' ta tc ka kb o z M1 h2 na nc hka hkb ho h1 => ?_) (fun hno => ?_)⟩
  · refine hQ _ _ (y_M_of h1 fun d2 Q2 hd2 hK => ?_)
    refine c12_inside hJ.1 hb0 hb1 (by omega) (fun q q' ta' tc' s' A' o' ka' kb' h2' _ _ hf hka' hkb' ho' => ?_) (fun hn => absurd h2 (hn p p' ta tc))
    obtain ⟨rfl, rfl⟩ := m_two_u h2 h2'
    rw [p_nx_ac hka' hkb' hka hkb] at ho'
    rw [b_res_inj ho' ho]
    exact hK _ (y_in h1.next (hJ.fp hf) (bg ⟨p, p', ta', tc', h2⟩ z))
  · obtain ⟨rfl, rfl⟩ := bn fun ⟨p, p', ta, tc, g⟩ => hno p p' ta tc g
    refine hQ _ _ (y_M_of h fun d2 Q2 hd2 hK => ?_)
    exact c12_inside hJ.1 hb0 hb1 (by omega) (fun q q' ta' tc' s' A' o' ka' kb' h2' _ _ _ _ _ _ => absurd h2' (hno q q' ta' tc')) (fun _ => hK _ (y_in h.next hJ hb))
theorem y_parted {v u : Int32} (h : y_I M io r b k cs ss) (hd : 402 ≤ d) : ∃ mc ms, (cs + mc ≤ 600000 ∧ ss + ms ≤ 7302250) ∧ ∀ Q : Option Value → qM → Prop, (∀ ww M1, y_M G L mX12_parted r [.int v, .int u] M1 ww (fun M2 => y_I M2 io r b (k + 1) (cs + mc) (ss + ms)) → Q (some (.int ww)) M1) → q_Call G L d mX11_parted mc ms [.ref io, .int v, .int u] M Q := by
  obtain ⟨zp, zc, zf, T, tp, P, S, D, tb, σ, as, s, A, B, h, hJ, hb⟩ := h
  obtain ⟨fo0, ac0, hb0⟩ := hJ.2.2.2.2.2.2.2.1
  obtain ⟨fo1, ac1, hb1⟩ := hJ.2.2.2.2.2.2.2.2.1
  obtain ⟨mc, ms, bu, br, bg, bn⟩ := bud_p hb (∃ p p' ta tc, m_two P v u p p' ta tc)
  refine ⟨mc, ms, bu, fun Q hQ => v11_parted h (by omega) br (fun p p' ta tc ka kb o R z M1 h2 na nc hka hkb ho hR h1 => ?_) (fun hno => ?_)⟩
  · refine hQ _ _ (y_M_of h1 fun d2 Q2 hd2 hK => ?_)
    refine c12_parted hJ.1 hb0 hb1 (by omega) (fun q q' ta' tc' s' A' o' ka' kb' R' h2' _ _ hf hka' hkb' ho' hR' => ?_) (fun hn => absurd h2 (hn p p' ta tc))
    obtain ⟨rfl, rfl⟩ := m_two_u h2 h2'
    rw [p_nx_ac hka' hkb' hka hkb] at ho' hR'
    have eo := b_res_inj ho' ho
    subst eo
    rw [p_out_u ho' hR' hR]
    exact hK _ (y_in h1.next (hJ.fp hf) (bg ⟨p, p', ta', tc', h2⟩ z))
  · obtain ⟨rfl, rfl⟩ := bn fun ⟨p, p', ta, tc, g⟩ => hno p p' ta tc g
    refine hQ _ _ (y_M_of h fun d2 Q2 hd2 hK => ?_)
    exact c12_parted hJ.1 hb0 hb1 (by omega) (fun q q' ta' tc' s' A' o' ka' kb' R' h2' _ _ _ _ _ _ _ => absurd h2' (hno q q' ta' tc')) (fun _ => hK _ (y_in h.next hJ hb))
theorem y_about {v u : Int32} (h : y_I M io r b k cs ss) (hd : 402 ≤ d) : ∃ mc ms, (cs + mc ≤ 600000 ∧ ss + ms ≤ 7302250) ∧ ∀ Q : Option Value → qM → Prop, (∀ ww M1, y_M G L mX12_about r [.int v, .int u] M1 ww (fun M2 => y_I M2 io r b (k + 1) (cs + mc) (ss + ms)) → Q (some (.int ww)) M1) → q_Call G L d mX11_about mc ms [.ref io, .int v, .int u] M Q := by
  obtain ⟨zp, zc, zf, T, tp, P, S, D, tb, σ, as, s, A, B, h, hJ, hb⟩ := h
  obtain ⟨mc, ms, bu, br, bg, bn⟩ := bud_c hb (∃ p t, p < 10 ∧ v = nI p ∧ P p = some t ∧ (u = nI 2 ∨ u = nI 3) ∧ t_cost t ≤ 10)
  have ans4 : ∀ t w, k_ans t u w → ∃ k, k < 4 ∧ u = nI k := fun t w hk => by
    rcases hk with ⟨g, -⟩ | ⟨g, -⟩ | ⟨g | g, -⟩ | ⟨g, -⟩ | ⟨g, -⟩
    · exact ⟨0, by decide, g⟩
    · exact ⟨1, by decide, g⟩
    · exact ⟨2, by decide, g⟩
    · exact ⟨3, by decide, g⟩
    · exact ⟨2, by decide, g⟩
    · exact ⟨3, by decide, g⟩
  have mod : ∀ p t w M2 zc' mc' ms', p < 10 → v = nI p → P p = some t → k_ans t u w → w_All M2 io r b zp zc' zf T tp P S D tb k σ as s A B → (cs + mc' + 3 * w_1 zp + 9 * w_1 zc' + 15 * w_1 zf ≤ 600000 ∧ ss + ms' + 8453 * w_1 zp + 19793 * w_1 zc' + 27978 * w_1 zf ≤ 7302250) → y_M G L mX12_about r [.int v, .int u] M2 w (fun M2 => y_I M2 io r b (k + 1) (cs + mc') (ss + ms')) := fun p t w M2 zc' mc' ms' hp e hP hw h1 hbb => by
    refine y_M_of h1 fun d2 Q2 hd2 hK => ?_
    refine c12_about hJ.1 hJ.2.1 hJ.2.2.2.2.2.1 (by omega) (fun p' t' s' A' w' hp' e' hP' _ hf hl hw' => ?_) (fun hn => ?_)
    · have := z_p hp hp' e e'
      subst this
      rw [hP] at hP'
      cases hP'
      rw [k_ans_u hw' hw]
      exact hK _ (y_in h1.next (hJ.fa hf hl) hbb)
    · obtain ⟨k', hk', eu⟩ := ans4 t w hw
      exact absurd eu (hn p t k' hp e hP hk')
  refine ⟨mc, ms, bu, fun Q hQ => v11_about h hJ.2.1 (by omega) br (fun p t w hp e hP hng hw => ?_) (fun p t w c M1 hp e hP hg hw h1 => ?_) (fun hno => ?_)⟩
  · obtain ⟨rfl, rfl⟩ := bn fun ⟨p', t', hp', e', hP', g⟩ => by
      have := z_p hp hp' e e'
      subst this
      rw [hP] at hP'
      cases hP'
      exact hng g
    exact hQ _ _ (mod p t w M zc 0 0 hp e hP hw h hb)
  · exact hQ _ _ (mod p t w M1 (some c) mc ms hp e hP hw h1 (bg ⟨p, t, hp, e, hP, hg⟩ c))
  · obtain ⟨rfl, rfl⟩ := bn fun ⟨p', t', hp', e', hP', g, _⟩ => by
      rcases g with g | g
      · exact hno p' t' 2 hp' e' hP' (by decide) g
      · exact hno p' t' 3 hp' e' hP' (by decide) g
    refine hQ _ _ (y_M_of h fun d2 Q2 hd2 hK => ?_)
    refine c12_about hJ.1 hJ.2.1 hJ.2.2.2.2.2.1 (by omega) (fun p' t' s' A' w' hp' e' hP' _ hf hl hw' => ?_) (fun _ => hK _ (y_in h.next hJ hb))
    obtain ⟨k', hk', eu⟩ := ans4 t' w' hw'
    exact absurd eu (hno p' t' k' hp' e' hP' hk')
theorem y_nth {v u w : Int32} (h : y_I M io r b k cs ss) (hd : 402 ≤ d) : ∃ mc ms, (cs + mc ≤ 600000 ∧ ss + ms ≤ 7302250) ∧ ∀ Q : Option Value → qM → Prop, (∀ ww M1, y_M G L mX12_nth r [.int v, .int u, .int w] M1 ww (fun M2 => y_I M2 io r b (k + 1) (cs + mc) (ss + ms)) → Q (some (.int ww)) M1) → q_Call G L d mX11_nth mc ms [.ref io, .int v, .int u, .int w] M Q := by
  obtain ⟨zp, zc, zf, T, tp, P, S, D, tb, σ, as, s, A, B, h, hJ, hb⟩ := h
  obtain ⟨mc, ms, bu, br, bg, bn⟩ := bud_c hb (∃ p c, p < 10 ∧ v = nI p ∧ u = nI c ∧ 2 ≤ c ∧ c ≤ 10 ∧ 0 ≤ w)
  have pos : ∀ j c : Nat, c ≤ 10 → w = nI j → j < k_F (c + 1) - k_F c → 0 ≤ w := fun j c hc e hj => by
    have := k_F_1 hc
    rw [e]
    exact nI_pos' (by omega)
  refine ⟨mc, ms, bu, fun Q hQ => v11_nth h (by omega) br (fun p c j e z M1 hp ev eu c2 c10 ew hj he h1 => ?_) (fun p c z M1 hp ev eu c2 c10 hw hn h1 => ?_) (fun hno => ?_)⟩
  · have hF := k_F_1 c10
    have hw0 := pos j c c10 ew hj
    refine hQ _ _ (y_M_of h1 fun d2 Q2 hd2 hK => ?_)
    refine c12_nth hJ.2.2.2.2.2.1 (by omega) (fun p' c' j' e' s1 A1 s' A' hp' ev' eu' c2' c10' ew' hj' he' hf hl hu => ?_) (fun p' c' s1 A1 hp' ev' eu' c2' c10' hn _ _ => ?_) (fun hn => absurd eu (hn p c hp ev c2 c10))
    · have := z_p hp hp' ev ev'
      subst this
      have : c' = c := (nI_eq (by omega) (by omega)).mp (eu'.symm.trans eu)
      subst this
      have : j' = j := (nI_eq (by omega) (by omega)).mp (ew'.symm.trans ew)
      subst this
      rw [he] at he'
      cases he'
      have hq : k_F c' + j' < 4937 := by omega
      obtain ⟨x, y, he2⟩ := e_at hq
      rw [he] at he2
      injection he2 with he2
      have et : e.2.2 = e_t (k_F c' + j') := by rw [he2]
      have hn9 := (e_c hq).2.2.2.2
      have hwf := (e_c hq).1
      rw [← et] at hn9 hwf
      exact hK _ (y_in h1.next ((hJ.fl hf hl).pu hu hwf (by omega)) (bg ⟨p', c', hp, ev, eu, c2, c10, hw0⟩ z))
    · have : c' = c := (nI_eq (by omega) (by omega)).mp (eu'.symm.trans eu)
      subst this
      exact absurd ew (hn j hj)
  · refine hQ _ _ (y_M_of h1 fun d2 Q2 hd2 hK => ?_)
    refine c12_nth hJ.2.2.2.2.2.1 (by omega) (fun p' c' j' e' s1 A1 s' A' hp' ev' eu' c2' c10' ew' hj' he' hf hl hu => ?_) (fun p' c' s1 A1 hp' ev' eu' c2' c10' hn hf hl => hK _ (y_in h1.next (hJ.fl hf hl) (bg ⟨p, c, hp, ev, eu, c2, c10, hw⟩ z))) (fun hn => absurd eu (hn p c hp ev c2 c10))
    have : c' = c := (nI_eq (by omega) (by omega)).mp (eu'.symm.trans eu)
    subst this
    exact absurd ew' (hn j' hj')
  · obtain ⟨rfl, rfl⟩ := bn fun ⟨p, c, hp, ev, eu, c2, c10, hw⟩ => hno p c hp ev c2 c10 eu hw
    refine hQ _ _ (y_M_of h fun d2 Q2 hd2 hK => ?_)
    exact c12_nth hJ.2.2.2.2.2.1 (by omega) (fun p' c' j' e' s1 A1 s' A' hp' ev' eu' c2' c10' ew' hj' he' hf hl hu => absurd (pos j' c' c10' ew' hj') (hno p' c' hp' ev' c2' c10' eu')) (fun p' c' s1 A1 hp' ev' eu' c2' c10' hn hf hl => hK _ (y_in h.next (hJ.fl hf hl) hb)) (fun _ => hK _ (y_in h.next hJ hb))
end
