/-! pairs of calls: find, next, open, ask, noise -/
section
variable {G : qC} {L : Launch} {d : Nat} {Q : Option Value → qM → Prop} {M M1 : qM} {cs ss : Nat} {io r b : Nat} {zp : Option Nat} {zc : Option Nat} {zf : Option (Nat × Nat)} {T : Nat} {tp : Nat → Nat} {P : Nat → Option qT} {S : Nat} {D : Nat → yD} {tb : Nat} {k : Nat} {σ : fS} {as : Nat} {s : Nat → Int32} {A : Nat → Nat → Int32} {B : Nat → Nat → Int64}
theorem e_ask_u {u w : Int32} {K c K' c' : Nat} (h : e_ask u w K c) (h' : e_ask u w K' c') : K' = K ∧ c' = c := by
  obtain ⟨a1, a2, a3, a4, a5, a6⟩ := h
  obtain ⟨b1, b2, b3, b4, b5, b6⟩ := h'
  exact ⟨(nI_eq (by omega) (by omega)).mp (b1.symm.trans a1), (nI_eq (by omega) (by omega)).mp (b4.symm.trans a4)⟩
theorem e_first {C : Nat → Prop} {a q q' : Nat} (h1 : a ≤ q) (h2 : C q) (h3 : ∀ x, a ≤ x → x < q → ¬ C x) (h1' : a ≤ q') (h2' : C q') (h3' : ∀ x, a ≤ x → x < q' → ¬ C x) : q' = q := by
  rcases Nat.lt_trichotomy q q' with g | g | g
  · exact absurd h2 (h3' q h1 g)
  · exact g.symm
  · exact absurd h2' (h3 q' h1' g)
theorem y_find {v u w : Int32} (h : y_I M io r b k cs ss) (hk : k ≤ 550) (hd : 402 ≤ d) : ∃ mc ms, (cs + mc ≤ 600000 ∧ ss + ms ≤ 7302250) ∧ ∀ Q : Option Value → qM → Prop, (∀ ww M1, y_M G L mX12_find r [.int v, .int u, .int w] M1 ww (fun M2 => y_I M2 io r b (k + 1) (cs + mc) (ss + ms)) → Q (some (.int ww)) M1) → q_Call G L d mX11_find mc ms [.ref io, .int v, .int u, .int w] M Q := by
  obtain ⟨zp, zc, zf, T, tp, P, S, D, tb, σ, as, s, A, B, h, hJ, hb⟩ := h
  obtain ⟨mc, ms, bu, br, bg, bn⟩ := bud_f hb (∃ pl K c0, pl < 10 ∧ v = nI pl ∧ e_ask u w K c0)
  refine ⟨mc, ms, bu, fun Q hQ => v11_find h hk (by omega) br (fun pl K c0 f g c M1 hpl ev ha hno h1 => ?_) (fun pl K c0 q f g c M1 hpl ev ha q1 q2 q3 q4 h1 => ?_) (fun hno => ?_)⟩
  · refine hQ _ _ (y_M_of h1 fun d2 Q2 hd2 hK => ?_)
    refine c12_find hJ.2.2.2.2.2.1 hJ.2.2.1 hJ.2.2.2.2.2.2.1 (by omega) (fun pl' K' c' s0 A0 ans s' A' B' hpl' ev' ha' hf hl hG => ?_) (fun hn => absurd ha (hn pl K c0 hpl ev))
    have := z_p hpl hpl' ev ev'
    subst this
    obtain ⟨rfl, rfl⟩ := e_ask_u ha ha'
    rcases (hJ.fl hf hl).go hl (fun k hk => by rw [va_up_ne _ _ (by omega), va_up_ne _ _ (by omega), va_up_ne _ _ (by omega), va_up_ne _ _ (by omega)]) (by simp (disch := decide) only [va_up_ne, va_up_self]) (by simp (disch := decide) only [va_up_ne, va_up_self]) ha.2.2.1 ha.2.2.2.2.2 (Nat.le_refl _) (by omega) hG with ⟨rfl, _, hJ'⟩ | ⟨q, r1, r2, r3, _⟩
    · exact hK _ (y_in h1 hJ' (bg ⟨pl', K', c', hpl, ev, ha⟩ c (f, g)))
    · exact absurd r3 (hno q r1 r2)
  · refine hQ _ _ (y_M_of h1 fun d2 Q2 hd2 hK => ?_)
    refine c12_find hJ.2.2.2.2.2.1 hJ.2.2.1 hJ.2.2.2.2.2.2.1 (by omega) (fun pl' K' c' s0 A0 ans s' A' B' hpl' ev' ha' hf hl hG => ?_) (fun hn => absurd ha (hn pl K c0 hpl ev))
    have := z_p hpl hpl' ev ev'
    subst this
    obtain ⟨rfl, rfl⟩ := e_ask_u ha ha'
    rcases (hJ.fl hf hl).go hl (fun k hk => by rw [va_up_ne _ _ (by omega), va_up_ne _ _ (by omega), va_up_ne _ _ (by omega), va_up_ne _ _ (by omega)]) (by simp (disch := decide) only [va_up_ne, va_up_self]) (by simp (disch := decide) only [va_up_ne, va_up_self]) ha.2.2.1 ha.2.2.2.2.2 (Nat.le_refl _) (by omega) hG with ⟨_, hno, _⟩ | ⟨q', r1, r2, r3, r4, rfl, hJ'⟩
    · exact absurd q3 (hno q q1 q2)
    · have := e_first (C := e_can K' c' D (fun j => tb.testBit j) S 0 (fun _ => 0)) q1 q3 q4 r1 r3 r4
      subst this
      exact hK _ (y_in h1 hJ' (bg ⟨pl', K', c', hpl, ev, ha⟩ c (f, g)))
  · obtain ⟨rfl, rfl⟩ := bn fun ⟨pl, K, c0, hpl, ev, ha⟩ => hno pl K c0 hpl ev ha
    refine hQ _ _ (y_M_of h fun d2 Q2 hd2 hK => ?_)
    exact c12_find hJ.2.2.2.2.2.1 hJ.2.2.1 hJ.2.2.2.2.2.2.1 (by omega) (fun pl' K' c' s0 A0 ans s' A' B' hpl' ev' ha' hf hl hG => absurd ha' (hno pl' K' c' hpl' ev')) (fun _ => hK _ (y_in h.next hJ hb))
theorem y_next {v : Int32} (h : y_I M io r b k cs ss) (hk : k ≤ 550) (hd : 402 ≤ d) (hQ : ∀ ww M1, y_M G L mX12_next r [.int v] M1 ww (fun M2 => y_I M2 io r b (k + 1) cs ss) → Q (some (.int ww)) M1) : q_Call G L d mX11_next 0 0 [.ref io, .int v] M Q := by
  obtain ⟨zp, zc, zf, T, tp, P, S, D, tb, σ, as, s, A, B, h, hJ, hb⟩ := h
  refine v11_next h hk (by omega) (fun pl K c0 a m fnd f g c M1 hpl ev es hno h1 ez ef => ?_) (fun pl K c0 a m fnd q f g c M1 hpl ev es q1 q2 q3 q4 h1 ez ef => ?_) (fun hno => ?_)
  · subst es ez ef
    obtain ⟨z1, z2, z3, z4, z5, z6, z7, z8, z9, z10⟩ := hJ.2.2.2.2.2.2.2.2.2.1
    refine hQ _ _ (y_M_of h1 fun d2 Q2 hd2 hK => ?_)
    refine c12_next z10 z1 z2 z3 z4 z5 z6 z7 z8 hJ.2.2.1 hJ.2.2.2.2.2.2.1 z9 (by omega) (fun pl' ans s' A' B' hpl' ev' hG => ?_) (fun hn => absurd ev (hn pl hpl))
    have := z_p hpl hpl' ev ev'
    subst this
    rcases hJ.go z10 (fun _ _ => rfl) z3 z4 z1 z2 z8 z7 hG with ⟨rfl, _, hJ'⟩ | ⟨q, r1, r2, r3, _⟩
    · exact hK _ (y_in h1.next hJ' hb)
    · exact absurd r3 (hno q r1 r2)
  · subst es ez ef
    obtain ⟨z1, z2, z3, z4, z5, z6, z7, z8, z9, z10⟩ := hJ.2.2.2.2.2.2.2.2.2.1
    refine hQ _ _ (y_M_of h1 fun d2 Q2 hd2 hK => ?_)
    refine c12_next z10 z1 z2 z3 z4 z5 z6 z7 z8 hJ.2.2.1 hJ.2.2.2.2.2.2.1 z9 (by omega) (fun pl' ans s' A' B' hpl' ev' hG => ?_) (fun hn => absurd ev (hn pl hpl))
    have := z_p hpl hpl' ev ev'
    subst this
    rcases hJ.go z10 (fun _ _ => rfl) z3 z4 z1 z2 z8 z7 hG with ⟨_, hno, _⟩ | ⟨q', r1, r2, r3, r4, rfl, hJ'⟩
    · exact absurd q3 (hno q q1 q2)
    · have := e_first (C := e_can K c0 D (fun j => tb.testBit j) S m fnd) q1 q3 q4 r1 r3 r4
      subst this
      exact hK _ (y_in h1.next hJ' hb)
  · refine hQ _ _ (y_M_of h fun d2 Q2 hd2 hK => ?_)
    cases σ with
    | none => exact c12_nextN hJ.2.2.2.2.2.2.2.2.2.1.1 (by omega) (hK _ (y_in h.next hJ hb))
    | some x =>
      obtain ⟨K, c0, a, m, fnd⟩ := x
      obtain ⟨z1, z2, z3, z4, z5, z6, z7, z8, z9, z10⟩ := hJ.2.2.2.2.2.2.2.2.2.1
      exact c12_next z10 z1 z2 z3 z4 z5 z6 z7 z8 hJ.2.2.1 hJ.2.2.2.2.2.2.1 z9 (by omega) (fun pl' ans s' A' B' hpl' ev' hG => by cases hno pl' hpl' ev') (fun _ => hK _ (y_in h.next hJ hb))
theorem y_open {u w : Int32} (h : y_I M io r b k cs ss) (hk : k ≤ 550) (hd : 402 ≤ d) : ∃ mc ms, (cs + mc ≤ 600000 ∧ ss + ms ≤ 7302250) ∧ ∀ Q : Option Value → qM → Prop, (∀ ww M1, y_M G L mX12_open r [.int u, .int w] M1 ww (fun M2 => y_I M2 io r b (k + 1) (cs + mc) (ss + ms)) → Q (some (.int ww)) M1) → q_Call G L d mX11_open mc ms [.ref io, .int u, .int w] M Q := by
  obtain ⟨zp, zc, zf, T, tp, P, S, D, tb, σ, as, s, A, B, h, hJ, hb⟩ := h
  obtain ⟨mc, ms, bu, br, bg, bn⟩ := bud_f hb (∃ K c0, e_ask u w K c0)
  refine ⟨mc, ms, bu, fun Q hQ => v11_open h hk (by omega) br (fun K c0 f g c M1 ha h1 => ?_) (fun hno => ?_)⟩
  · refine hQ _ _ (y_M_of h1 fun d2 Q2 hd2 hK => ?_)
    refine c12_open hJ.2.2.2.2.2.1 hJ.2.2.1 hJ.2.2.2.2.2.2.1 (by omega) (fun K' c' s0 A0 s' A' B' ha' hf hl hq => ?_) (fun hn => absurd ha (hn K c0))
    obtain ⟨rfl, rfl⟩ := e_ask_u ha ha'
    exact hK _ (y_in h1 ((hJ.fl hf hl).fq hq) (bg ⟨K', c', ha⟩ c (f, g)))
  · obtain ⟨rfl, rfl⟩ := bn fun ⟨K, c0, ha⟩ => hno K c0 ha
    refine hQ _ _ (y_M_of h fun d2 Q2 hd2 hK => ?_)
    exact c12_open hJ.2.2.2.2.2.1 hJ.2.2.1 hJ.2.2.2.2.2.2.1 (by omega) (fun K' c' s0 A0 s' A' B' ha' hf hl hq => absurd ha' (hno K' c')) (fun _ => hK _ (y_in h.next hJ hb))
theorem y_ask {u w : Int32} (h : y_I M io r b k cs ss) (hk : k ≤ 550) (hd : 402 ≤ d) : ∃ mc ms, (cs + mc ≤ 600000 ∧ ss + ms ≤ 7302250) ∧ ∀ Q : Option Value → qM → Prop, (∀ ww M1, y_M G L mX12_ask r [.int u, .int w] M1 ww (fun M2 => y_I M2 io r b (k + 1) (cs + mc) (ss + ms)) → Q (some (.int ww)) M1) → q_Call G L d mX11_ask mc ms [.ref io, .int u, .int w] M Q := by
  obtain ⟨zp, zc, zf, T, tp, P, S, D, tb, σ, as, s, A, B, h, hJ, hb⟩ := h
  obtain ⟨mc, ms, bu, br, bg, bn⟩ := bud_f hb (∃ K c0, e_ask u w K c0)
  refine ⟨mc, ms, bu, fun Q hQ => v11_ask h hk (by omega) br (fun K c0 f g c M1 ha h1 => ?_) (fun hno => ?_)⟩
  · refine hQ _ _ (y_M_of h1 fun d2 Q2 hd2 hK => ?_)
    refine c12_ask hJ.2.2.2.2.2.1 hJ.2.2.1 hJ.2.2.2.2.2.2.1 (by omega) (fun K' c' s0 A0 s1 A1 B1 gg ha' hf hl hq hn => ?_) (fun hn => absurd ha (hn K c0))
    obtain ⟨rfl, rfl⟩ := e_ask_u ha ha'
    exact hK _ (y_in h1 (((hJ.fl hf hl).fq hq).ask hn) (bg ⟨K', c', ha⟩ c (f, g)))
  · obtain ⟨rfl, rfl⟩ := bn fun ⟨K, c0, ha⟩ => hno K c0 ha
    refine hQ _ _ (y_M_of h fun d2 Q2 hd2 hK => ?_)
    exact c12_ask hJ.2.2.2.2.2.1 hJ.2.2.1 hJ.2.2.2.2.2.2.1 (by omega) (fun K' c' s0 A0 s1 A1 B1 gg ha' hf hl hq hn => absurd ha' (hno K' c')) (fun _ => hK _ (y_in h.next hJ hb))
theorem y_noise {v u w : Int32} (h : y_I M io r b k cs ss) (hk : k ≤ 550) (hd : 402 ≤ d) : ∃ mc ms, (cs + mc ≤ 600000 ∧ ss + ms ≤ 7302250) ∧ ∀ Q : Option Value → qM → Prop, (∀ ww M1, y_M G L mX12_noise r [.int v, .int u, .int w] M1 ww (fun M2 => y_I M2 io r b (k + 1) (cs + mc) (ss + ms)) → Q (some (.int ww)) M1) → q_Call G L d mX11_noise mc ms [.ref io, .int v, .int u, .int w] M Q := by
  obtain ⟨zp, zc, zf, T, tp, P, S, D, tb, σ, as, s, A, B, h, hJ, hb⟩ := h
  obtain ⟨mc, ms, bu, br, bg, bn⟩ := bud_f hb (∃ pl K c0, pl < 10 ∧ v = nI pl ∧ e_ask u w K c0)
  refine ⟨mc, ms, bu, fun Q hQ => v11_noise h hk (by omega) br (fun pl K c0 f g c M1 hpl ev ha ho h1 => ?_) (fun pl K c0 q w' f g c M1 hpl ev ha ho h1 => ?_) (fun hno => ?_)⟩
  · refine hQ _ _ (y_M_of h1 fun d2 Q2 hd2 hK => ?_)
    refine c12_noise hJ.2.2.2.2.2.1 hJ.2.2.1 (by omega) (fun pl' K' c' s0 A0 x ff hpl' ev' ha' hf hl ho' => ?_) (fun pl' K' c' s0 A0 x ff q' w'' s' A' hpl' ev' ha' hf hl ho' hu => ?_) (fun hn => absurd ha (hn pl K c0 hpl ev))
    · exact hK _ (y_in h1 ((hJ.fl hf hl).ft m_Ft_take) (bg ⟨pl, K, c0, hpl, ev, ha⟩ c (f, g)))
    · obtain ⟨rfl, rfl⟩ := e_ask_u ha ha'
      rw [ho] at ho'
      cases ho'
  · refine hQ _ _ (y_M_of h1 fun d2 Q2 hd2 hK => ?_)
    refine c12_noise hJ.2.2.2.2.2.1 hJ.2.2.1 (by omega) (fun pl' K' c' s0 A0 x ff hpl' ev' ha' hf hl ho' => ?_) (fun pl' K' c' s0 A0 x ff q' w'' s' A' hpl' ev' ha' hf hl ho' hu => ?_) (fun hn => absurd ha (hn pl K c0 hpl ev))
    · obtain ⟨rfl, rfl⟩ := e_ask_u ha ha'
      rw [ho] at ho'
      cases ho'
    · have := z_p hpl hpl' ev ev'
      subst this
      obtain ⟨rfl, rfl⟩ := e_ask_u ha ha'
      rw [ho] at ho'
      cases ho'
      have hq := (e_bn_lt 4937 (q, w') ho).1
      have hn9 := (e_c hq).2.2.2.2
      exact hK _ (y_in h1 (((hJ.fl hf hl).ft m_Ft_take).pu hu (e_c hq).1 (Nat.le_trans hn9 (by decide))) (bg ⟨pl', K', c', hpl, ev, ha⟩ c (f, g)))
  · obtain ⟨rfl, rfl⟩ := bn fun ⟨pl, K, c0, hpl, ev, ha⟩ => hno pl K c0 hpl ev ha
    refine hQ _ _ (y_M_of h fun d2 Q2 hd2 hK => ?_)
    exact c12_noise hJ.2.2.2.2.2.1 hJ.2.2.1 (by omega) (fun pl' K' c' s0 A0 x ff hpl' ev' ha' _ _ _ => absurd ha' (hno pl' K' c' hpl' ev')) (fun pl' K' c' s0 A0 x ff q' w'' s' A' hpl' ev' ha' _ _ _ _ => absurd ha' (hno pl' K' c' hpl' ev')) (fun _ => hK _ (y_in h.next hJ hb))
end
