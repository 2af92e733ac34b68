/-! ===== a strip by chance, whole ===== -/
section
variable {d : Nat} {b r : Nat} {σ0 : xS} {t0 : yT} {D0 : yD} {k0 : Nat} {E0 : Nat → yD} {s0 s1 : Option yD} {B0 : Nat → Nat} {eo en : Int32}
theorem m_207 (X0 : pX0 b r σ0 t0) (C : yCI t0 D0 k0 E0 s0 s1 0 B0 eo en) (h : pbz b σ0) (hr : σ0.2.1.1 + 500 < 890000) : ∃ τ D R cv B hi, Ra (d + 20) 207 [.ref 0, .ref b, .ref r] σ0 (.inl (some (.ref σ0.2.1.1))) τ ∧ ((pI τ D (min 8 (k0 + 1)) (ypush D0 E0) s0 s1 0 B (-1) en ∧ (pbz b τ ∧ pch τ r)) ∧ ((pS τ σ0.2.1.1 R D cv 0 0 ∧ (pJ σ0.2.1.1 hi σ0.2.1.1 R D ∧ hi ≤ τ.2.1.1)) ∧ ((pcv τ cv D ∧ (D.n ≤ 9 ∧ pfr D 0)) ∧ ((σ0.2.1.1 ≤ τ.2.1.1 ∧ τ.2.1.1 ≤ σ0.2.1.1 + 300) ∧ (τ.2.1.2 ≤ σ0.2.1.2 + 17000 ∧ τ.2.2 = σ0.2.2))))) := by
  have hlo := X0.lo
  obtain ⟨σ1, N, un, R1, hN, hun, st1, A1⟩ := l_207a (d := d) X0 C h (by omega)
  have n1 := A1.nx X0
  obtain ⟨σ2, l2, st2, A2, P2, hl2⟩ := l_207b (d := d) X0 C hN hun A1 (by omega) (l5 := some (.int (yI N)))
  have n2 := A2.nx X0
  obtain ⟨σ3, sp, lim, ⟨hsp, hlim⟩, st3, A3, -⟩ := l_207c (d := d) X0 hN A2 (l5 := some (.int (yI N))) ⟨_, rfl⟩
  have n3 := A3.nx X0
  have hD0 : yDok (yD0 N un) := yD0_ok hN.1 (by omega) hun.1 hun.2
  obtain ⟨σ4, l4, R4, D4, fb4, st4, A4, ⟨P4, hl4, hfb4⟩, d4, dn4, df4, dc4, -, dp4⟩ := l_207d (d := d) X0 C hN hsp hlim hD0 rfl rfl rfl A3 hl2 P2 (by omega)
  have n4 := A4.nx X0
  obtain ⟨σ5, l5, D5, fb5, st5, A5, ⟨P5, hl5⟩, d5, dn5, dc5, -, dp5⟩ := l_207e (d := d) X0 C hN d4 dn4 df4 A4 hl4 P4 hfb4 (l5 := some (.int (yI sp))) (l6 := some (.int (yI lim)))
  have n5 := A5.nx X0
  -- how many bad ones
  obtain ⟨m6, σ6, hm6, g6, ⟨A6, e6⟩, -⟩ := A5.go (d := d + 19) X0 (m := 3) (by decide) (by decide)
  have g6' : Ra (d + 19) 131 [.ref r, .int 3] σ5 (.inl (some (.int (yI m6)))) σ6 := g6
  obtain ⟨f5, or5⟩ := A5.or
  have st6 : ∀ Q, G (d + 20) 207 159 [some (.ref 0), some (.ref b), some (.ref r), some (.ref σ0.2.1.1), some (.int (yI N)), some (.int (yI sp)), some (.int (yI lim)), none, none, none, none] [] σ5 Q ↔ G (d + 20) 207 163 [some (.ref 0), some (.ref b), some (.ref r), some (.ref σ0.2.1.1), some (.int (yI N)), some (.int (yI sp)), some (.int (yI lim)), some (.int (yI m6)), none, none, none] [] σ6 Q := by
    intro Q
    simp only [s_207_159, s_207_160, s_207_161, s_207_162, or5, g6' _, hcl_s, true_and, Gk_v, Gk_n, xcat_nil, xcat_i, xcat_r, xcat_l, xcat_d, Nat.zero_le, Nat.reduceAdd, Nat.reduceLeDiff, true_and, and_true, ykl_i, ykl_r, ykl_n, ykl_l]
  obtain ⟨σ7, l7, D7, m8, m9, st7, A7, ⟨P7, hl7⟩, d7, dn7, dc7, dp7⟩ := l_207f (d := d) X0 C hN (l5 := some (.int (yI sp))) (y6 := yI lim) (by omega) m6 σ6 l5 D5 _ _ none none (by omega) (by omega) (by omega) d5 dn5 A6 P5
  have n7 := A7.nx X0
  -- how many fills
  obtain ⟨m10, σ8, hm10, g8, ⟨A8, e8⟩, -⟩ := A7.go (d := d + 19) X0 (m := 5) (by decide) (by decide)
  have g8' : Ra (d + 19) 131 [.ref r, .int 5] σ7 (.inl (some (.int (yI m10)))) σ8 := g8
  obtain ⟨f7, or7⟩ := A7.or
  have st8 : ∀ Q, G (d + 20) 207 242 [some (.ref 0), some (.ref b), some (.ref r), some (.ref σ0.2.1.1), some (.int (yI N)), some (.int (yI sp)), some (.int (yI lim)), some (.int (yI 0)), m8, m9, none] [] σ7 Q ↔ G (d + 20) 207 246 [some (.ref 0), some (.ref b), some (.ref r), some (.ref σ0.2.1.1), some (.int (yI N)), some (.int (yI sp)), some (.int (yI lim)), some (.int (yI m10)), m8, m9, none] [] σ8 Q := by
    intro Q
    simp only [s_207_242, s_207_243, s_207_244, s_207_245, or7, g8' _, hcl_s, true_and, Gk_v, Gk_n, xcat_nil, xcat_i, xcat_r, xcat_l, xcat_d, Nat.zero_le, Nat.reduceAdd, Nat.reduceLeDiff, true_and, and_true, ykl_i, ykl_r, ykl_n, ykl_l]
  obtain ⟨σ9, l9, R9, D9, q8, q9, q10, st9, A9, ⟨P9, hl9⟩, d9, dn9, dc9, dp9⟩ := l_207g (d := d) X0 C hN (l5 := some (.int (yI sp))) (y6 := yI lim) (by omega) m10 σ8 l7 R4 D7 _ _ m8 m9 none (by omega) (by omega) (by omega) d7 dn7 A8 P7
  have n9 := A9.nx X0
  obtain ⟨σ10, l10, D10, lf, st10, A10, ⟨P10, hl10⟩, d10, dn10, dc10, dp10⟩ := l_207h (d := d) X0 C d9 dn9 A9 (by omega) P9 (by omega) (l4 := some (.int (yI N))) (l5 := some (.int (yI sp))) (l6 := some (.int (yI lim))) (l7 := some (.int (yI 0))) (l8 := q8) (l9 := q9) (l10 := q10)
  have n10 := A10.nx X0
  have hcn : D10.cn = 0 := by rw [dc10, dc9, dc7, dc5, dc4]; rfl
  obtain ⟨σ11, l11, D11, cv, cf, st11, A11, ⟨P11, hl11⟩, V11, dn11, dp11⟩ := l_207i (d := d) X0 C dn10 hcn A10 hl10 P10 (by omega) (l4 := some (.int (yI N))) (l5 := some (.int (yI sp))) (l6 := some (.int (yI lim))) (l7 := some (.int (yI 0))) (l8 := q8) (l9 := q9) (l10 := q10)
  have n11 := A11.nx X0
  have hset := pRd_all P11
  obtain ⟨τ, k12, ⟨I12, Z12⟩, kp, ⟨x1, x2⟩, x3, x4⟩ := m_181 (d := d) X0 C A11.1 (by omega) hset (by omega)
  have hok := yrset_ok (by omega) hset
  have hF := A11.1.2.2.2.1
  have hco := A11.1.co X0
  have hlay : ∀ a e, σ11.1 a = some e → pco e → yla a = none := fun a e h1 h2 => by
    obtain ⟨⟨t, rfl, -⟩, -⟩ := A11.1
    exact pcl_n (pcl_co h1 h2)
  have kpc : ∀ a e, σ11.1 a = some e → pco e → τ.1 a = some e := fun a e h1 h2 => kp a e h1 (hlay a e h1 h2) (fun q => hco a e h1 h2 (Or.inr (Or.inr (Or.inl q))))
  have kph : ∀ a e, σ0.2.1.1 ≤ a → σ11.1 a = some e → τ.1 a = some e := fun a e h1 h2 => kp a e h2 (yla_no (by omega)) (by omega)
  refine ⟨τ, D11, R9, cv, _, σ11.2.1.1, fun Q => ?_, ⟨I12, Z12, ?_⟩, ⟨?_, A11.2.2, x1⟩, ⟨?_, ?_, ?_⟩, ⟨by omega, by omega⟩, ?_, by rw [x4]; exact hF.2.2.2.2⟩
  · have s12 : ∀ Q, G (d + 20) 207 374 [some (.ref 0), some (.ref b), some (.ref r), some (.ref σ0.2.1.1), some (.int (yI N)), some (.int (yI sp)), some (.int (yI lim)), some (.int (yI 0)), q8, q9, q10] [] σ11 Q ↔ Q (.inl (some (.ref σ0.2.1.1))) τ := by
      intro Q
      have eN : D11.n = N := dn11
      have k12' : Ra (d + 19) 181 [.ref 0, .ref b] σ11 (.inl (some (.int (yI N)))) τ := by
        rw [← eN]
        exact k12
      simp only [s_207_374, s_207_375, s_207_376, s_207_377, s_207_378, s_207_379, s_207_380, s_207_382, k12' _, ne_eq, not_true_eq_false, if_false, Gk_v, Gk_n, xcat_nil, xcat_i, xcat_r, xcat_l, xcat_d, Nat.zero_le, Nat.reduceAdd, Nat.reduceLeDiff, true_and, and_true, ykl_i, ykl_r, ykl_n, ykl_l]
    show G (d + 20) 207 0 [some (.ref 0), some (.ref b), some (.ref r), none, none, none, none, none, none, none, none] [] σ0 Q ↔ _
    exact (st1 Q).trans ((st2 Q).trans ((st3 Q).trans ((st4 Q).trans ((st5 Q).trans ((st6 Q).trans ((st7 Q).trans ((st8 Q).trans ((st9 Q).trans ((st10 Q).trans ((st11 Q).trans (s12 Q)))))))))))
  · obtain ⟨h1, y, h2⟩ := A11.1.2.2.1
    exact ⟨h1, y, kp r _ h2 (yla_no X0.2.2.1) (fun q => hlo.2.2.2 q.symm)⟩
  · have J := A11.2.2
    refine A11.2.1.stay (fun a e h1 h2 => kph a e ?_ h1) (fun a y h1 => kpc a _ h1 (Or.inl ⟨3, y, Or.inr rfl, rfl⟩))
    rcases h2 with rfl | rfl | rfl | ⟨p, hp, rfl⟩ | ⟨q, hq, rfl⟩
    · exact Nat.le_refl _
    · exact J.2.1.1
    · exact J.2.2.1.1
    · exact (J.2.2.2.1.1 p hp).1
    · exact (J.2.2.2.1.2 q hq).1
  · exact pcv_no V11 kpc
  · show D11.n ≤ 9
    omega
  · have hp0 : pfr (yD0 N un) 0 := fun p _ => ⟨0, Nat.le_refl _, rfl⟩
    rw [dp11, dp10, dp9, dp7, dp5, dp4]
    exact hp0
  · have h1 := hF.2.2.2.1
    omega
end
