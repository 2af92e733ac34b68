/-! ===== the law's own strips: sending, showing, filling, shifting ===== -/
section
variable {d s : Nat} {cv : Value} {dn en : Int32} {lo hi : Nat} {σ : xS} {R : pR} {D : yD}
theorem pnx_of (S : pS σ s R D cv dn en) (Z : pZ σ) {a : Nat} (ha : σ.2.1.1 ≤ a) : pnx R D.n a := by
  intro p hp
  obtain ⟨⟨-, c1, h1, -⟩, -⟩ := S.tk hp
  obtain ⟨⟨-, c2, h2, -⟩, -⟩ := S.du hp
  obtain ⟨⟨-, c3, h3, -⟩, -⟩ := S.fm hp
  have := pZ_lt Z h1
  have := pZ_lt Z h2
  have := pZ_lt Z h3
  exact ⟨by omega, by omega, by omega⟩
theorem pS.new {e : xE} {m : Nat} (S : pS σ s R D cv dn en) (Z : pZ σ) : pS (xnew σ e m) s R D cv dn en := S.no Z (pF_new (n := m))
/-- the strip's own cell written anew -/
theorem pS.strip (S : pS σ s R D cv dn en) {D' : yD} {cv' : Value} {dn' en' : Int32} (h1 : D'.n = D.n) (h2 : D'.f = D.f) (h3 : D'.fp = D.fp) (h4 : D'.fl = D.fl) (hq : ∀ q, plkp R R D D' q) : pS (xwr σ s (.inr (12, [.ref R.lr, .int D'.un, .int D'.lv, .int D'.sh, .int D'.ac, .ref R.fr, cv', .int dn', .int en']))) s R D' cv' dn' en' := by
  obtain ⟨⟨a1, a2⟩, ⟨b1, g, b2, b3⟩, c1, e1, ⟨f1, g', f2, f3⟩, i1⟩ := S
  have hk : ∀ b e, σ.1 b = some e → (∀ fs, e ≠ .inr (12, fs)) → ∀ x, (xwr σ s x).1 b = some e := by
    intro b e h hne x
    rw [xwr_1]
    split
    · rename_i hb
      rw [hb, a2] at h
      exact absurd (Option.some.inj h).symm (hne _)
    · exact h
  have hco : ∀ {b x}, pC σ b x → ∀ y, pC (xwr σ s y) b x := by
    rintro b x ⟨h0, c, h1, h2⟩ y
    exact ⟨h0, c, hk b _ h1 (by intros; simp) y, h2⟩
  refine ⟨⟨a1, by rw [xwr_1, if_pos rfl]⟩, ⟨b1, g, ?_, ?_⟩, fun p hp => ?_, fun p hp => ?_, ⟨f1, g', ?_, ?_⟩, fun q hq' => ?_⟩
  · rw [h1]; exact hk _ _ b2 (by intros; simp [prow]) _
  · rw [h1]; exact b3
  · rw [h1] at hp
    obtain ⟨k1, k2, k3, k4, k5, k6, k7, k8, k9, k10, k11⟩ := hq p
    rw [k1, k2, k3, k4, k5]
    exact ⟨(c1 p hp).1, hk _ _ (c1 p hp).2 (by intros; simp [plamp]) _⟩
  · rw [h1] at hp
    obtain ⟨k1, k2, k3, k4, k5, k6, k7, k8, k9, k10, k11⟩ := hq p
    obtain ⟨⟨m1, m2⟩, ⟨m3, m4⟩, m5, m6⟩ := e1 p hp
    rw [k6, k7, k8]
    exact ⟨⟨hco m1 _, m2⟩, ⟨hco m3 _, m4⟩, hco m5 _, m6⟩
  · rw [h2]; exact hk _ _ f2 (by intros; simp [prow]) _
  · rw [h2]; exact f3
  · rw [h2] at hq'
    rw [h3, h4]
    obtain ⟨j1, c, j2, j3⟩ := i1 q hq'
    exact ⟨j1, c, hk _ _ j2 (by intros; simp) _, j3⟩
theorem plkp_rfl {R : pR} {D : yD} {q : Nat} : plkp R R D D q := ⟨rfl, rfl, rfl, rfl, rfl, rfl, rfl, rfl, rfl, rfl, rfl⟩
theorem m_143 (S : pS σ s R D cv dn en) (hD : yDok D) (h9 : D.n ≤ 9) (Z : pZ σ) (J : pJ lo hi s R D) (V : pcv σ cv D) (hh : hi ≤ σ.2.1.1) {M : Nat} (hM : pfr D M) (hM' : M + 1 < 1000000) (hr : σ.2.1.1 + 11 < 900000) : ∃ a τ R', Ra (d + 6) 143 [.ref s] σ (.inl (some (.ref a))) τ ∧ (pS τ s R' (ypassD (ydue D)) cv dn en ∧ (pZ τ ∧ (pJ lo hi s R' (ypassD (ydue D)) ∧ pF (pP lo hi σ) 11 45 σ τ))) := by
  have hn40 := hD.n40
  have hn1 := hD.n1
  obtain ⟨g0, u0, v0⟩ := S.lrow
  have o0 := S.ob
  have hlr := S.lr0
  -- two new rows
  have S1 : pS (xnew σ (pints D.n (fun _ => 0)) D.n) s R D cv dn en := S.new Z
  have Z1 : pZ (xnew σ (pints D.n (fun _ => 0)) D.n) := pZ_new Z
  have F1 : pF (pP lo hi σ) 1 D.n σ (xnew σ (pints D.n (fun _ => 0)) D.n) := pF_new
  have q1 : (xnew σ (pints D.n (fun _ => 0)) D.n).1 σ.2.1.1 = some (pints D.n (fun _ => 0)) := pnew_at
  obtain ⟨σ1, e1⟩ : ∃ σ1, σ1 = xnew σ (pints D.n (fun _ => 0)) D.n := ⟨_, rfl⟩
  have nx1 : σ1.2.1.1 = σ.2.1.1 + 1 := by rw [e1]; rfl
  rw [← e1] at S1 Z1 F1 q1
  have S2 : pS (xnew σ1 (pints D.n (fun _ => 0)) D.n) s R D cv dn en := S1.new Z1
  have Z2 : pZ (xnew σ1 (pints D.n (fun _ => 0)) D.n) := pZ_new Z1
  have F2 : pF (pP lo hi σ) (1 + 1) (D.n + D.n) σ (xnew σ1 (pints D.n (fun _ => 0)) D.n) := pF_al F1
  have q21 : (xnew σ1 (pints D.n (fun _ => 0)) D.n).1 σ.2.1.1 = some (pints D.n (fun _ => 0)) := by rw [xnew_1, if_neg (by omega)]; exact q1
  have q22 : (xnew σ1 (pints D.n (fun _ => 0)) D.n).1 (σ.2.1.1 + 1) = some (pints D.n (fun _ => 0)) := by rw [xnew_1, if_pos (by omega)]
  obtain ⟨σ2, e2⟩ : ∃ σ2, σ2 = xnew σ1 (pints D.n (fun _ => 0)) D.n := ⟨_, rfl⟩
  have nx2 : σ2.2.1.1 = σ.2.1.1 + 2 := by rw [e2, xnew_n, nx1]
  rw [← e2] at S2 Z2 F2 q21 q22
  obtain ⟨g1, u1, v1⟩ := S1.lrow
  have o1 := S1.ob
  have n1 : ¬ yI D.n < 0 := fun q => by
    have := (yI_lt (m := 0) (by omega) (by decide)).mp q
    omega
  have n2 : (yI D.n).toNatClampNeg = D.n := yI_clamp (by omega)
  have n3 : D.n ≤ 100000 := by omega
  have r0 : σ.2.1.1 < 900000 := by omega
  have r1 : σ1.2.1.1 < 900000 := by omega
  have r2 : σ.2.1.1 < 1000000 := by omega
  have r3 : σ1.2.1.1 < 1000000 := by omega
  have ea : Int32.ofNat D.n = yI D.n := rfl
  have w0 : ∀ Q, Cl (d + 6) 143 [.ref s] σ Q ↔ G (d + 6) 143 14 [some (.ref s), some (.ref σ.2.1.1), some (.ref (σ.2.1.1 + 1)), some (.int (yI (pct D 0))), some (.int (yI 0)), none, none] [] σ2 Q := by
    intro Q
    show G (d + 6) 143 0 [some (.ref s), none, none, none, none, none, none] [] σ Q ↔ _
    rw [e2, e1]
    have e1' : xnew σ (.inl (0, (D.n, .inl (fun _ => 0)))) D.n = σ1 := e1.symm
    simp only [s_143_0, s_143_1, s_143_2, s_143_3, s_143_4 r2, s_143_5, s_143_6, s_143_7, o0, u0, hln_r hlr (show 4 ≤ 6 ∧ 6 ≤ 8 by decide), ea, n1, n2, n3, r0, not_false_eq_true, e1', pints, hgf_s, hsel_0, hsel_1, hsel_2, hsel_3, hsel_4, hsel_5, hsel_6, hsel_7, hsel_8, hset_0, hset_1, hset_2, hset_3, hset_4, hset_5, hset_6, hset_7, hset_8, hpf_s, hcl_s, hai_s, hpi_0, hpi_1, hln_0, hln_1, List.length_cons, List.length_nil, xwr_1, xwr_2, xnew_1, xnew_n, xnew_s, xnew_z, Nat.reduceLT, ite_true, and_self, hp_8_0, hp_8_1, hn_8_1, hp_8_2, hn_8_2, hp_9_0, hp_9_1, hp_9_2, hp_9_3, hp_9_4, hp_9_5, hn_9_5, hp_9_6, hn_9_6, hp_9_7, hn_9_7, hp_10_0, hp_10_1, hp_10_2, hn_10_2, hp_10_3, hn_10_3, hp_11_0, hp_12_0, hn_12_0, hp_12_1, hp_12_2, hp_12_3, hp_12_4, hp_12_5, hn_12_5, hp_12_6, hn_12_6, hp_12_7, hp_12_8, hp_13_0, hn_13_0, hp_13_1, hp_13_2, hp_13_3, hp_14_0, hn_14_0, hp_14_1, hp_14_2, hp_14_3, xdef_8, xdef_9, xdef_10, xdef_11, xdef_12, xdef_13, xdef_14, Gk_v, Gk_n, xcat_nil, xcat_i, xcat_r, xcat_l, xcat_d, Nat.zero_le, Nat.reduceAdd, Nat.reduceLeDiff, true_and, and_true, ykl_i, ykl_r, ykl_n, ykl_l]
    simp only [s_143_7, s_143_8, s_143_9 r3, s_143_10, s_143_11, s_143_12, s_143_13, o1, u1, hln_r hlr (show 4 ≤ 6 ∧ 6 ≤ 8 by decide), ea, n1, n2, n3, r1, not_false_eq_true, hgf_s, hsel_0, hsel_1, hsel_2, hsel_3, hsel_4, hsel_5, hsel_6, hsel_7, hsel_8, hset_0, hset_1, hset_2, hset_3, hset_4, hset_5, hset_6, hset_7, hset_8, hpf_s, hcl_s, hai_s, hpi_0, hpi_1, hln_0, hln_1, List.length_cons, List.length_nil, xwr_1, xwr_2, xnew_1, xnew_n, xnew_s, xnew_z, Nat.reduceLT, ite_true, and_self, hp_8_0, hp_8_1, hn_8_1, hp_8_2, hn_8_2, hp_9_0, hp_9_1, hp_9_2, hp_9_3, hp_9_4, hp_9_5, hn_9_5, hp_9_6, hn_9_6, hp_9_7, hn_9_7, hp_10_0, hp_10_1, hp_10_2, hn_10_2, hp_10_3, hn_10_3, hp_11_0, hp_12_0, hn_12_0, hp_12_1, hp_12_2, hp_12_3, hp_12_4, hp_12_5, hn_12_5, hp_12_6, hn_12_6, hp_12_7, hp_12_8, hp_13_0, hn_13_0, hp_13_1, hp_13_2, hp_13_3, hp_14_0, hn_14_0, hp_14_1, hp_14_2, hp_14_3, xdef_8, xdef_9, xdef_10, xdef_11, xdef_12, xdef_13, xdef_14, Gk_v, Gk_n, xcat_nil, xcat_i, xcat_r, xcat_l, xcat_d, Nat.zero_le, Nat.reduceAdd, Nat.reduceLeDiff, true_and, and_true, ykl_i, ykl_r, ykl_n, ykl_l]
    rw [nx1]
    exact Iff.rfl
  obtain ⟨hlv, hl⟩ := yll_eq hD
  obtain ⟨τ1, R1, c1, c2, i1, i2, i3, i4, ⟨i5, i5'⟩, i6, i7, i8, i9⟩ := l_143a (d := d) (l := yll D) (n := D.n) (l5 := none) (l6 := none) hl Z V (Nat.le_refl _) (show σ.2.1.1 < σ.2.1.1 + 1 by omega) hh D.n 0 σ2 R D _ _ _ _ hD rfl hlv ⟨rfl, rfl⟩ S2 Z2 J (pnx_of S Z (Nat.le_refl _)) (pnx_of S Z (by omega)) q21 q22 (fun q hq => absurd hq (Nat.not_lt_zero _)) F2 (by omega) (Nat.zero_add _)
  obtain ⟨f, hf⟩ := ydue_sdu D
  have hX : ydl (yll D) D.n 0 D = ydue D := rfl
  rw [hX] at i2 i4
  obtain ⟨X, eX⟩ : ∃ X, X = ydue D := ⟨_, rfl⟩
  have hXn : X.n = D.n := by rw [eX, hf]; rfl
  have hXb : X.bp = D.bp := by rw [eX, hf]; rfl
  have hXf : X.fr = D.fr := by rw [eX, hf]; rfl
  have hXD : yDok X := by rw [eX, hf]; exact yDok_sdu hD
  have hXc : ∀ q, pct X q = pct D q := fun q => by unfold pct; rw [hXb]
  rw [← eX] at i2 i4 ⊢
  have hc : ∀ q, q < D.n → X.bp q = false → c2 (pct X q) = yI q := fun q h1 h2 => by rw [hXc]; exact i8 q h1 (by rw [← hXb]; exact h2)
  have hx1 := ynx_le (b := X.bp) D.n 0
  have nx3 := i9.2.2.1.2
  obtain ⟨τ2, R2, c1', k1, k2⟩ := l_143b (d := d + 6) (M := M) (s := s) (cv := cv) (dn := dn) (en := en) (lo := lo) (hi := hi) (a1 := σ.2.1.1) (a2 := σ.2.1.1 + 1) (n := D.n) (σ0 := σ) (Nat.le_refl _) (by omega) hh hM' D.n 0 (ynx X.bp D.n 0) τ1 R1 X c1 c2 _ _ none hXD hXn ⟨by omega, fun h => ynx_no _ _ (by omega)⟩ ⟨i2, i3, i4, ⟨i5, i5'⟩, i6, i7, i9⟩ hc (fun q _ hq => by rw [hXf]; exact hM q hq) (by omega) (Nat.zero_add _)
  have hpass : ypassD X = ygo D.n 0 (ynx X.bp D.n 0) X := by unfold ypassD; rw [hXn]
  rw [hpass]
  refine ⟨σ.2.1.1, τ2, R2, fun Q => ?_, k2.1, k2.2.1, k2.2.2.1, k2.2.2.2.2.2.2.mono (fun _ _ q => q) (by omega) (by omega)⟩
  refine (w0 Q).trans ((i1 Q).trans ?_)
  have j := k1 Q
  have e0 : pct X (ynx X.bp D.n 0) = 0 := by rw [pct_nx]; rfl
  rw [e0, hXc] at j
  refine Iff.trans ?_ j
  simp only [s_143_51, s_143_52, s_143_53, s_143_54, Gk_v, Gk_n, xcat_nil, xcat_i, xcat_r, xcat_l, xcat_d, Nat.zero_le, Nat.reduceAdd, Nat.reduceLeDiff, true_and, and_true, ykl_i, ykl_r, ykl_n, ykl_l]
  exact Iff.rfl
theorem m_144 (S : pS σ s R D cv dn en) (hD : yDok D) (h9 : D.n ≤ 9) (Z : pZ σ) (J : pJ lo hi s R D) (V : pcv σ cv D) (hh : hi ≤ σ.2.1.1) {M : Nat} (hM : pfr D M) (hM' : M + 1 < 1000000) (hr : σ.2.1.1 + 20 < 900000) : ∃ τ R', Ra (d + 7) 144 [.ref s] σ (.inl none) τ ∧ (pS τ s R' (yshowD D) cv dn en ∧ (pZ τ ∧ (pJ lo hi s R' (yshowD D) ∧ pF (pP lo hi σ) 20 72 σ τ))) := by
  obtain ⟨a, τ1, R1, k1, S1, Z1, J1, F1⟩ := m_143 (d := d) S hD h9 Z J V hh hM hM' (by omega)
  have hP : yDok (ypassD (ydue D)) := ypassD_ok (ydue_ok hD)
  have hPn : (ypassD (ydue D)).n = D.n := by
    obtain ⟨f, hf⟩ := ydue_sdu D
    unfold ypassD
    rw [pgo_n, hf]
    rfl
  unfold yshowD
  obtain ⟨P, eP⟩ : ∃ P, P = ypassD (ydue D) := ⟨_, rfl⟩
  rw [← eP] at S1 J1 hP hPn ⊢
  have hsj : pin lo hi s := J1.1
  -- one frame more shown
  have hs0 := S1.1.1
  have hs1 := S1.1.2
  have S2 := S1.strip (D' := P.ssh (P.sh + 1)) (cv' := cv) (dn' := dn) (en' := en) rfl rfl rfl rfl (fun q => plkp_rfl)
  have Z2 := pZ_wr Z1 hs1 (e' := .inr (12, [.ref R1.lr, .int (P.ssh (P.sh + 1)).un, .int (P.ssh (P.sh + 1)).lv, .int (P.ssh (P.sh + 1)).sh, .int (P.ssh (P.sh + 1)).ac, .ref R1.fr, cv, .int dn, .int en]))
  have F2 := pF_own F1 Z1 hs1 pco_strip hsj (e' := .inr (12, [.ref R1.lr, .int (P.ssh (P.sh + 1)).un, .int (P.ssh (P.sh + 1)).lv, .int (P.ssh (P.sh + 1)).sh, .int (P.ssh (P.sh + 1)).ac, .ref R1.fr, cv, .int dn, .int en]))
  have ev : (.inr (12, [.ref R1.lr, .int (P.ssh (P.sh + 1)).un, .int (P.ssh (P.sh + 1)).lv, .int (P.ssh (P.sh + 1)).sh, .int (P.ssh (P.sh + 1)).ac, .ref R1.fr, cv, .int dn, .int en]) : xE) = .inr (12, [.ref R1.lr, .int P.un, .int P.lv, .int (P.sh + 1), .int P.ac, .ref R1.fr, cv, .int dn, .int en]) := rfl
  rw [ev] at S2 Z2 F2
  obtain ⟨σ2, e2⟩ : ∃ σ2, σ2 = xwr τ1 s (.inr (12, [.ref R1.lr, .int P.un, .int P.lv, .int (P.sh + 1), .int P.ac, .ref R1.fr, cv, .int dn, .int en])) := ⟨_, rfl⟩
  have nx2 : σ2.2.1.1 = τ1.2.1.1 := by rw [e2]; rfl
  rw [← e2] at S2 Z2 F2
  obtain ⟨E, hE⟩ : ∃ E, E = P.ssh (P.sh + 1) := ⟨_, rfl⟩
  have hED : yDok E := by rw [hE]; exact yDok_ssh hP
  have hEn : E.n = P.n := by rw [hE]; rfl
  have hEu : E.un = P.un := by rw [hE]; rfl
  have hEl : E.lv = P.lv := by rw [hE]; rfl
  have hEs : E.sh = P.sh + 1 := by rw [hE]; rfl
  have hEa : E.ac = P.ac := by rw [hE]; rfl
  have hEf : E.f = P.f := by rw [hE]; rfl
  rw [← hE] at S2 ⊢
  have nx1 := F1.2.2.1.2
  obtain ⟨τ3, k3, F3'⟩ := m_140 (d := d + 3) S2 hED Z2 (by omega)
  have S3 := S2.no Z2 F3'
  have Z3 := pZ_F Z2 F3'
  have F3 := pF_rd F2 F3'
  have hs3 := S3.1.2
  have S4 := S3.strip (D' := E.sac (E.ac + ycurrent E)) (cv' := cv) (dn' := dn) (en' := en) rfl rfl rfl rfl (fun q => plkp_rfl)
  have ev4 : (.inr (12, [.ref R1.lr, .int (E.sac (E.ac + ycurrent E)).un, .int (E.sac (E.ac + ycurrent E)).lv, .int (E.sac (E.ac + ycurrent E)).sh, .int (E.sac (E.ac + ycurrent E)).ac, .ref R1.fr, cv, .int dn, .int en]) : xE) = .inr (12, [.ref R1.lr, .int E.un, .int E.lv, .int E.sh, .int (E.ac + ycurrent E), .ref R1.fr, cv, .int dn, .int en]) := rfl
  rw [ev4] at S4
  have Z4 := pZ_wr Z3 hs3 (e' := .inr (12, [.ref R1.lr, .int E.un, .int E.lv, .int E.sh, .int (E.ac + ycurrent E), .ref R1.fr, cv, .int dn, .int en]))
  have F4 := pF_own F3 Z3 hs3 pco_strip hsj (e' := .inr (12, [.ref R1.lr, .int E.un, .int E.lv, .int E.sh, .int (E.ac + ycurrent E), .ref R1.fr, cv, .int dn, .int en]))
  have J4 : pJ lo hi s R1 (E.sac (E.ac + ycurrent E)) := J1.to ⟨rfl, rfl, rfl, rfl⟩ hEn hEf
  refine ⟨_, R1, fun Q => ?_, by rw [← hEa]; exact S4, Z4, by rw [← hEa]; exact J4, F4.mono (fun _ _ q => q) (by omega) (by omega)⟩
  have o0 := S.ob
  have o1 := S1.ob
  have o2 := S2.ob
  have o3 := S3.ob
  show G (d + 7) 144 0 [some (.ref s)] [] σ Q ↔ _
  simp only [s_144_0, s_144_1, s_144_2, s_144_3, s_144_4, s_144_5, s_144_6, s_144_7, s_144_8, o0, o1, k1 _, hs0, hs1, hgf_s, hsel_0, hsel_1, hsel_2, hsel_3, hsel_4, hsel_5, hsel_6, hsel_7, hsel_8, hset_0, hset_1, hset_2, hset_3, hset_4, hset_5, hset_6, hset_7, hset_8, hpf_s, hcl_s, hai_s, hpi_0, hpi_1, hln_0, hln_1, List.length_cons, List.length_nil, xwr_1, xwr_2, xnew_1, xnew_n, xnew_s, xnew_z, Nat.reduceLT, ite_true, and_self, hp_8_0, hp_8_1, hn_8_1, hp_8_2, hn_8_2, hp_9_0, hp_9_1, hp_9_2, hp_9_3, hp_9_4, hp_9_5, hn_9_5, hp_9_6, hn_9_6, hp_9_7, hn_9_7, hp_10_0, hp_10_1, hp_10_2, hn_10_2, hp_10_3, hn_10_3, hp_11_0, hp_12_0, hn_12_0, hp_12_1, hp_12_2, hp_12_3, hp_12_4, hp_12_5, hn_12_5, hp_12_6, hn_12_6, hp_12_7, hp_12_8, hp_13_0, hn_13_0, hp_13_1, hp_13_2, hp_13_3, hp_14_0, hn_14_0, hp_14_1, hp_14_2, hp_14_3, xdef_8, xdef_9, xdef_10, xdef_11, xdef_12, xdef_13, xdef_14, Gk_v, Gk_n, xcat_nil, xcat_i, xcat_r, xcat_l, xcat_d, Nat.zero_le, Nat.reduceAdd, Nat.reduceLeDiff, true_and, and_true, ykl_i, ykl_r, ykl_n, ykl_l]
  rw [← e2]
  simp only [s_144_9, s_144_10, s_144_11, s_144_12, s_144_13, s_144_14, s_144_15, s_144_16, o2, k3 _, hs0, hs3, hgf_s, hsel_0, hsel_1, hsel_2, hsel_3, hsel_4, hsel_5, hsel_6, hsel_7, hsel_8, hset_0, hset_1, hset_2, hset_3, hset_4, hset_5, hset_6, hset_7, hset_8, hpf_s, hcl_s, hai_s, hpi_0, hpi_1, hln_0, hln_1, List.length_cons, List.length_nil, xwr_1, xwr_2, xnew_1, xnew_n, xnew_s, xnew_z, Nat.reduceLT, ite_true, and_self, hp_8_0, hp_8_1, hn_8_1, hp_8_2, hn_8_2, hp_9_0, hp_9_1, hp_9_2, hp_9_3, hp_9_4, hp_9_5, hn_9_5, hp_9_6, hn_9_6, hp_9_7, hn_9_7, hp_10_0, hp_10_1, hp_10_2, hn_10_2, hp_10_3, hn_10_3, hp_11_0, hp_12_0, hn_12_0, hp_12_1, hp_12_2, hp_12_3, hp_12_4, hp_12_5, hn_12_5, hp_12_6, hn_12_6, hp_12_7, hp_12_8, hp_13_0, hn_13_0, hp_13_1, hp_13_2, hp_13_3, hp_14_0, hn_14_0, hp_14_1, hp_14_2, hp_14_3, xdef_8, xdef_9, xdef_10, xdef_11, xdef_12, xdef_13, xdef_14, Gk_v, Gk_n, xcat_nil, xcat_i, xcat_r, xcat_l, xcat_d, Nat.zero_le, Nat.reduceAdd, Nat.reduceLeDiff, true_and, and_true, ykl_i, ykl_r, ykl_n, ykl_l]
end
