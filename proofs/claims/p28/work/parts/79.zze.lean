/-! ===== the law's loop: the world while it runs ===== -/
/-- what a step may touch: the class's cells, the buffer, the chance, the strip's own cells -/
abbrev pWk (σ : xS) (lo hi b : Nat) : Prop := (b < 162 ∨ pin lo hi b) ∧ ∀ e, σ.1 b = some e → ¬ pco e
abbrev pFw (lo hi c x : Nat) (σ τ : xS) : Prop := pF (pWk σ lo hi) c x σ τ
theorem pFw.trans {lo hi c x c' x' : Nat} {σ τ υ : xS} (h : pFw lo hi c x σ τ) (Z : pZ σ) (g : pFw lo hi c' x' τ υ) : pFw lo hi (c + c') (x + x') σ υ :=
  pF.trans h g (fun _ _ q => q.elim id (fun q => ⟨q.1, fun e he hc => q.2 e (pF_keep Z h he (fun w => w.2 e he hc)) hc⟩))
theorem pFw.rfl' {lo hi : Nat} {σ : xS} : pFw lo hi 0 0 σ σ := pF.rfl'
theorem pFw.mono {lo hi c x c' x' : Nat} {σ τ : xS} (h : pFw lo hi c x σ τ) (hc : c ≤ c') (hx : x ≤ x') : pFw lo hi c' x' σ τ := pF.mono h (fun _ _ q => q) hc hx
theorem pFw.of {P : Nat → Prop} {lo hi c x : Nat} {σ τ : xS} (h : pF P c x σ τ) (h1 : ∀ b, P b → b < 162 ∨ pin lo hi b) (h2 : ∀ b e, σ.1 b = some e → pco e → ¬ P b) : pFw lo hi c x σ τ :=
  pF.mono h (fun b _ q => ⟨h1 b q, fun e he hc => h2 b e he hc q⟩) (Nat.le_refl _) (Nat.le_refl _)
theorem pfr_mono {D : yD} {M M' : Nat} (h : pfr D M) (hM : M ≤ M') : pfr D M' := fun p hp => by
  obtain ⟨k, h1, h2⟩ := h p hp
  exact ⟨k, by omega, h2⟩
/-- the class with D, the law's strip at s with X -/
def pWo (M s lo hi : Nat) (σ : xS) (R : pR) (cv : Value) (dn' en' : Int32) (D : yD) (k : Nat) (E : Nat → yD) (s0 s1 : Option yD) (eo en : Int32) (X : yD) : Prop :=
  (∃ B, pI σ D k E s0 s1 0 B eo en) ∧ ((pbz 160 σ ∧ pch σ 161) ∧ ((pS σ s R X cv dn' en' ∧ pJ lo hi s R X) ∧ ((162 ≤ lo ∧ hi ≤ σ.2.1.1) ∧ ((pcv σ cv X ∧ yDok X) ∧ (X.n ≤ 9 ∧ pfr X M)))))
section
variable {d M M' s lo hi c x k k1 : Nat} {σ τ : xS} {R R1 : pR} {cv : Value} {dn' en' dn1 en1 eo en eo1 en1' : Int32} {D D1 X X1 : yD} {E E1 : Nat → yD} {s0 s1 s0' s1' : Option yD} {B : Nat → Nat} {P : Nat → Prop}
theorem pWo.Z (W : pWo M s lo hi σ R cv dn' en' D k E s0 s1 eo en X) : pZ σ := by
  obtain ⟨⟨B, I⟩, -⟩ := W
  exact I.Z
theorem pWo.n0 (W : pWo M s lo hi σ R cv dn' en' D k E s0 s1 eo en X) : 162 ≤ σ.2.1.1 := by
  have Z := W.Z
  obtain ⟨-, ⟨-, -, x, hx⟩, -⟩ := W
  have := pZ_lt Z hx
  omega
theorem pWo.mono (W : pWo M s lo hi σ R cv dn' en' D k E s0 s1 eo en X) (h : M ≤ M') : pWo M' s lo hi σ R cv dn' en' D k E s0 s1 eo en X := by
  obtain ⟨a, b, e, f, g, h9, hf⟩ := W
  exact ⟨a, b, e, f, g, h9, pfr_mono hf h⟩
theorem pbz_keep (h : pbz 160 σ) (Z : pZ σ) (F : pF P c x σ τ) (hP : ¬ P 160) : pbz 160 τ := by
  obtain ⟨f, h1, h2⟩ := h
  exact ⟨f, pF_keep Z F h1 hP, h2⟩
/-- a call of the class -/
theorem pWo.cls (W : pWo M s lo hi σ R cv dn' en' D k E s0 s1 eo en X) (I1 : pI τ D1 k1 E1 s0' s1' 0 B eo1 en1') (F : pF pcl c x σ τ) : pWo M s lo hi τ R cv dn' en' D1 k1 E1 s0' s1' eo1 en1' X ∧ pFw lo hi c x σ τ := by
  have Z := W.Z
  obtain ⟨⟨B0, I⟩, ⟨hb, hc⟩, ⟨S, J⟩, ⟨h1, h2⟩, ⟨V, ok⟩, h9, hf⟩ := W
  have hco := I.co
  have n1 := F.2.2.1
  refine ⟨⟨⟨B, I1⟩, ⟨pbz_keep hb Z F (fun q => absurd (pcl_lt q) (by decide)), pch_keep hc Z F (fun q => absurd (pcl_lt q) (by decide))⟩, ⟨S.fr Z J F (fun b _ hb q => by have := pcl_lt q; have := hb.1; omega) hco, J⟩, ⟨h1, by omega⟩, ⟨pcv_no V (fun b e h1 h2 => pF_keep Z F h1 (hco b e h1 h2)), ok⟩, h9, hf⟩, pFw.of F (fun b q => Or.inl (by have := pcl_lt q; omega)) hco⟩
/-- steps of the law's own -/
theorem pWo.own (W : pWo M s lo hi σ R cv dn' en' D k E s0 s1 eo en X) (F : pF P c x σ τ) (hP : ∀ b, P b → b = 161) (hr : pch τ 161) : pWo M s lo hi τ R cv dn' en' D k E s0 s1 eo en X ∧ pFw lo hi c x σ τ := by
  have Z := W.Z
  obtain ⟨⟨B0, I⟩, ⟨hb, hc⟩, ⟨S, J⟩, ⟨h1, h2⟩, ⟨V, ok⟩, h9, hf⟩ := W
  have n1 := F.2.2.1
  have hco : ∀ b e, σ.1 b = some e → pco e → ¬ P b := fun b e h1 h2 q => by
    obtain ⟨-, y, hy⟩ := hc
    rw [hP b q, hy] at h1
    cases h1
    exact pco_11 h2
  refine ⟨⟨⟨B0, pI_F I F (fun b q => by have := hP b q; omega) hco⟩, ⟨pbz_keep hb Z F (fun q => absurd (hP _ q) (by decide)), hr⟩, ⟨S.fr Z J F (fun b _ hb q => by have := hP b q; have := hb.1; omega) hco, J⟩, ⟨h1, by omega⟩, ⟨pcv_no V (fun b e h1 h2 => pF_keep Z F h1 (hco b e h1 h2)), ok⟩, h9, hf⟩, pFw.of F (fun b q => Or.inl (by have := hP b q; omega)) hco⟩
theorem pWo.no (W : pWo M s lo hi σ R cv dn' en' D k E s0 s1 eo en X) (F : pF pno c x σ τ) : pWo M s lo hi τ R cv dn' en' D k E s0 s1 eo en X ∧ pFw lo hi c x σ τ :=
  W.own F (fun _ q => q.elim) (pch_keep W.2.1.2 W.Z F id)
theorem pWo.new (W : pWo M s lo hi σ R cv dn' en' D k E s0 s1 eo en X) {e : xE} {m : Nat} : pWo M s lo hi (xnew σ e m) R cv dn' en' D k E s0 s1 eo en X ∧ pFw lo hi 1 m σ (xnew σ e m) := W.no pF_new
theorem pWo.go (W : pWo M s lo hi σ R cv dn' en' D k E s0 s1 eo en X) {m : Nat} (hm : 0 < m) (hm' : m < 65536) : ∃ v τ, v < m ∧ (Ra d 131 [.ref 161, .int (yI m)] σ (.inl (some (.int (yI v)))) τ ∧ ((pWo M s lo hi τ R cv dn' en' D k E s0 s1 eo en X ∧ pFw lo hi 0 0 σ τ) ∧ ((∀ a, a ≠ 161 → τ.1 a = σ.1 a) ∧ τ.2 = σ.2))) := by
  obtain ⟨v, τ, hv, g, ⟨⟨Z, p⟩, F⟩, q, e⟩ := pch_go (d := d) W.2.1.2 W.Z hm hm'
  exact ⟨v, τ, hv, g, W.own F (fun _ q => q) p, q, e⟩
theorem pWo.ch (W : pWo M s lo hi σ R cv dn' en' D k E s0 s1 eo en X) : ∃ v τ, v < 256 ∧ (Ra (d + 1) 206 [.ref 161] σ (.inl (some (.int (yI v)))) τ ∧ ((pWo M s lo hi τ R cv dn' en' D k E s0 s1 eo en X ∧ pFw lo hi 0 0 σ τ) ∧ ((∀ a, a ≠ 161 → τ.1 a = σ.1 a) ∧ τ.2 = σ.2))) := by
  obtain ⟨v, τ, hv, g, ⟨⟨Z, p⟩, F⟩, q, e⟩ := pch_ch (d := d) W.2.1.2 W.Z
  exact ⟨v, τ, hv, g, W.own F (fun _ q => q) p, q, e⟩
theorem pWo.or (W : pWo M s lo hi σ R cv dn' en' D k E s0 s1 eo en X) : ∃ fs, xRd σ 161 = some (.inr (11, fs)) := by
  obtain ⟨-, ⟨-, h1, y, h2⟩, -⟩ := W
  exact ⟨_, (yrd_lt h1).trans h2⟩
theorem pWo.ob (W : pWo M s lo hi σ R cv dn' en' D k E s0 s1 eo en X) : xRd σ s = some (.inr (12, [.ref R.lr, .int X.un, .int X.lv, .int X.sh, .int X.ac, .ref R.fr, cv, .int dn', .int en'])) := W.2.2.1.1.ob
theorem pWo.o0 (W : pWo M s lo hi σ R cv dn' en' D k E s0 s1 eo en X) : ∃ fs, xRd σ 0 = some (.inr (7, fs)) := by
  obtain ⟨⟨B, t, rfl, -⟩, -⟩ := W
  exact pO
theorem pWo.u (W : pWo M s lo hi σ R cv dn' en' D k E s0 s1 eo en X) : pU lo hi s cv dn' en' σ 0 0 σ R X := ⟨W.2.2.1.1, W.Z, W.2.2.1.2, pF.rfl'⟩
/-- a change of the law's strip -/
theorem pWo.law (W : pWo M s lo hi σ R cv dn' en' D k E s0 s1 eo en X) (U : pU lo hi s cv dn1 en1 σ c x τ R1 X1) (hok : yDok X1) (hn : X1.n = X.n) (hcn : X1.cn = X.cn) (hcg : X1.cg = X.cg) (hf : pfr X1 M') : pWo M' s lo hi τ R1 cv dn1 en1 D k E s0 s1 eo en X1 ∧ pFw lo hi c x σ τ := by
  have Z := W.Z
  obtain ⟨⟨B0, I⟩, ⟨hb, hc⟩, ⟨S, J⟩, ⟨h1, h2⟩, ⟨V, ok⟩, h9, -⟩ := W
  obtain ⟨S1, Z1, J1, F⟩ := U
  have n1 := F.2.2.1
  have hco : ∀ b e, σ.1 b = some e → pco e → ¬ pP lo hi σ b := fun b e h1 h2 q => q.2 e h1 h2
  have V1 : pcv τ cv X := pcv_no V (fun b e h1 h2 => pF_keep Z F h1 (hco b e h1 h2))
  refine ⟨⟨⟨B0, pI_F I F (fun b q => by have := q.1.1; omega) hco⟩, ⟨pbz_keep hb Z F (fun q => by have := q.1.1; omega), pch_keep hc Z F (fun q => by have := q.1.1; omega)⟩, ⟨S1, J1⟩, ⟨h1, by omega⟩, ⟨pcv_to V1 hcn hcg, hok⟩, by omega, hf⟩, pFw.of F (fun b q => Or.inr q.1) hco⟩
/-- both agree -/
theorem pWo.agree (W : pWo M s lo hi σ R cv dn' en' D k E s0 s1 eo en D) (hr : σ.2.1.1 + 300 < 900000) : ∃ τ, Ra (d + 7) 209 [.ref 0, .ref s] σ (.inl (some (.int 1))) τ ∧ (pWo M s lo hi τ R cv dn' en' D k E s0 s1 eo en D ∧ pFw lo hi 280 840 σ τ) := by
  have W0 := W
  obtain ⟨⟨B0, I⟩, ⟨hb, hc⟩, ⟨S, J⟩, ⟨h1, h2⟩, ⟨V, ok⟩, h9, hf⟩ := W
  obtain ⟨τ, g, I1, S1, F1⟩ := m_209 (d := d) I S J (by omega) h9 hr
  exact ⟨τ, g, W0.cls I1 F1⟩
/-- a copy -/
theorem pWo.copy (W : pWo M s lo hi σ R cv dn' en' D k E s0 s1 eo en X) (hr : σ.2.1.1 + 80 < 900000) : ∃ τ R', Ra (d + 2) 133 [.ref s] σ (.inl (some (.ref σ.2.1.1))) τ ∧ ((pWo M s lo hi τ R cv dn' en' D k E s0 s1 eo en X ∧ (pFw lo hi 60 250 σ τ ∧ pF pno 60 250 σ τ)) ∧ (pS τ σ.2.1.1 R' X cv dn' en' ∧ pJ σ.2.1.1 τ.2.1.1 σ.2.1.1 R' X)) := by
  have hcv : cv = .null ∨ ∃ a, cv = .ref a := by
    rcases W.2.2.2.2.1.1 with ⟨-, h⟩ | ⟨-, a, l, h, -⟩
    · exact Or.inl h
    · exact Or.inr ⟨a, h⟩
  obtain ⟨τ, R', g, F, Z1, S1, J1⟩ := m_133 (d := d) W.2.2.1.1 W.2.2.2.2.1.2 W.2.2.2.2.2.1 W.Z hcv hr
  obtain ⟨W1, F1⟩ := W.no F
  exact ⟨τ, R', g, ⟨W1, F1, F⟩, S1, J1⟩
end
/-! ===== strips that are put aside ===== -/
def pPk (M lo hi bf sl : Nat) (σ : xS) (a : Nat) (X : yD) : Prop :=
  ∃ R cv dn en lo' hi', (pS σ a R X cv dn en ∧ pJ lo' hi' a R X) ∧ ((pcv σ cv X ∧ yDok X) ∧ ((X.n ≤ 9 ∧ pfr X M) ∧ ((162 ≤ lo' ∧ hi' ≤ σ.2.1.1) ∧ ((hi' ≤ lo ∨ hi ≤ lo') ∧ (¬ pin lo' hi' bf ∧ ¬ pin lo' hi' sl)))))
section
variable {d M M' lo hi bf sl a c x : Nat} {σ τ : xS} {X : yD} {P : Nat → Prop}
theorem pPk.mono (K : pPk M lo hi bf sl σ a X) (h : M ≤ M') : pPk M' lo hi bf sl σ a X := by
  obtain ⟨R, cv, dn, en, lo', hi', h1, h2, ⟨h3, h4⟩, h5⟩ := K
  exact ⟨R, cv, dn, en, lo', hi', h1, h2, ⟨h3, pfr_mono h4 h⟩, h5⟩
theorem pPk.keep (K : pPk M lo hi bf sl σ a X) (Z : pZ σ) (F : pFw lo hi c x σ τ) : pPk M lo hi bf sl τ a X := by
  obtain ⟨R, cv, dn, en, lo', hi', ⟨S, J⟩, ⟨V, ok⟩, h3, ⟨h4, h5⟩, h6, h7⟩ := K
  have n1 := F.2.2.1
  refine ⟨R, cv, dn, en, lo', hi', ⟨S.fr Z J F (fun b _ hb q => ?_) (fun b e h1 h2 q => q.2 e h1 h2), J⟩, ⟨pcv_no V (fun b e h1 h2 => pF_keep Z F h1 (fun q => q.2 e h1 h2)), ok⟩, h3, ⟨h4, by omega⟩, h6, h7⟩
  obtain ⟨b1, b2⟩ := hb
  rcases q.1 with q | ⟨q1, q2⟩ <;> omega
/-- the rows that hold them are written -/
theorem pPk.row (K : pPk M lo hi bf sl σ a X) (Z : pZ σ) (F : pF (fun b => b = bf ∨ b = sl) c x σ τ) (h : ∀ b e, σ.1 b = some e → pco e → ¬ (b = bf ∨ b = sl)) : pPk M lo hi bf sl τ a X := by
  obtain ⟨R, cv, dn, en, lo', hi', ⟨S, J⟩, ⟨V, ok⟩, h3, ⟨h4, h5⟩, h6, h7, h8⟩ := K
  have n1 := F.2.2.1
  refine ⟨R, cv, dn, en, lo', hi', ⟨S.fr Z J F (fun b _ hb q => ?_) h, J⟩, ⟨pcv_no V (fun b e h1 h2 => pF_keep Z F h1 (h b e h1 h2)), ok⟩, h3, ⟨h4, by omega⟩, h6, h7, h8⟩
  rcases q with rfl | rfl
  · exact h7 hb
  · exact h8 hb
/-- another strip is the law's own -/
theorem pPk.sw {lo2 hi2 : Nat} (K : pPk M lo hi bf sl σ a X) (h : σ.2.1.1 ≤ lo2) : pPk M lo2 hi2 bf sl σ a X := by
  obtain ⟨R, cv, dn, en, lo', hi', h1, h2, h3, ⟨h4, h5⟩, h6, h7⟩ := K
  exact ⟨R, cv, dn, en, lo', hi', h1, h2, h3, ⟨h4, h5⟩, Or.inl (by omega), h7⟩
end
