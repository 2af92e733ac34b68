/-! ===== the law's loop: what was before, the slots ===== -/
theorem pco_row {n : Nat} {g : Nat → Option Nat} : ¬ pco (prow 7 n g) := by
  rintro (⟨m, y, h4, h5⟩ | ⟨fs, h5⟩)
  · simp only [Sum.inl.injEq, Prod.mk.injEq] at h5
    exact absurd h5.1 (by decide)
  · simp at h5
abbrev pFb (c x : Nat) (σ τ : xS) : Prop := (σ.2.1.1 ≤ τ.2.1.1 ∧ τ.2.1.1 ≤ σ.2.1.1 + c) ∧ (τ.2.1.2 ≤ σ.2.1.2 + x ∧ τ.2.2 = σ.2.2)
theorem pFb.trans {c x c' x' : Nat} {σ τ υ : xS} (h : pFb c x σ τ) (g : pFb c' x' τ υ) : pFb (c + c') (x + x') σ υ := by
  obtain ⟨⟨h1, h2⟩, h3, h4⟩ := h
  obtain ⟨⟨g1, g2⟩, g3, g4⟩ := g
  exact ⟨⟨by omega, by omega⟩, by omega, g4.trans h4⟩
theorem pFb.mono {c x c' x' : Nat} {σ τ : xS} (h : pFb c x σ τ) (hc : c ≤ c') (hx : x ≤ x') : pFb c' x' σ τ := by
  obtain ⟨⟨h1, h2⟩, h3, h4⟩ := h
  exact ⟨⟨h1, by omega⟩, by omega, h4⟩
def pSl (M lo hi bf sl : Nat) (σ : xS) (g : Option Nat) (x : Option yD) : Prop := (g = none ∧ x = none) ∨ ∃ a X, g = some a ∧ (x = some X ∧ pPk M lo hi bf sl σ a X)
/-- the rows: what was before (y of them), the slots -/
def pRw (M lo hi bf sl : Nat) (σ : xS) (y : Nat) (E : Nat → yD) (s0 s1 : Option yD) : Prop :=
  (((162 ≤ bf ∧ bf < 1000000) ∧ (162 ≤ sl ∧ sl < 1000000)) ∧ (¬ pin lo hi bf ∧ ¬ pin lo hi sl)) ∧
  ((∃ gb, σ.1 bf = some (prow 7 9 gb) ∧ ((∀ j b, gb j = some b → ∃ X, pPk M lo hi bf sl σ b X) ∧ ∀ j, j < y → j < 8 → ∃ a, gb j = some a ∧ pPk M lo hi bf sl σ a (E j))) ∧
  ∃ gs, σ.1 sl = some (prow 7 2 gs) ∧ (pSl M lo hi bf sl σ (gs 0) s0 ∧ pSl M lo hi bf sl σ (gs 1) s1))
section
variable {d M M' s lo hi lo' hi' bf sl a c x y k : Nat} {σ τ : xS} {R : pR} {cv : Value} {dn' en' eo en : Int32} {D X : yD} {E : Nat → yD} {s0 s1 o : Option yD} {g : Option Nat}
theorem pSl.imp (h : pSl M lo hi bf sl σ g o) (f : ∀ a X, pPk M lo hi bf sl σ a X → pPk M' lo' hi' bf sl τ a X) : pSl M' lo' hi' bf sl τ g o := by
  rcases h with h | ⟨a, X, h1, h2, h3⟩
  · exact Or.inl h
  · exact Or.inr ⟨a, X, h1, h2, f a X h3⟩
theorem pRw.imp (K : pRw M lo hi bf sl σ y E s0 s1) (f : ∀ a X, pPk M lo hi bf sl σ a X → pPk M' lo' hi' bf sl τ a X) (h1 : τ.1 bf = σ.1 bf) (h2 : τ.1 sl = σ.1 sl) (h3 : ¬ pin lo' hi' bf ∧ ¬ pin lo' hi' sl) : pRw M' lo' hi' bf sl τ y E s0 s1 := by
  obtain ⟨⟨hb, -⟩, ⟨gb, g1, g6, g2⟩, gs, g3, g4, g5⟩ := K
  refine ⟨⟨hb, h3⟩, ⟨gb, h1.trans g1, fun j b q => ?_, fun j q1 q2 => ?_⟩, gs, h2.trans g3, g4.imp f, g5.imp f⟩
  · obtain ⟨X, q3⟩ := g6 j b q
    exact ⟨X, f b X q3⟩
  · obtain ⟨a, q3, q4⟩ := g2 j q1 q2
    exact ⟨a, q3, f a _ q4⟩
theorem pRw.lt (K : pRw M lo hi bf sl σ y E s0 s1) (Z : pZ σ) : bf < σ.2.1.1 ∧ sl < σ.2.1.1 := by
  obtain ⟨-, ⟨gb, g1, -⟩, gs, g3, -⟩ := K
  exact ⟨pZ_lt Z g1, pZ_lt Z g3⟩
theorem pRw.keep (K : pRw M lo hi bf sl σ y E s0 s1) (Z : pZ σ) (F : pFw lo hi c x σ τ) : pRw M lo hi bf sl τ y E s0 s1 := by
  obtain ⟨l1, l2⟩ := K.lt Z
  have hb := K.1.1.1.1
  have hs := K.1.1.2.1
  have n1 := K.1.2.1
  have n2 := K.1.2.2
  exact K.imp (fun a X q => q.keep Z F) (F.1 bf l1 (fun q => q.1.elim (fun q => by omega) n1)) (F.1 sl l2 (fun q => q.1.elim (fun q => by omega) n2)) ⟨n1, n2⟩
theorem pRw.mono (K : pRw M lo hi bf sl σ y E s0 s1) (h : M ≤ M') : pRw M' lo hi bf sl σ y E s0 s1 := K.imp (fun _ _ q => q.mono h) rfl rfl K.1.2
theorem pRw.sw (K : pRw M lo hi bf sl σ y E s0 s1) (Z : pZ σ) (h : σ.2.1.1 ≤ lo') : pRw M lo' hi' bf sl σ y E s0 s1 := by
  obtain ⟨l1, l2⟩ := K.lt Z
  exact K.imp (fun _ _ q => q.sw h) rfl rfl ⟨fun q => by have := q.1; omega, fun q => by have := q.1; omega⟩
theorem pRw.nco (K : pRw M lo hi bf sl σ y E s0 s1) : ∀ b e, σ.1 b = some e → pco e → ¬ (b = bf ∨ b = sl) := by
  obtain ⟨-, ⟨gb, g1, -⟩, gs, g3, -⟩ := K
  intro b e h1 h2 q
  rcases q with rfl | rfl
  · rw [g1] at h1
    cases h1
    exact pco_row h2
  · rw [g3] at h1
    cases h1
    exact pco_row h2
theorem pRw.ne (K : pRw M lo hi bf sl σ y E s0 s1) : bf ≠ sl := by
  obtain ⟨-, ⟨gb, g1, -⟩, gs, g3, -⟩ := K
  intro q
  rw [q, g3] at g1
  simp at g1
/-- a slot is written -/
theorem pRw.slots (K : pRw M lo hi bf sl σ y E s0 s1) (Z : pZ σ) : ∃ gs, σ.1 sl = some (prow 7 2 gs) ∧ ((pSl M lo hi bf sl σ (gs 0) s0 ∧ pSl M lo hi bf sl σ (gs 1) s1) ∧ ∀ a X, pPk M lo hi bf sl σ a X → pRw M lo hi bf sl (xwr σ sl (prow 7 2 (va_up gs 0 (some a)))) y E (some X) s1 ∧ pRw M lo hi bf sl (xwr σ sl (prow 7 2 (va_up gs 1 (some a)))) y E s0 (some X)) := by
  have nco := K.nco
  have hne := K.ne
  obtain ⟨hb, ⟨gb, g1, g6, g2⟩, gs, g3, g4, g5⟩ := K
  have f : ∀ e', (∀ a X, pPk M lo hi bf sl σ a X → pPk M lo hi bf sl (xwr σ sl e') a X) := fun e' a X q => q.row Z (pF_wr (c := 0) (s := 0) (pZ_lt Z g3) (Or.inr rfl)) nco
  have k1 : ∀ e', (xwr σ sl e').1 bf = some (prow 7 9 gb) := fun e' => by rw [xwr_1, if_neg hne, g1]
  have kb : ∀ e', ∃ gb, (xwr σ sl e').1 bf = some (prow 7 9 gb) ∧ ((∀ j b, gb j = some b → ∃ X, pPk M lo hi bf sl (xwr σ sl e') b X) ∧ ∀ j, j < y → j < 8 → ∃ a, gb j = some a ∧ pPk M lo hi bf sl (xwr σ sl e') a (E j)) := fun e' => by
    refine ⟨gb, k1 e', fun j b q => ?_, fun j q1 q2 => ?_⟩
    · obtain ⟨X, q3⟩ := g6 j b q
      exact ⟨X, f e' b X q3⟩
    · obtain ⟨a, q3, q4⟩ := g2 j q1 q2
      exact ⟨a, q3, f e' a _ q4⟩
  refine ⟨gs, g3, ⟨g4, g5⟩, fun a X A => ⟨⟨hb, kb _, _, pwr_at, Or.inr ⟨a, X, va_up_self _ _ _, rfl, f _ a X A⟩, ?_⟩, ⟨hb, kb _, _, pwr_at, ?_, Or.inr ⟨a, X, va_up_self _ _ _, rfl, f _ a X A⟩⟩⟩⟩
  · rw [va_up_ne _ _ (show (1 : Nat) ≠ 0 by decide)]
    exact g5.imp (f _)
  · rw [va_up_ne _ _ (show (0 : Nat) ≠ 1 by decide)]
    exact g4.imp (f _)
/-- the law's own steps elsewhere -/
theorem pWo.oth {P : Nat → Prop} (W : pWo M s lo hi σ R cv dn' en' D k E s0 s1 eo en X) (F : pF P c x σ τ) (hP : ∀ b, P b → 162 ≤ b ∧ ¬ pin lo hi b) (hco : ∀ b e, σ.1 b = some e → pco e → ¬ P b) : pWo M s lo hi τ R cv dn' en' D k E s0 s1 eo en X := by
  have Z := W.Z
  obtain ⟨⟨B0, I⟩, ⟨hb, hc⟩, ⟨S, J⟩, ⟨h1, h2⟩, ⟨V, ok⟩, h9, hf⟩ := W
  have n1 := F.2.2.1
  exact ⟨⟨B0, pI_F I F (fun b q => by have := (hP b q).1; omega) hco⟩, ⟨pbz_keep hb Z F (fun q => by have := (hP _ q).1; omega), pch_keep hc Z F (fun q => by have := (hP _ q).1; omega)⟩, ⟨S.fr Z J F (fun b _ hb q => (hP b q).2 hb) hco, J⟩, ⟨h1, by omega⟩, ⟨pcv_no V (fun b e h1 h2 => pF_keep Z F h1 (hco b e h1 h2)), ok⟩, h9, hf⟩
/-- copies -/
theorem pWo.cop (W : pWo M s lo hi σ R cv dn' en' D k E s0 s1 eo en X) (hb : bf < σ.2.1.1 ∧ sl < σ.2.1.1) (hr : σ.2.1.1 + 80 < 900000) : ∃ τ, Ra (d + 2) 133 [.ref s] σ (.inl (some (.ref σ.2.1.1))) τ ∧ ((pWo M s lo hi τ R cv dn' en' D k E s0 s1 eo en X ∧ pFw lo hi 60 250 σ τ) ∧ pPk M lo hi bf sl τ σ.2.1.1 X) := by
  obtain ⟨τ, R', g, ⟨W1, F1, -⟩, S1, J1⟩ := W.copy (d := d) hr
  have n0 := W.n0
  have n1 := W.hb
  exact ⟨τ, g, ⟨W1, F1⟩, R', cv, dn', en', σ.2.1.1, τ.2.1.1, ⟨S1, J1⟩, ⟨W1.V, W1.ok⟩, ⟨W1.h9, W1.pf⟩, ⟨n0, Nat.le_refl _⟩, Or.inr n1, fun q => by have := q.1; omega, fun q => by have := q.1; omega⟩
theorem pPk.cop (A : pPk M lo hi bf sl σ a X) (Z : pZ σ) (hr : σ.2.1.1 + 80 < 900000) : ∃ τ R' cv dn en, Ra (d + 2) 133 [.ref a] σ (.inl (some (.ref σ.2.1.1))) τ ∧ (pF pno 60 250 σ τ ∧ ((pS τ σ.2.1.1 R' X cv dn en ∧ pJ σ.2.1.1 τ.2.1.1 σ.2.1.1 R' X) ∧ ((pcv τ cv X ∧ yDok X) ∧ (X.n ≤ 9 ∧ pfr X M)))) := by
  obtain ⟨R0, cv, dn, en, lo', hi', ⟨S, J⟩, ⟨V, ok⟩, h3, -⟩ := A
  have hcv : cv = .null ∨ ∃ a, cv = .ref a := by
    rcases V with ⟨-, h⟩ | ⟨-, a, l, h, -⟩
    · exact Or.inl h
    · exact Or.inr ⟨a, h⟩
  obtain ⟨τ, R', g, F, Z1, S1, J1⟩ := m_133 (d := d) S ok h3.1 Z hcv hr
  exact ⟨τ, R', cv, dn, en, g, F, ⟨S1, J1⟩, ⟨pcv_no V (fun b e h1 h2 => pF_keep Z F h1 id), ok⟩, h3⟩
end
/-- what a change brings, whole -/
def pAf (M bf sl : Nat) (τ : xS) (pv y : Nat) (D : yD) (k : Nat) (E : Nat → yD) (ch : Bool) (s : Nat) : Prop :=
  ∃ lo hi R cv dn en D1 k1 E1 s0 s1 eo1 en1, pWo M s lo hi τ R cv dn en D1 k1 E1 s0 s1 eo1 en1 D1 ∧ (pRw M lo hi bf sl τ y E s0 s1 ∧ (pPk M lo hi bf sl τ pv D ∧ ((ch = true ∧ (k1 = min 8 (k + 1) ∧ E1 = ypush D E)) ∨ (ch = false ∧ (k1 = k ∧ E1 = E)))))
section
variable {d M M' s lo hi c x k bf sl pv p y : Nat} {σ τ : xS} {R R1 : pR} {cv : Value} {dn' en' eo en i2 yd yn : Int32} {D D1 X X1 : yD} {E E1 : Nat → yD} {s0 s1 s0' s1' : Option yD} {Q : xR → xS → Prop} {l12 l13 l14 l15 l16 l17 l18 l19 l20 l21 l22 l23 l24 l25 l26 l27 l28 l29 l30 l31 l32 : Option Value}
theorem pRes.af {ch : Bool} (A : pRes M s lo hi σ τ D k E s0 s1 ch) (Z : pZ σ) (K : pRw M lo hi bf sl σ y E s0 s1) (PV : pPk M lo hi bf sl σ pv D) : pAf (M + 201) bf sl τ pv y D k E ch s ∧ pFb 4700 17000 σ τ := by
  obtain ⟨R, cv, dn, en, D1, k1, E1, eo1, en1, W, F, h⟩ := A
  exact ⟨⟨lo, hi, R, cv, dn, en, D1, k1, E1, s0, s1, eo1, en1, W, (K.keep Z F).mono (by omega), (PV.keep Z F).mono (by omega), h⟩, pFb.mono F.2.2 (by omega) (by omega)⟩
/-- keep -/
theorem l_244_9 (W : pWo M s lo hi σ R cv dn' en' D k E s0 s1 eo en D) (K : pRw M lo hi bf sl σ y E s0 s1) (PV : pPk M lo hi bf sl σ pv D) (hr : σ.2.1.1 + 5000 < 890000) (H : ∀ τ ch s', pAf (M + 201) bf sl τ pv y D k E ch s' → pFb 4700 17000 σ τ → ∀ (l13 l14 l15 l16 l17 l18 l19 l20 l21 l22 l23 l24 l25 l26 l27 l28 l29 l30 l31 l32 : Option Value), G (d + 60) 244 570 [some (.ref 1000000), some (.int 1), some (.int i2), some (.ref 0), some (.ref 160), some (.ref 161), some (.ref s'), some (.ref bf), some (.ref sl), some (.int yd), some (.int yn), some (.ref pv), some (.int (yb ch)), l13, l14, l15, l16, l17, l18, l19, l20, l21, l22, l23, l24, l25, l26, l27, l28, l29, l30, l31, l32] [] τ Q) : G (d + 60) 244 515 [some (.ref 1000000), some (.int 1), some (.int i2), some (.ref 0), some (.ref 160), some (.ref 161), some (.ref s), some (.ref bf), some (.ref sl), some (.int yd), some (.int yn), some (.ref pv), some (.int 1), l13, l14, l15, l16, l17, l18, l19, l20, l21, l22, l23, l24, l25, l26, l27, l28, l29, l30, l31, l32] [] σ Q := by
  obtain ⟨v, σ1, hv, g1, ⟨W1, F1⟩, q1, e1⟩ := W.go (d := d + 59) (m := 2) (by decide) (by decide)
  have g1' : Ra (d + 59) 131 [.ref 161, .int 2] σ (.inl (some (.int (yI v)))) σ1 := g1
  have n1 : σ1.2.1.1 = σ.2.1.1 := by rw [e1]
  obtain ⟨or1, hor1⟩ := W.or
  obtain ⟨oo, hoo⟩ := W1.o0
  have K1 := K.keep W.Z F1
  have P1 := PV.keep W.Z F1
  obtain ⟨B, I1⟩ := W1.1
  have slz := K.1.1.2.2
  rcases (by omega : v = 0 ∨ v = 1) with rfl | rfl
  · have zv : yI 0 = 0 := rfl
    obtain ⟨τ2, g2, I2, F2⟩ := c_200_0 (d := d + 54) I1
    have g2' : Ra (d + 59) 200 [.ref 0, .int 0] σ1 (.inl (some (.int (ywrongs D)))) τ2 := g2
    obtain ⟨W2, F2'⟩ := W1.cls I2 F2
    have n2 := F2.2.2.1
    have K2 := K1.keep W1.Z F2'
    have P2 := P1.keep W1.Z F2'
    have g3 := m_142 (d := d + 57) W2.S W2.ok
    have g3' : Ra (d + 59) 142 [.ref s] τ2 (.inl (some (.int (ywrongs D)))) τ2 := g3
    obtain ⟨τ3, g4, ⟨W3, F3⟩, A3⟩ := W2.cop (d := d + 57) (K2.lt W2.Z) (by omega)
    have g4' : Ra (d + 59) 133 [.ref s] τ2 (.inl (some (.ref τ2.2.1.1))) τ3 := g4
    have n3 := F3.2.2.1
    have K3 := K2.keep W2.Z F3
    have P3 := P2.keep W2.Z F3
    obtain ⟨gs, s3, -, K4⟩ := K3.slots W3.Z
    have K4' := (K4 _ _ A3).1
    have Fw : pF (fun b => b = bf ∨ b = sl) 0 0 τ3 (xwr τ3 sl (prow 7 2 (va_up gs 0 (some τ2.2.1.1)))) := pF_wr (pZ_lt W3.Z s3) (Or.inr rfl)
    have W4 := W3.oth Fw (fun b q => by
      have q1 := K3.1
      rcases q with rfl | rfl
      · exact ⟨q1.1.1.1, q1.2.1⟩
      · exact ⟨q1.1.2.1, q1.2.2⟩) K3.nco
    have P4 := P3.row W3.Z Fw K3.nco
    obtain ⟨R9, cv9, dn9, en9, lo9, hi9, ⟨S9, J9⟩, -⟩ := A3
    have s9 := S9.1.2
    have s99 : τ2.2.1.1 < 1000000 := by omega
    obtain ⟨σ5, e5⟩ : ∃ σ5, σ5 = xwr τ3 sl (prow 7 2 (va_up gs 0 (some τ2.2.1.1))) := ⟨_, rfl⟩
    simp only [s_244_515, s_244_516, s_244_517, s_244_518, s_244_519, s_244_520, s_244_521, s_244_522, s_244_523, s_244_524, s_244_525, s_244_526, s_244_527, s_244_528, s_244_529, s_244_530, s_244_531, s_244_532, s_244_533, s_244_534, s_244_535, s_244_536, hor1, g1' _, zv, hoo, g2' _, W2.ob, g3' _, g4' _, s3, s9, slz, s99, hpa_o (show (7 : Nat) = 4 ∨ 7 = 6 ∨ 7 = 7 ∨ 7 = 8 by decide) (show 12 = xofA 7 from rfl), yix2_0, ycl_0, ne_eq, not_true_eq_false, if_false, hcl_s, true_and, hgf_s, hsel_0, hsel_1, hsel_2, hsel_3, hsel_4, hsel_5, hsel_6, hsel_7, hsel_8, hset_0, hset_1, hset_2, hset_3, hset_4, hset_5, hset_6, hset_7, hset_8, hpf_s, hcl_s, hai_s, hpi_0, hpi_1, hln_0, hln_1, List.length_cons, List.length_nil, xwr_1, xwr_2, xnew_1, xnew_n, xnew_s, xnew_z, Nat.reduceLT, ite_true, and_self, hp_8_0, hp_8_1, hn_8_1, hp_8_2, hn_8_2, hp_9_0, hp_9_1, hp_9_2, hp_9_3, hp_9_4, hp_9_5, hn_9_5, hp_9_6, hn_9_6, hp_9_7, hn_9_7, hp_10_0, hp_10_1, hp_10_2, hn_10_2, hp_10_3, hn_10_3, hp_11_0, hp_12_0, hn_12_0, hp_12_1, hp_12_2, hp_12_3, hp_12_4, hp_12_5, hn_12_5, hp_12_6, hn_12_6, hp_12_7, hp_12_8, hp_13_0, hn_13_0, hp_13_1, hp_13_2, hp_13_3, hp_14_0, hn_14_0, hp_14_1, hp_14_2, hp_14_3, xdef_8, xdef_9, xdef_10, xdef_11, xdef_12, xdef_13, xdef_14, Gk_v, Gk_n, xcat_nil, xcat_i, xcat_r, xcat_l, xcat_d, Nat.zero_le, Nat.reduceAdd, Nat.reduceLeDiff, true_and, and_true, ykl_i, ykl_r, ykl_n, ykl_l]
    rw [← e5] at W4 K4' P4 Fw ⊢
    exact H σ5 false s ⟨lo, hi, R, cv, dn', en', D, k, E, some D, s1, eo, en, W4.mono (by omega), K4'.mono (by omega), P4.mono (by omega), Or.inr ⟨rfl, rfl, rfl⟩⟩ (pFb.mono (((pFb.trans F1.2.2 F2.2.2).trans F3.2.2).trans Fw.2.2) (by omega) (by omega)) _ _ _ _ _ _ _ _ _ _ _ _ _ _ _ _ _ _ _ _
  · have zv : yI 1 = 1 := rfl
    obtain ⟨τ2, g2, I2, F2⟩ := c_200_1 (d := d + 54) I1
    have g2' : Ra (d + 59) 200 [.ref 0, .int 1] σ1 (.inl (some (.int (ywrongs D)))) τ2 := g2
    obtain ⟨W2, F2'⟩ := W1.cls I2 F2
    have n2 := F2.2.2.1
    have K2 := K1.keep W1.Z F2'
    have P2 := P1.keep W1.Z F2'
    have g3 := m_142 (d := d + 57) W2.S W2.ok
    have g3' : Ra (d + 59) 142 [.ref s] τ2 (.inl (some (.int (ywrongs D)))) τ2 := g3
    obtain ⟨τ3, g4, ⟨W3, F3⟩, A3⟩ := W2.cop (d := d + 57) (K2.lt W2.Z) (by omega)
    have g4' : Ra (d + 59) 133 [.ref s] τ2 (.inl (some (.ref τ2.2.1.1))) τ3 := g4
    have n3 := F3.2.2.1
    have K3 := K2.keep W2.Z F3
    have P3 := P2.keep W2.Z F3
    obtain ⟨gs, s3, -, K4⟩ := K3.slots W3.Z
    have K4' := (K4 _ _ A3).2
    have Fw : pF (fun b => b = bf ∨ b = sl) 0 0 τ3 (xwr τ3 sl (prow 7 2 (va_up gs 1 (some τ2.2.1.1)))) := pF_wr (pZ_lt W3.Z s3) (Or.inr rfl)
    have W4 := W3.oth Fw (fun b q => by
      have q1 := K3.1
      rcases q with rfl | rfl
      · exact ⟨q1.1.1.1, q1.2.1⟩
      · exact ⟨q1.1.2.1, q1.2.2⟩) K3.nco
    have P4 := P3.row W3.Z Fw K3.nco
    obtain ⟨R9, cv9, dn9, en9, lo9, hi9, ⟨S9, J9⟩, -⟩ := A3
    have s9 := S9.1.2
    have s99 : τ2.2.1.1 < 1000000 := by omega
    obtain ⟨σ5, e5⟩ : ∃ σ5, σ5 = xwr τ3 sl (prow 7 2 (va_up gs 1 (some τ2.2.1.1))) := ⟨_, rfl⟩
    simp only [s_244_515, s_244_516, s_244_517, s_244_518, s_244_519, s_244_520, s_244_521, s_244_522, s_244_523, s_244_524, s_244_525, s_244_526, s_244_527, s_244_528, s_244_529, s_244_530, s_244_531, s_244_532, s_244_533, s_244_534, s_244_535, s_244_536, hor1, g1' _, zv, hoo, g2' _, W2.ob, g3' _, g4' _, s3, s9, slz, s99, hpa_o (show (7 : Nat) = 4 ∨ 7 = 6 ∨ 7 = 7 ∨ 7 = 8 by decide) (show 12 = xofA 7 from rfl), yix2_1, ycl_1, ne_eq, not_true_eq_false, if_false, hcl_s, true_and, hgf_s, hsel_0, hsel_1, hsel_2, hsel_3, hsel_4, hsel_5, hsel_6, hsel_7, hsel_8, hset_0, hset_1, hset_2, hset_3, hset_4, hset_5, hset_6, hset_7, hset_8, hpf_s, hcl_s, hai_s, hpi_0, hpi_1, hln_0, hln_1, List.length_cons, List.length_nil, xwr_1, xwr_2, xnew_1, xnew_n, xnew_s, xnew_z, Nat.reduceLT, ite_true, and_self, hp_8_0, hp_8_1, hn_8_1, hp_8_2, hn_8_2, hp_9_0, hp_9_1, hp_9_2, hp_9_3, hp_9_4, hp_9_5, hn_9_5, hp_9_6, hn_9_6, hp_9_7, hn_9_7, hp_10_0, hp_10_1, hp_10_2, hn_10_2, hp_10_3, hn_10_3, hp_11_0, hp_12_0, hn_12_0, hp_12_1, hp_12_2, hp_12_3, hp_12_4, hp_12_5, hn_12_5, hp_12_6, hn_12_6, hp_12_7, hp_12_8, hp_13_0, hn_13_0, hp_13_1, hp_13_2, hp_13_3, hp_14_0, hn_14_0, hp_14_1, hp_14_2, hp_14_3, xdef_8, xdef_9, xdef_10, xdef_11, xdef_12, xdef_13, xdef_14, Gk_v, Gk_n, xcat_nil, xcat_i, xcat_r, xcat_l, xcat_d, Nat.zero_le, Nat.reduceAdd, Nat.reduceLeDiff, true_and, and_true, ykl_i, ykl_r, ykl_n, ykl_l]
    rw [← e5] at W4 K4' P4 Fw ⊢
    exact H σ5 false s ⟨lo, hi, R, cv, dn', en', D, k, E, s0, some D, eo, en, W4.mono (by omega), K4'.mono (by omega), P4.mono (by omega), Or.inr ⟨rfl, rfl, rfl⟩⟩ (pFb.mono (((pFb.trans F1.2.2 F2.2.2).trans F3.2.2).trans Fw.2.2) (by omega) (by omega)) _ _ _ _ _ _ _ _ _ _ _ _ _ _ _ _ _ _ _ _
/-- restore -/
theorem l_244_10 (W : pWo M s lo hi σ R cv dn' en' D k E s0 s1 eo en D) (K : pRw M lo hi bf sl σ y E s0 s1) (PV : pPk M lo hi bf sl σ pv D) (hr : σ.2.1.1 + 5000 < 890000) (H : ∀ τ ch s', pAf (M + 201) bf sl τ pv y D k E ch s' → pFb 4700 17000 σ τ → ∀ (l13 l14 l15 l16 l17 l18 l19 l20 l21 l22 l23 l24 l25 l26 l27 l28 l29 l30 l31 l32 : Option Value), G (d + 60) 244 570 [some (.ref 1000000), some (.int 1), some (.int i2), some (.ref 0), some (.ref 160), some (.ref 161), some (.ref s'), some (.ref bf), some (.ref sl), some (.int yd), some (.int yn), some (.ref pv), some (.int (yb ch)), l13, l14, l15, l16, l17, l18, l19, l20, l21, l22, l23, l24, l25, l26, l27, l28, l29, l30, l31, l32] [] τ Q) : G (d + 60) 244 537 [some (.ref 1000000), some (.int 1), some (.int i2), some (.ref 0), some (.ref 160), some (.ref 161), some (.ref s), some (.ref bf), some (.ref sl), some (.int yd), some (.int yn), some (.ref pv), some (.int 1), l13, l14, l15, l16, l17, l18, l19, l20, l21, l22, l23, l24, l25, l26, l27, l28, l29, l30, l31, l32] [] σ Q := by
  obtain ⟨v, σ1, hv, g1, ⟨W1, F1⟩, q1, e1⟩ := W.go (d := d + 59) (m := 2) (by decide) (by decide)
  have g1' : Ra (d + 59) 131 [.ref 161, .int 2] σ (.inl (some (.int (yI v)))) σ1 := g1
  have n1 : σ1.2.1.1 = σ.2.1.1 := by rw [e1]
  obtain ⟨or1, hor1⟩ := W.or
  obtain ⟨oo, hoo⟩ := W1.o0
  have K1 := K.keep W.Z F1
  have P1 := PV.keep W.Z F1
  obtain ⟨B, I1⟩ := W1.1
  have slz := K.1.1.2.2
  have Z1 := W1.Z
  have h162 := W1.n0
  obtain ⟨gs, s3, ⟨p0, p1⟩, -⟩ := K1.slots Z1
  have r3 : xRd σ1 sl = some (prow 7 2 gs) := by rw [yrd_lt slz, s3]
  rcases (by omega : v = 0 ∨ v = 1) with rfl | rfl
  · have zv : yI 0 = 0 := rfl
    rcases p0 with ⟨hg, hs⟩ | ⟨a, X, hg, hs, A⟩
    · obtain ⟨τ2, g2, I2, F2⟩ := c_201n_0 (d := d + 54) I1 (by omega) hs
      have g2' : Ra (d + 59) 201 [.ref 0, .int 0] σ1 (.inl (some (.int (-2000000100)))) τ2 := g2
      obtain ⟨W2, F2'⟩ := W1.cls I2 F2
      simp only [s_244_537, s_244_538, s_244_539, s_244_540, s_244_541, s_244_542, s_244_543, s_244_544n, s_244_544, s_244_545, s_244_546, s_244_547, s_244_548, s_244_549, s_244_550, s_244_551, s_244_552, s_244_553, s_244_554, s_244_555, s_244_556, s_244_557, s_244_558, s_244_559, s_244_560, s_244_561, s_244_562, s_244_563, s_244_564, s_244_565, s_244_566, s_244_567, s_244_568, s_244_569, hor1, g1' _, zv, hoo, g2' _, r3, haa_t slz (show 4 ≤ 7 ∧ 7 ≤ 8 by decide), yix2_0, ycl_0, hg, hop_n, ne_eq, not_true_eq_false, if_false, if_true, hcl_s, true_and, hgf_s, hsel_0, hsel_1, hsel_2, hsel_3, hsel_4, hsel_5, hsel_6, hsel_7, hsel_8, hset_0, hset_1, hset_2, hset_3, hset_4, hset_5, hset_6, hset_7, hset_8, hpf_s, hcl_s, hai_s, hpi_0, hpi_1, hln_0, hln_1, List.length_cons, List.length_nil, xwr_1, xwr_2, xnew_1, xnew_n, xnew_s, xnew_z, Nat.reduceLT, ite_true, and_self, hp_8_0, hp_8_1, hn_8_1, hp_8_2, hn_8_2, hp_9_0, hp_9_1, hp_9_2, hp_9_3, hp_9_4, hp_9_5, hn_9_5, hp_9_6, hn_9_6, hp_9_7, hn_9_7, hp_10_0, hp_10_1, hp_10_2, hn_10_2, hp_10_3, hn_10_3, hp_11_0, hp_12_0, hn_12_0, hp_12_1, hp_12_2, hp_12_3, hp_12_4, hp_12_5, hn_12_5, hp_12_6, hn_12_6, hp_12_7, hp_12_8, hp_13_0, hn_13_0, hp_13_1, hp_13_2, hp_13_3, hp_14_0, hn_14_0, hp_14_1, hp_14_2, hp_14_3, xdef_8, xdef_9, xdef_10, xdef_11, xdef_12, xdef_13, xdef_14, Gk_v, Gk_n, xcat_nil, xcat_i, xcat_r, xcat_l, xcat_d, Nat.zero_le, Nat.reduceAdd, Nat.reduceLeDiff, true_and, and_true, ykl_i, ykl_r, ykl_n, ykl_l]
      exact H τ2 false s ⟨lo, hi, R, cv, dn', en', D, k, E, s0, s1, eo, en, W2.mono (by omega), (K1.keep Z1 F2').mono (by omega), (P1.keep Z1 F2').mono (by omega), Or.inr ⟨rfl, rfl, rfl⟩⟩ (pFb.mono (pFb.trans F1.2.2 F2.2.2) (by omega) (by omega)) _ _ _ _ _ _ _ _ _ _ _ _ _ _ _ _ _ _ _ _
    · obtain ⟨τ2, R', cv', dn2, en2, g2, F2, ⟨S2, J2⟩, ⟨V2, ok2⟩, h92, pf2⟩ := A.cop (d := d + 57) Z1 (by omega)
      have g2' : Ra (d + 59) 133 [.ref a] σ1 (.inl (some (.ref σ1.2.1.1))) τ2 := g2
      obtain ⟨R9, cv9, dn9, en9, lo9, hi9, ⟨S9, J9⟩, -⟩ := A
      have o9 := S9.ob
      have a9 := S9.1.1
      have n2 := F2.2.2.1
      have s99 : σ1.2.1.1 < 1000000 := by omega
      have W1' := (W1.no F2).1
      have Z2 := W1'.Z
      have W2 : pWo M σ1.2.1.1 σ1.2.1.1 τ2.2.1.1 τ2 R' cv' dn2 en2 D k E s0 s1 eo en X := ⟨W1'.1, W1'.2.1, ⟨S2, J2⟩, ⟨h162, Nat.le_refl _⟩, ⟨V2, ok2⟩, h92, pf2⟩
      have F2' : pFw σ1.2.1.1 τ2.2.1.1 60 250 σ1 τ2 := pFw.of F2 (fun _ q => q.elim) (fun _ _ _ _ q => q)
      have K2 := (K1.sw (hi' := τ2.2.1.1) Z1 (Nat.le_refl _)).keep Z1 F2'
      have P2 := (P1.sw (hi2 := τ2.2.1.1) (Nat.le_refl _)).keep Z1 F2'
      obtain ⟨B2, I2⟩ := W2.1
      obtain ⟨o2, hoo2⟩ := W2.o0
      obtain ⟨τ3, g3, I3, F3⟩ := c_201_0 (d := d + 54) I2 hs
      have g3' : Ra (d + 59) 201 [.ref 0, .int 0] τ2 (.inl (some (.int (ywrongs X)))) τ3 := g3
      obtain ⟨W3, F3'⟩ := W2.cls I3 F3
      have g4 := m_142 (d := d + 57) W3.S W3.ok
      have g4' : Ra (d + 59) 142 [.ref σ1.2.1.1] τ3 (.inl (some (.int (ywrongs X)))) τ3 := g4
      simp only [s_244_537, s_244_538, s_244_539, s_244_540, s_244_541, s_244_542, s_244_543, s_244_544n, s_244_544, s_244_545, s_244_546, s_244_547, s_244_548, s_244_549, s_244_550, s_244_551, s_244_552, s_244_553, s_244_554, s_244_555, s_244_556, hor1, g1' _, zv, r3, haa_t slz (show 4 ≤ 7 ∧ 7 ≤ 8 by decide), yix2_0, ycl_0, hg, hop_s, a9, o9, g2' _, s99, true_or, show ¬ (1 : Int32) = 0 from by decide, ne_eq, not_true_eq_false, if_false, if_true, hcl_s, true_and, hgf_s, hsel_0, hsel_1, hsel_2, hsel_3, hsel_4, hsel_5, hsel_6, hsel_7, hsel_8, hset_0, hset_1, hset_2, hset_3, hset_4, hset_5, hset_6, hset_7, hset_8, hpf_s, hcl_s, hai_s, hpi_0, hpi_1, hln_0, hln_1, List.length_cons, List.length_nil, xwr_1, xwr_2, xnew_1, xnew_n, xnew_s, xnew_z, Nat.reduceLT, ite_true, and_self, hp_8_0, hp_8_1, hn_8_1, hp_8_2, hn_8_2, hp_9_0, hp_9_1, hp_9_2, hp_9_3, hp_9_4, hp_9_5, hn_9_5, hp_9_6, hn_9_6, hp_9_7, hn_9_7, hp_10_0, hp_10_1, hp_10_2, hn_10_2, hp_10_3, hn_10_3, hp_11_0, hp_12_0, hn_12_0, hp_12_1, hp_12_2, hp_12_3, hp_12_4, hp_12_5, hn_12_5, hp_12_6, hn_12_6, hp_12_7, hp_12_8, hp_13_0, hn_13_0, hp_13_1, hp_13_2, hp_13_3, hp_14_0, hn_14_0, hp_14_1, hp_14_2, hp_14_3, xdef_8, xdef_9, xdef_10, xdef_11, xdef_12, xdef_13, xdef_14, Gk_v, Gk_n, xcat_nil, xcat_i, xcat_r, xcat_l, xcat_d, Nat.zero_le, Nat.reduceAdd, Nat.reduceLeDiff, true_and, and_true, ykl_i, ykl_r, ykl_n, ykl_l]
      simp only [s_244_557, s_244_558, s_244_559, s_244_560, s_244_561, s_244_562, s_244_563, s_244_564, s_244_565, s_244_566, s_244_567, s_244_568, s_244_569, hoo2, g3' _, W3.ob, g4' _, show ¬ (1 : Int32) = 0 from by decide, ne_eq, not_true_eq_false, if_false, if_true, hcl_s, true_and, hgf_s, hsel_0, hsel_1, hsel_2, hsel_3, hsel_4, hsel_5, hsel_6, hsel_7, hsel_8, hset_0, hset_1, hset_2, hset_3, hset_4, hset_5, hset_6, hset_7, hset_8, hpf_s, hcl_s, hai_s, hpi_0, hpi_1, hln_0, hln_1, List.length_cons, List.length_nil, xwr_1, xwr_2, xnew_1, xnew_n, xnew_s, xnew_z, Nat.reduceLT, ite_true, and_self, hp_8_0, hp_8_1, hn_8_1, hp_8_2, hn_8_2, hp_9_0, hp_9_1, hp_9_2, hp_9_3, hp_9_4, hp_9_5, hn_9_5, hp_9_6, hn_9_6, hp_9_7, hn_9_7, hp_10_0, hp_10_1, hp_10_2, hn_10_2, hp_10_3, hn_10_3, hp_11_0, hp_12_0, hn_12_0, hp_12_1, hp_12_2, hp_12_3, hp_12_4, hp_12_5, hn_12_5, hp_12_6, hn_12_6, hp_12_7, hp_12_8, hp_13_0, hn_13_0, hp_13_1, hp_13_2, hp_13_3, hp_14_0, hn_14_0, hp_14_1, hp_14_2, hp_14_3, xdef_8, xdef_9, xdef_10, xdef_11, xdef_12, xdef_13, xdef_14, Gk_v, Gk_n, xcat_nil, xcat_i, xcat_r, xcat_l, xcat_d, Nat.zero_le, Nat.reduceAdd, Nat.reduceLeDiff, true_and, and_true, ykl_i, ykl_r, ykl_n, ykl_l]
      exact H τ3 true σ1.2.1.1 ⟨σ1.2.1.1, τ2.2.1.1, R', cv', dn2, en2, X, min 8 (k + 1), ypush D E, s0, s1, eo, en, W3.mono (by omega), (K2.keep Z2 F3').mono (by omega), (P2.keep Z2 F3').mono (by omega), Or.inl ⟨rfl, rfl, rfl⟩⟩ (pFb.mono ((pFb.trans F1.2.2 F2.2.2).trans F3.2.2) (by omega) (by omega)) _ _ _ _ _ _ _ _ _ _ _ _ _ _ _ _ _ _ _ _
  · have zv : yI 1 = 1 := rfl
    rcases p1 with ⟨hg, hs⟩ | ⟨a, X, hg, hs, A⟩
    · obtain ⟨τ2, g2, I2, F2⟩ := c_201n_1 (d := d + 54) I1 (by omega) hs
      have g2' : Ra (d + 59) 201 [.ref 0, .int 1] σ1 (.inl (some (.int (-2000000100)))) τ2 := g2
      obtain ⟨W2, F2'⟩ := W1.cls I2 F2
      simp only [s_244_537, s_244_538, s_244_539, s_244_540, s_244_541, s_244_542, s_244_543, s_244_544n, s_244_544, s_244_545, s_244_546, s_244_547, s_244_548, s_244_549, s_244_550, s_244_551, s_244_552, s_244_553, s_244_554, s_244_555, s_244_556, s_244_557, s_244_558, s_244_559, s_244_560, s_244_561, s_244_562, s_244_563, s_244_564, s_244_565, s_244_566, s_244_567, s_244_568, s_244_569, hor1, g1' _, zv, hoo, g2' _, r3, haa_t slz (show 4 ≤ 7 ∧ 7 ≤ 8 by decide), yix2_1, ycl_1, hg, hop_n, ne_eq, not_true_eq_false, if_false, if_true, hcl_s, true_and, hgf_s, hsel_0, hsel_1, hsel_2, hsel_3, hsel_4, hsel_5, hsel_6, hsel_7, hsel_8, hset_0, hset_1, hset_2, hset_3, hset_4, hset_5, hset_6, hset_7, hset_8, hpf_s, hcl_s, hai_s, hpi_0, hpi_1, hln_0, hln_1, List.length_cons, List.length_nil, xwr_1, xwr_2, xnew_1, xnew_n, xnew_s, xnew_z, Nat.reduceLT, ite_true, and_self, hp_8_0, hp_8_1, hn_8_1, hp_8_2, hn_8_2, hp_9_0, hp_9_1, hp_9_2, hp_9_3, hp_9_4, hp_9_5, hn_9_5, hp_9_6, hn_9_6, hp_9_7, hn_9_7, hp_10_0, hp_10_1, hp_10_2, hn_10_2, hp_10_3, hn_10_3, hp_11_0, hp_12_0, hn_12_0, hp_12_1, hp_12_2, hp_12_3, hp_12_4, hp_12_5, hn_12_5, hp_12_6, hn_12_6, hp_12_7, hp_12_8, hp_13_0, hn_13_0, hp_13_1, hp_13_2, hp_13_3, hp_14_0, hn_14_0, hp_14_1, hp_14_2, hp_14_3, xdef_8, xdef_9, xdef_10, xdef_11, xdef_12, xdef_13, xdef_14, Gk_v, Gk_n, xcat_nil, xcat_i, xcat_r, xcat_l, xcat_d, Nat.zero_le, Nat.reduceAdd, Nat.reduceLeDiff, true_and, and_true, ykl_i, ykl_r, ykl_n, ykl_l]
      exact H τ2 false s ⟨lo, hi, R, cv, dn', en', D, k, E, s0, s1, eo, en, W2.mono (by omega), (K1.keep Z1 F2').mono (by omega), (P1.keep Z1 F2').mono (by omega), Or.inr ⟨rfl, rfl, rfl⟩⟩ (pFb.mono (pFb.trans F1.2.2 F2.2.2) (by omega) (by omega)) _ _ _ _ _ _ _ _ _ _ _ _ _ _ _ _ _ _ _ _
    · obtain ⟨τ2, R', cv', dn2, en2, g2, F2, ⟨S2, J2⟩, ⟨V2, ok2⟩, h92, pf2⟩ := A.cop (d := d + 57) Z1 (by omega)
      have g2' : Ra (d + 59) 133 [.ref a] σ1 (.inl (some (.ref σ1.2.1.1))) τ2 := g2
      obtain ⟨R9, cv9, dn9, en9, lo9, hi9, ⟨S9, J9⟩, -⟩ := A
      have o9 := S9.ob
      have a9 := S9.1.1
      have n2 := F2.2.2.1
      have s99 : σ1.2.1.1 < 1000000 := by omega
      have W1' := (W1.no F2).1
      have Z2 := W1'.Z
      have W2 : pWo M σ1.2.1.1 σ1.2.1.1 τ2.2.1.1 τ2 R' cv' dn2 en2 D k E s0 s1 eo en X := ⟨W1'.1, W1'.2.1, ⟨S2, J2⟩, ⟨h162, Nat.le_refl _⟩, ⟨V2, ok2⟩, h92, pf2⟩
      have F2' : pFw σ1.2.1.1 τ2.2.1.1 60 250 σ1 τ2 := pFw.of F2 (fun _ q => q.elim) (fun _ _ _ _ q => q)
      have K2 := (K1.sw (hi' := τ2.2.1.1) Z1 (Nat.le_refl _)).keep Z1 F2'
      have P2 := (P1.sw (hi2 := τ2.2.1.1) (Nat.le_refl _)).keep Z1 F2'
      obtain ⟨B2, I2⟩ := W2.1
      obtain ⟨o2, hoo2⟩ := W2.o0
      obtain ⟨τ3, g3, I3, F3⟩ := c_201_1 (d := d + 54) I2 hs
      have g3' : Ra (d + 59) 201 [.ref 0, .int 1] τ2 (.inl (some (.int (ywrongs X)))) τ3 := g3
      obtain ⟨W3, F3'⟩ := W2.cls I3 F3
      have g4 := m_142 (d := d + 57) W3.S W3.ok
      have g4' : Ra (d + 59) 142 [.ref σ1.2.1.1] τ3 (.inl (some (.int (ywrongs X)))) τ3 := g4
      simp only [s_244_537, s_244_538, s_244_539, s_244_540, s_244_541, s_244_542, s_244_543, s_244_544n, s_244_544, s_244_545, s_244_546, s_244_547, s_244_548, s_244_549, s_244_550, s_244_551, s_244_552, s_244_553, s_244_554, s_244_555, s_244_556, hor1, g1' _, zv, r3, haa_t slz (show 4 ≤ 7 ∧ 7 ≤ 8 by decide), yix2_1, ycl_1, hg, hop_s, a9, o9, g2' _, s99, true_or, show ¬ (1 : Int32) = 0 from by decide, ne_eq, not_true_eq_false, if_false, if_true, hcl_s, true_and, hgf_s, hsel_0, hsel_1, hsel_2, hsel_3, hsel_4, hsel_5, hsel_6, hsel_7, hsel_8, hset_0, hset_1, hset_2, hset_3, hset_4, hset_5, hset_6, hset_7, hset_8, hpf_s, hcl_s, hai_s, hpi_0, hpi_1, hln_0, hln_1, List.length_cons, List.length_nil, xwr_1, xwr_2, xnew_1, xnew_n, xnew_s, xnew_z, Nat.reduceLT, ite_true, and_self, hp_8_0, hp_8_1, hn_8_1, hp_8_2, hn_8_2, hp_9_0, hp_9_1, hp_9_2, hp_9_3, hp_9_4, hp_9_5, hn_9_5, hp_9_6, hn_9_6, hp_9_7, hn_9_7, hp_10_0, hp_10_1, hp_10_2, hn_10_2, hp_10_3, hn_10_3, hp_11_0, hp_12_0, hn_12_0, hp_12_1, hp_12_2, hp_12_3, hp_12_4, hp_12_5, hn_12_5, hp_12_6, hn_12_6, hp_12_7, hp_12_8, hp_13_0, hn_13_0, hp_13_1, hp_13_2, hp_13_3, hp_14_0, hn_14_0, hp_14_1, hp_14_2, hp_14_3, xdef_8, xdef_9, xdef_10, xdef_11, xdef_12, xdef_13, xdef_14, Gk_v, Gk_n, xcat_nil, xcat_i, xcat_r, xcat_l, xcat_d, Nat.zero_le, Nat.reduceAdd, Nat.reduceLeDiff, true_and, and_true, ykl_i, ykl_r, ykl_n, ykl_l]
      simp only [s_244_557, s_244_558, s_244_559, s_244_560, s_244_561, s_244_562, s_244_563, s_244_564, s_244_565, s_244_566, s_244_567, s_244_568, s_244_569, hoo2, g3' _, W3.ob, g4' _, show ¬ (1 : Int32) = 0 from by decide, ne_eq, not_true_eq_false, if_false, if_true, hcl_s, true_and, hgf_s, hsel_0, hsel_1, hsel_2, hsel_3, hsel_4, hsel_5, hsel_6, hsel_7, hsel_8, hset_0, hset_1, hset_2, hset_3, hset_4, hset_5, hset_6, hset_7, hset_8, hpf_s, hcl_s, hai_s, hpi_0, hpi_1, hln_0, hln_1, List.length_cons, List.length_nil, xwr_1, xwr_2, xnew_1, xnew_n, xnew_s, xnew_z, Nat.reduceLT, ite_true, and_self, hp_8_0, hp_8_1, hn_8_1, hp_8_2, hn_8_2, hp_9_0, hp_9_1, hp_9_2, hp_9_3, hp_9_4, hp_9_5, hn_9_5, hp_9_6, hn_9_6, hp_9_7, hn_9_7, hp_10_0, hp_10_1, hp_10_2, hn_10_2, hp_10_3, hn_10_3, hp_11_0, hp_12_0, hn_12_0, hp_12_1, hp_12_2, hp_12_3, hp_12_4, hp_12_5, hn_12_5, hp_12_6, hn_12_6, hp_12_7, hp_12_8, hp_13_0, hn_13_0, hp_13_1, hp_13_2, hp_13_3, hp_14_0, hn_14_0, hp_14_1, hp_14_2, hp_14_3, xdef_8, xdef_9, xdef_10, xdef_11, xdef_12, xdef_13, xdef_14, Gk_v, Gk_n, xcat_nil, xcat_i, xcat_r, xcat_l, xcat_d, Nat.zero_le, Nat.reduceAdd, Nat.reduceLeDiff, true_and, and_true, ykl_i, ykl_r, ykl_n, ykl_l]
      exact H τ3 true σ1.2.1.1 ⟨σ1.2.1.1, τ2.2.1.1, R', cv', dn2, en2, X, min 8 (k + 1), ypush D E, s0, s1, eo, en, W3.mono (by omega), (K2.keep Z2 F3').mono (by omega), (P2.keep Z2 F3').mono (by omega), Or.inl ⟨rfl, rfl, rfl⟩⟩ (pFb.mono ((pFb.trans F1.2.2 F2.2.2).trans F3.2.2) (by omega) (by omega)) _ _ _ _ _ _ _ _ _ _ _ _ _ _ _ _ _ _ _ _
end
