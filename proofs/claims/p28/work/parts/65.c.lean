/-! ===== the law's own strips, over the same data as the class's ===== -/
abbrev pR : Type := Nat × ((Nat → Nat) × (Nat × ((Nat → Nat) × ((Nat → Nat) × ((Nat → Nat) × (Nat → Nat))))))
def pR.lr (R : pR) : Nat := R.1
def pR.lm (R : pR) : Nat → Nat := R.2.1
def pR.fr (R : pR) : Nat := R.2.2.1
def pR.fg (R : pR) : Nat → Nat := R.2.2.2.1
def pR.tk (R : pR) : Nat → Nat := R.2.2.2.2.1
def pR.du (R : pR) : Nat → Nat := R.2.2.2.2.2.1
def pR.fm (R : pR) : Nat → Nat := R.2.2.2.2.2.2
abbrev prow (t n : Nat) (g : Nat → Option Nat) : xE := .inl (t, (n, .inr (.inr (.inr (.inr g)))))
abbrev pints (n : Nat) (c : Nat → Int32) : xE := .inl (0, (n, .inl c))
/-- the object at s of the law's Strip holds the data D; R: where its rows lie -/
def pS (σ : xS) (s : Nat) (R : pR) (D : yD) (cv : Value) (dn en : Int32) : Prop :=
  (s < 1000000 ∧ σ.1 s = some (.inr (12, [.ref R.lr, .int D.un, .int D.lv, .int D.sh, .int D.ac, .ref R.fr, cv, .int dn, .int en]))) ∧
  ((R.lr < 1000000 ∧ ∃ g : Nat → Option Nat, σ.1 R.lr = some (prow 6 D.n g) ∧ ∀ p, p < D.n → g p = some (R.lm p)) ∧
  ((∀ p, p < D.n → R.lm p < 1000000 ∧ σ.1 (R.lm p) = some (plamp (D.kd p) (D.pd p) (yb (D.bp p)) (D.fr p) (D.og p) (R.tk p) (R.du p) (R.fm p))) ∧
  ((∀ p, p < D.n → (pC σ (R.tk p) (D.tk p) ∧ pcol (D.tk p)) ∧ ((pC σ (R.du p) (D.du p) ∧ pcol (D.du p)) ∧ (pC σ (R.fm p) (D.fm p) ∧ pcol (D.fm p)))) ∧
  ((R.fr < 1000000 ∧ ∃ g : Nat → Option Nat, σ.1 R.fr = some (prow 5 D.f g) ∧ ∀ q, q < D.f → g q = some (R.fg q)) ∧
  (∀ q, q < D.f → R.fg q < 1000000 ∧ ∃ c : Nat → Int32, σ.1 (R.fg q) = some (pints 2 c) ∧ (c 0 = yI (D.fp q) ∧ c 1 = D.fl q))))))
theorem yix2_0 : yix 0 2 := by unfold yix; decide
theorem yix2_1 : yix 1 2 := by unfold yix; decide
section
variable {d : Nat} {σ : xS} {s : Nat} {R : pR} {D : yD} {cv : Value} {dn en : Int32}
theorem pS.ob (S : pS σ s R D cv dn en) : xRd σ s = some (.inr (12, [.ref R.lr, .int D.un, .int D.lv, .int D.sh, .int D.ac, .ref R.fr, cv, .int dn, .int en])) := by rw [yrd_lt S.1.1, S.1.2]
theorem pS.lr0 (S : pS σ s R D cv dn en) : R.lr < 1000000 := S.2.1.1
theorem pS.fr0 (S : pS σ s R D cv dn en) : R.fr < 1000000 := S.2.2.2.2.1.1
theorem pS.lm0 (S : pS σ s R D cv dn en) {p : Nat} (hp : p < D.n) : R.lm p < 1000000 := (S.2.2.1 p hp).1
theorem pS.lm1 (S : pS σ s R D cv dn en) {p : Nat} (hp : p < D.n) : xRd σ (R.lm p) = some (plamp (D.kd p) (D.pd p) (yb (D.bp p)) (D.fr p) (D.og p) (R.tk p) (R.du p) (R.fm p)) := by rw [yrd_lt (S.2.2.1 p hp).1, (S.2.2.1 p hp).2]
theorem pS.tk (S : pS σ s R D cv dn en) {p : Nat} (hp : p < D.n) : pC σ (R.tk p) (D.tk p) ∧ pcol (D.tk p) := (S.2.2.2.1 p hp).1
theorem pS.du (S : pS σ s R D cv dn en) {p : Nat} (hp : p < D.n) : pC σ (R.du p) (D.du p) ∧ pcol (D.du p) := (S.2.2.2.1 p hp).2.1
theorem pS.fm (S : pS σ s R D cv dn en) {p : Nat} (hp : p < D.n) : pC σ (R.fm p) (D.fm p) ∧ pcol (D.fm p) := (S.2.2.2.1 p hp).2.2
theorem pS.lrow (S : pS σ s R D cv dn en) : ∃ g : Nat → Option Nat, xRd σ R.lr = some (prow 6 D.n g) ∧ ∀ p, p < D.n → g p = some (R.lm p) := by
  obtain ⟨h0, g, h1, h2⟩ := S.2.1
  exact ⟨g, by rw [yrd_lt h0, h1], h2⟩
theorem pS.frow (S : pS σ s R D cv dn en) : ∃ g : Nat → Option Nat, xRd σ R.fr = some (prow 5 D.f g) ∧ ∀ q, q < D.f → g q = some (R.fg q) := by
  obtain ⟨h0, g, h1, h2⟩ := S.2.2.2.2.1
  exact ⟨g, by rw [yrd_lt h0, h1], h2⟩
theorem pS.fg (S : pS σ s R D cv dn en) {q : Nat} (hq : q < D.f) : R.fg q < 1000000 ∧ ∃ c : Nat → Int32, xRd σ (R.fg q) = some (pints 2 c) ∧ (c 0 = yI (D.fp q) ∧ c 1 = D.fl q) := by
  obtain ⟨h0, c, h1, h2⟩ := S.2.2.2.2.2 q hq
  exact ⟨h0, c, by rw [yrd_lt h0, h1], h2⟩
theorem l_136 (S : pS σ s R D cv dn en) (hD : yDok D) {p : Nat} (hp : p < 1000) : ∀ m g a, g + m = D.f → Ga d 136 4 [some (.ref s), some (.int (yI p)), some (.int (yI a)), some (.int (yI g))] [] σ (.inl (some (.int (yI (yfold (fun g a => if D.fp g ≤ p then g else a) m g a))))) σ := by
  obtain ⟨gg, e1, e2⟩ := S.frow
  have hf6 := hD.f6
  intro m
  induction m with
  | zero =>
    intro g a hg Q
    have h1 : yI D.f ≤ yI g := (yI_le (by omega) (by omega)).mpr (by omega)
    rw [s_136_4]
    simp only [s_136_0, s_136_1, s_136_2, s_136_3, s_136_5, s_136_6, s_136_7, s_136_8, s_136_9, s_136_10, s_136_11, s_136_12, s_136_13, s_136_14, s_136_15, s_136_16, s_136_17, s_136_18, s_136_19, s_136_20, s_136_21, s_136_22, S.ob, e1, hln_r S.fr0 (show 4 ≤ 5 ∧ 5 ≤ 8 by decide), h1, if_true, yfold, hgf_s, hsel_0, hsel_1, hsel_2, hsel_3, hsel_4, hsel_5, hsel_6, hsel_7, hsel_8, hset_0, hset_1, hset_2, hset_3, hset_4, hset_5, hset_6, hset_7, hset_8, hpf_s, hcl_s, hai_s, hpi_0, hpi_1, hln_0, hln_1, List.length_cons, List.length_nil, xwr_1, xwr_2, xnew_1, xnew_n, xnew_s, xnew_z, Nat.reduceLT, ite_true, and_self, hp_8_0, hp_8_1, hn_8_1, hp_8_2, hn_8_2, hp_9_0, hp_9_1, hp_9_2, hp_9_3, hp_9_4, hp_9_5, hn_9_5, hp_9_6, hn_9_6, hp_9_7, hn_9_7, hp_10_0, hp_10_1, hp_10_2, hn_10_2, hp_10_3, hn_10_3, hp_11_0, hp_12_0, hn_12_0, hp_12_1, hp_12_2, hp_12_3, hp_12_4, hp_12_5, hn_12_5, hp_12_6, hn_12_6, hp_12_7, hp_12_8, hp_13_0, hn_13_0, hp_13_1, hp_13_2, hp_13_3, hp_14_0, hn_14_0, hp_14_1, hp_14_2, hp_14_3, xdef_8, xdef_9, xdef_10, xdef_11, xdef_12, xdef_13, xdef_14, Gk_v, Gk_n, xcat_nil, xcat_i, xcat_r, xcat_l, xcat_d, Nat.zero_le, Nat.reduceAdd, Nat.reduceLeDiff, true_and, and_true, ykl_i, ykl_r, ykl_n, ykl_l]
  | succ m ih =>
    intro g a hg Q
    have h1 : ¬ yI D.f ≤ yI g := fun h => absurd ((yI_le (by omega) (by omega)).mp h) (by omega)
    have h2 : yix (yI g) D.f := yix_I (by omega) (by omega)
    have h3 : (yI g).toNatClampNeg = g := yI_clamp (by omega)
    have h4 : yI g + 1 = yI (g + 1) := yI_add
    obtain ⟨f0, c, f1, f2, -⟩ := S.fg (q := g) (by omega)
    have hfp := hD.fpn g (by omega)
    have hn40 := hD.n40
    have h5 : yI p < yI (D.fp g) ↔ ¬ D.fp g ≤ p := by rw [yI_lt (by omega) (by omega)]; omega
    rw [s_136_4]
    simp only [s_136_0, s_136_1, s_136_2, s_136_3, s_136_5, s_136_6, s_136_7, s_136_8, s_136_9, s_136_10, s_136_11, s_136_12, s_136_13, s_136_14, s_136_15, s_136_16, s_136_17, s_136_18, s_136_19, s_136_20, s_136_21, s_136_22, S.ob, e1, e2 g (by omega), hln_r S.fr0 (show 4 ≤ 5 ∧ 5 ≤ 8 by decide), haa_t S.fr0 (show 4 ≤ 5 ∧ 5 ≤ 8 by decide), h1, h2, h3, h4, h5, hop_s, f0, f1, f2, yix2_0, ycl_0, if_false, yfold, hgf_s, hsel_0, hsel_1, hsel_2, hsel_3, hsel_4, hsel_5, hsel_6, hsel_7, hsel_8, hset_0, hset_1, hset_2, hset_3, hset_4, hset_5, hset_6, hset_7, hset_8, hpf_s, hcl_s, hai_s, hpi_0, hpi_1, hln_0, hln_1, List.length_cons, List.length_nil, xwr_1, xwr_2, xnew_1, xnew_n, xnew_s, xnew_z, Nat.reduceLT, ite_true, and_self, hp_8_0, hp_8_1, hn_8_1, hp_8_2, hn_8_2, hp_9_0, hp_9_1, hp_9_2, hp_9_3, hp_9_4, hp_9_5, hn_9_5, hp_9_6, hn_9_6, hp_9_7, hn_9_7, hp_10_0, hp_10_1, hp_10_2, hn_10_2, hp_10_3, hn_10_3, hp_11_0, hp_12_0, hn_12_0, hp_12_1, hp_12_2, hp_12_3, hp_12_4, hp_12_5, hn_12_5, hp_12_6, hn_12_6, hp_12_7, hp_12_8, hp_13_0, hn_13_0, hp_13_1, hp_13_2, hp_13_3, hp_14_0, hn_14_0, hp_14_1, hp_14_2, hp_14_3, xdef_8, xdef_9, xdef_10, xdef_11, xdef_12, xdef_13, xdef_14, Gk_v, Gk_n, xcat_nil, xcat_i, xcat_r, xcat_l, xcat_d, Nat.zero_le, Nat.reduceAdd, Nat.reduceLeDiff, true_and, and_true, ykl_i, ykl_r, ykl_n, ykl_l]
    by_cases hc : D.fp g ≤ p
    · simp only [hc, not_true_eq_false, if_false, if_true]
      exact ih (g + 1) g (by omega) Q
    · simp only [hc, not_false_eq_true, if_false, if_true]
      exact ih (g + 1) a (by omega) Q
theorem m_136 (S : pS σ s R D cv dn en) (hD : yDok D) {p : Nat} (hp : p < 1000) : Ra d 136 [.ref s, .int (yI p)] σ (.inl (some (.int (yI (yfeed D p))))) σ := by
  intro Q
  have hf1 := hD.f1
  have e : yfold (fun g a => if D.fp g ≤ p then g else a) D.f 0 0 = yfeed D p := by
    obtain ⟨k, hk⟩ : ∃ k, D.f = k + 1 := ⟨D.f - 1, by omega⟩
    unfold yfeed
    rw [hk]
    show yfold (fun g a => if D.fp g ≤ p then g else a) k 1 (if D.fp 0 ≤ p then 0 else 0) = _
    simp
  have h := l_136 (d := d) S hD hp D.f 0 0 (by omega) Q
  rw [e] at h
  show G d 136 0 [some (.ref s), some (.int (yI p)), none, none] [] σ Q ↔ _
  simp only [s_136_0, s_136_1, s_136_2, s_136_3, Gk_v, Gk_n, xcat_nil, xcat_i, xcat_r, xcat_l, xcat_d, Nat.zero_le, Nat.reduceAdd, Nat.reduceLeDiff, true_and, and_true, ykl_i, ykl_r, ykl_n, ykl_l]
  exact h
theorem m_137 (S : pS σ s R D cv dn en) {a : Nat} {x : Int32} (h : pC σ a x) : Ra d 137 [.ref s, .ref a] σ (.inl (some (.int (ycur D.un x)))) σ := by
  intro Q
  obtain ⟨ha, c, h0, h1, h2, h3⟩ := h
  have hr : xRd σ a = some (.inl (0, (3, .inl c))) := by rw [yrd_lt ha, h0]
  have h765 : ¬ (765 : Int32) = 0 := by decide
  have e : ycur D.un x = (yI (yb8 x 16) + yI (yb8 x 8) + yI (yb8 x 0)) * D.un / 765 := by
    unfold ycur
    rw [(yb8_eq x 16).1, (yb8_eq x 8).1, yb8_0]
  rw [e]
  show G d 137 0 [some (.ref s), some (.ref a)] [] σ Q ↔ _
  simp only [s_137_0, s_137_1, s_137_2, s_137_3, s_137_4, s_137_5, s_137_6, s_137_7, s_137_8, s_137_9, s_137_10, s_137_11, s_137_12, s_137_13, s_137_14, s_137_15, s_137_16, S.ob, hr, h1, h2, h3, yix3_0, yix3_1, yix3_2, ycl_0, ycl_1, ycl_2, h765, not_false_eq_true, hgf_s, hsel_0, hsel_1, hsel_2, hsel_3, hsel_4, hsel_5, hsel_6, hsel_7, hsel_8, hset_0, hset_1, hset_2, hset_3, hset_4, hset_5, hset_6, hset_7, hset_8, hpf_s, hcl_s, hai_s, hpi_0, hpi_1, hln_0, hln_1, List.length_cons, List.length_nil, xwr_1, xwr_2, xnew_1, xnew_n, xnew_s, xnew_z, Nat.reduceLT, ite_true, and_self, hp_8_0, hp_8_1, hn_8_1, hp_8_2, hn_8_2, hp_9_0, hp_9_1, hp_9_2, hp_9_3, hp_9_4, hp_9_5, hn_9_5, hp_9_6, hn_9_6, hp_9_7, hn_9_7, hp_10_0, hp_10_1, hp_10_2, hn_10_2, hp_10_3, hn_10_3, hp_11_0, hp_12_0, hn_12_0, hp_12_1, hp_12_2, hp_12_3, hp_12_4, hp_12_5, hn_12_5, hp_12_6, hn_12_6, hp_12_7, hp_12_8, hp_13_0, hn_13_0, hp_13_1, hp_13_2, hp_13_3, hp_14_0, hn_14_0, hp_14_1, hp_14_2, hp_14_3, xdef_8, xdef_9, xdef_10, xdef_11, xdef_12, xdef_13, xdef_14, Gk_v, Gk_n, xcat_nil, xcat_i, xcat_r, xcat_l, xcat_d, Nat.zero_le, Nat.reduceAdd, Nat.reduceLeDiff, true_and, and_true, ykl_i, ykl_r, ykl_n, ykl_l]
end
