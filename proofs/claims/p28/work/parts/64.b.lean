/-! ===== the law's own: what stays, lamps ===== -/
/-- what a piece of the law's own code leaves: places of P may change, at most c cells and s slots come -/
abbrev pF (P : Nat → Prop) (c s : Nat) (σ τ : xS) : Prop := (∀ b, b < σ.2.1.1 → ¬ P b → τ.1 b = σ.1 b) ∧ ((∀ b, τ.2.1.1 ≤ b → τ.1 b = σ.1 b) ∧ ((σ.2.1.1 ≤ τ.2.1.1 ∧ τ.2.1.1 ≤ σ.2.1.1 + c) ∧ (τ.2.1.2 ≤ σ.2.1.2 + s ∧ τ.2.2 = σ.2.2)))
theorem pF.rfl' {P : Nat → Prop} {c s : Nat} {σ : xS} : pF P c s σ σ := ⟨fun _ _ _ => rfl, fun _ _ => rfl, ⟨Nat.le_refl _, Nat.le_add_right _ _⟩, Nat.le_add_right _ _, rfl⟩
theorem pF.trans {P Q P' : Nat → Prop} {c s c' s' : Nat} {σ τ υ : xS} (h : pF P c s σ τ) (g : pF Q c' s' τ υ) (hp : ∀ b, b < σ.2.1.1 → P b ∨ Q b → P' b) : pF P' (c + c') (s + s') σ υ := by
  obtain ⟨h1, h2, ⟨h3, h4⟩, h5, h6⟩ := h
  obtain ⟨g1, g2, ⟨g3, g4⟩, g5, g6⟩ := g
  refine ⟨fun b hb hn => ?_, fun b hb => ?_, ⟨by omega, by omega⟩, by omega, g6.trans h6⟩
  · rw [g1 b (by omega) (fun q => hn (hp b hb (Or.inr q))), h1 b hb (fun q => hn (hp b hb (Or.inl q)))]
  · rw [g2 b hb, h2 b (by omega)]
theorem pF.mono {P P' : Nat → Prop} {c s c' s' : Nat} {σ τ : xS} (h : pF P c s σ τ) (hp : ∀ b, b < σ.2.1.1 → P b → P' b) (hc : c ≤ c') (hs : s ≤ s') : pF P' c' s' σ τ := by
  obtain ⟨h1, h2, ⟨h3, h4⟩, h5, h6⟩ := h
  exact ⟨fun b hb hn => h1 b hb (fun q => hn (hp b hb q)), h2, ⟨h3, by omega⟩, by omega, h6⟩
theorem pF_wr {P : Nat → Prop} {c s : Nat} {σ : xS} {a : Nat} {e : xE} (ha : a < σ.2.1.1) (hp : P a) : pF P c s σ (xwr σ a e) := by
  refine ⟨fun b hb hn => ?_, fun b hb => ?_, ⟨Nat.le_refl _, Nat.le_add_right _ _⟩, Nat.le_add_right _ _, rfl⟩
  · rw [xwr_1, if_neg (fun q => hn (by rw [q]; exact hp))]
  · have hb' : σ.2.1.1 ≤ b := hb
    rw [xwr_1, if_neg (by omega)]
theorem pF_new {P : Nat → Prop} {σ : xS} {e : xE} {n : Nat} : pF P 1 n σ (xnew σ e n) := by
  refine ⟨fun b hb hn => ?_, fun b hb => ?_, ⟨by rw [xnew_n]; omega, by rw [xnew_n]; omega⟩, by rw [xnew_s]; omega, rfl⟩
  · rw [xnew_1, if_neg (by omega)]
  · rw [xnew_n] at hb
    rw [xnew_1, if_neg (by omega)]
theorem upd_00 {j : Nat} : upd (fun _ => (0 : Int32)) j 0 = fun _ => 0 := by
  funext z
  unfold upd
  split <;> rfl
theorem xwr_new {σ : xS} {e : xE} {n : Nat} : xwr (xnew σ e n) σ.2.1.1 e = xnew σ e n := by
  refine Prod.ext (funext fun b => ?_) rfl
  show (if b = σ.2.1.1 then some e else (if b = σ.2.1.1 then some e else σ.1 b)) = (if b = σ.2.1.1 then some e else σ.1 b)
  split <;> rfl
theorem xRd_new {σ : xS} {e : xE} {n : Nat} (h : σ.2.1.1 < 1000000) : xRd (xnew σ e n) σ.2.1.1 = some e := by
  rw [yrd_lt h, xnew_1, if_pos rfl]
/-- a row of three zeros -/
abbrev pz3 : xE := .inl (0, (3, .inl (fun _ => 0)))
/-- a lamp's cell -/
abbrev plamp (k pd bp fr og : Int32) (t u f : Nat) : xE := .inr (9, [.int k, .int pd, .int bp, .int fr, .int og, .ref t, .ref u, .ref f])
section
variable {d : Nat} {σ : xS}
theorem m_125 {a : Nat} (ha : a < 1000000) {k pd fr og : Int32} {bp : Bool} {t u f : Nat} (h : σ.1 a = some (plamp k pd (yb bp) fr og t u f)) : Ra d 125 [.ref a] σ (.inl (some (.int (yb ((k == 0 || k == 3) && !bp))))) σ := by
  intro Q
  have hr : xRd σ a = some (plamp k pd (yb bp) fr og t u f) := by rw [yrd_lt ha, h]
  show G d 125 0 [some (.ref a)] [] σ Q ↔ _
  simp only [s_125_0, s_125_1, s_125_2, s_125_3, s_125_4, s_125_5, s_125_6, s_125_7, s_125_8, s_125_9, s_125_10, s_125_11, s_125_12, s_125_13, hr, plamp, ne_eq, hgf_s, hsel_0, hsel_1, hsel_2, hsel_3, hsel_4, hsel_5, hsel_6, hsel_7, hsel_8, hset_0, hset_1, hset_2, hset_3, hset_4, hset_5, hset_6, hset_7, hset_8, hpf_s, hcl_s, hai_s, hpi_0, hpi_1, hln_0, hln_1, List.length_cons, List.length_nil, xwr_1, xwr_2, xnew_1, xnew_n, xnew_s, xnew_z, Nat.reduceLT, ite_true, and_self, hp_8_0, hp_8_1, hn_8_1, hp_8_2, hn_8_2, hp_9_0, hp_9_1, hp_9_2, hp_9_3, hp_9_4, hp_9_5, hn_9_5, hp_9_6, hn_9_6, hp_9_7, hn_9_7, hp_10_0, hp_10_1, hp_10_2, hn_10_2, hp_10_3, hn_10_3, hp_11_0, hp_12_0, hn_12_0, hp_12_1, hp_12_2, hp_12_3, hp_12_4, hp_12_5, hn_12_5, hp_12_6, hn_12_6, hp_12_7, hp_12_8, hp_13_0, hn_13_0, hp_13_1, hp_13_2, hp_13_3, hp_14_0, hn_14_0, hp_14_1, hp_14_2, hp_14_3, xdef_8, xdef_9, xdef_10, xdef_11, xdef_12, xdef_13, xdef_14, Gk_v, Gk_n, xcat_nil, xcat_i, xcat_r, xcat_l, xcat_d, Nat.zero_le, Nat.reduceAdd, Nat.reduceLeDiff, true_and, and_true, ykl_i, ykl_r, ykl_n, ykl_l]
  cases bp
  · by_cases k0 : k = 0
    · simp [k0, yb, ybo_1]
    · by_cases k3 : k = 3
      · subst k3
        simp [yb, ybo_1]
      · simp [k0, k3, yb, ybo_0]
  · simp [yb, ybo_0]
end
