/-! ===== the feed of a pixel, on both sides ===== -/
theorem yfp_mono {D : yD} (h : yDok D) : ∀ b a, a < b → b < D.f → D.fp a < D.fp b := by
  intro b
  induction b with
  | zero => intro a ha; omega
  | succ b ih =>
    intro a ha hb
    have h1 := h.fpm b hb
    by_cases e : a = b
    · subst e
      exact h1
    · have := ih a (by omega) (by omega)
      omega
theorem yfeed_inv {D : yD} (h : yDok D) (p : Nat) : ∀ n i a, i + n = D.f → a < i → D.fp a ≤ p → (∀ g, a < g → g < i → p < D.fp g) → D.fp (yfold (fun g a => if D.fp g ≤ p then g else a) n i a) ≤ p ∧ (∀ g, yfold (fun g a => if D.fp g ≤ p then g else a) n i a < g → g < D.f → p < D.fp g) := by
  intro n
  induction n with
  | zero =>
    intro i a hi ha h1 h2
    exact ⟨h1, fun g hg1 hg2 => h2 g hg1 (by omega)⟩
  | succ n ih =>
    intro i a hi ha h1 h2
    simp only [yfold]
    by_cases hc : D.fp i ≤ p
    · rw [if_pos hc]
      exact ih (i + 1) i (by omega) (by omega) hc (fun g hg1 hg2 => by omega)
    · rw [if_neg hc]
      refine ih (i + 1) a (by omega) (by omega) h1 (fun g hg1 hg2 => ?_)
      by_cases e : g = i
      · subst e
        omega
      · exact h2 g hg1 (by omega)
theorem yfeed_spec {D : yD} (h : yDok D) {p : Nat} (hp : p < D.n) : D.fp (yfeed D p) ≤ p ∧ p ≤ ylast D (yfeed D p) := by
  have hf1 := h.f1
  have h0 := yfeed_inv h p (D.f - 1) 1 0 (by omega) (by omega) (by rw [h.fp0]; omega) (fun g hg1 hg2 => by omega)
  refine ⟨h0.1, ?_⟩
  unfold ylast
  split
  · rename_i h1
    have := h0.2 (yfeed D p + 1) (Nat.lt_succ_self _) h1
    omega
  · omega
theorem ylast_lt_feed {D : yD} (h : yDok D) {p g : Nat} (hp : p < D.n) (hg : g < yfeed D p) : ylast D g < p := by
  have h1 := yfeed_lt h p
  have h2 := (yfeed_spec h hp).1
  have h3 := h.fpm g (by omega)
  unfold ylast
  rw [if_pos (by omega)]
  by_cases e : g + 1 = yfeed D p
  · rw [e] at h3 ⊢
    omega
  · have := yfp_mono h (yfeed D p) (g + 1) (by omega) h1
    omega
theorem yfeed_of {D : yD} (h : yDok D) {p g : Nat} (hg : g < D.f) (h1 : D.fp g ≤ p) (h2 : p ≤ ylast D g) : yfeed D p = g := by
  have hp : p < D.n := by
    have := ylast_lt h hg
    omega
  have h3 := yfeed_spec h hp
  have h4 := yfeed_lt h p
  rcases Nat.lt_trichotomy (yfeed D p) g with hh | hh | hh
  · exfalso
    have h5 := yfp_mono h g (yfeed D p) hh hg
    have h6 : D.fp (yfeed D p + 1) ≤ D.fp g := by
      by_cases e : yfeed D p + 1 = g
      · rw [e]
        exact Nat.le_refl _
      · have := yfp_mono h g (yfeed D p + 1) (by omega) hg
        omega
    have h7 := h3.2
    have h8 := h.fpm (yfeed D p) (by omega)
    unfold ylast at h7
    rw [if_pos (by omega)] at h7
    omega
  · exact hh
  · have := ylast_lt_feed h hp hh
    omega
section
variable {d : Nat} {t : yT} {D : yD} {Q : xR → xS → Prop}
theorem l_166 (M : yM (t.A 162) D) {p : Nat} (hp : p < D.n) : ∀ n g, g + n = yfeed D p → (G (d + 2) 166 2 [some (.ref 160), some (.int (yI p)), some (.int (yI g))] [] (yemb t) Q ↔ Q (.inl (some (.int (yI (yfeed D p))))) (yemb t)) := by
  have hn40 := M.ok.n40
  have hfe := yfeed_lt M.ok p
  have hsp := yfeed_spec M.ok hp
  intro n
  induction n with
  | zero =>
    intro g hg
    have hl := ylast_lt M.ok hfe
    have e : g = yfeed D p := by omega
    subst e
    have h1 : yI p ≤ yI (ylast D (yfeed D p)) := (yI_le (by omega) (by omega)).mpr hsp.2
    rw [s_166_2]
    simp only [s_166_0, s_166_1, s_166_3, s_166_4, s_166_5, s_166_6, s_166_7, s_166_8, s_166_9, s_166_10, yO_160, m_165 M hfe, Gk_v, xcat_nil, xcat_i, xcat_r, Nat.reduceAdd, Nat.reduceLeDiff, true_and, h1, if_true]
  | succ n ih =>
    intro g hg
    have hl := ylast_lt_feed M.ok hp (show g < yfeed D p by omega)
    have h1 : ¬ yI p ≤ yI (ylast D g) := fun h => absurd ((yI_le (by omega) (by omega)).mp h) (by omega)
    have h4 : yI g + 1 = yI (g + 1) := yI_add
    rw [s_166_2]
    simp only [s_166_0, s_166_1, s_166_3, s_166_4, s_166_5, s_166_6, s_166_7, s_166_8, s_166_9, s_166_10, yO_160, m_165 M (show g < D.f by omega), Gk_v, xcat_nil, xcat_i, xcat_r, Nat.reduceAdd, Nat.reduceLeDiff, true_and, h1, if_false, ykl_i, h4, ih (g + 1) (by omega)]
theorem m_166 (M : yM (t.A 162) D) {p : Nat} (hp : p < D.n) : Cl (d + 2) 166 [.ref 160, .int (yI p)] (yemb t) Q ↔ Q (.inl (some (.int (yI (yfeed D p))))) (yemb t) := by
  show G (d + 2) 166 0 [some (.ref 160), some (.int (yI p)), none] [] (yemb t) Q ↔ _
  simp only [s_166_0, s_166_1, ykl_i]
  exact l_166 M hp (yfeed D p) 0 (Nat.zero_add _)
end
/-- the current, pixel by pixel -/
def yflat (D : yD) : Int32 := yfold (fun p a => a + ycur D.un (yshown D p)) D.n 0 0
theorem yfold_add {α : Type} {h : Nat → α → α} : ∀ (m n i : Nat) (a : α), yfold h (m + n) i a = yfold h n (i + m) (yfold h m i a) := by
  intro m
  induction m with
  | zero => intro n i a; simp [yfold]
  | succ m ih =>
    intro n i a
    rw [show m + 1 + n = (m + n) + 1 by omega]
    simp only [yfold]
    rw [ih n (i + 1) (h i a), show i + 1 + m = i + (m + 1) by omega]
theorem ycur0 {un : Int32} : ycur un 0 = 0 := by
  unfold ycur
  rw [show ((((0 : Int32) >>> ((16 : Int32) &&& 31)) &&& 255) + (((0 : Int32) >>> ((8 : Int32) &&& 31)) &&& 255) + ((0 : Int32) &&& 255)) = 0 from by decide, Int32.zero_mul]
  decide
theorem yflow_flat {D : yD} (h : yDok D) {g : Nat} (hg : g < D.f) (a : Int32) : yflow D g a = yfold (fun p a => a + ycur D.un (yshown D p)) (ylast D g + 1 - D.fp g) (D.fp g) a := by
  unfold yflow
  have hl := yfp_last h hg
  apply yfold_congr
  intro p b h1 h2
  have hf := yfeed_of h hg h1 (by omega)
  unfold yshown
  rw [hf]
  cases hb : ylit D p
  · simp [ycur0]
  · simp
theorem ycurrent_flat {D : yD} (h : yDok D) : ycurrent D = yflat D := by
  have key : ∀ n g, g + n = D.f → 1 ≤ n → ∀ a, yfold (fun g a => yflow D g a) n g a = yfold (fun p a => a + ycur D.un (yshown D p)) (D.n - D.fp g) (D.fp g) a := by
    intro n
    induction n with
    | zero => intro g _ h1; omega
    | succ n ih =>
      intro g hg _ a
      have hgf : g < D.f := by omega
      have hl := yfp_last h hgf
      have hln := ylast_lt h hgf
      simp only [yfold]
      rw [yflow_flat h hgf]
      by_cases hn : n = 0
      · subst hn
        have : ylast D g = D.n - 1 := by
          unfold ylast
          rw [if_neg (by omega)]
        have e : ylast D g + 1 - D.fp g = D.n - D.fp g := by omega
        rw [e]
        rfl
      · have hl2 : ylast D g = D.fp (g + 1) - 1 := by
          unfold ylast
          rw [if_pos (by omega)]
        have hm := h.fpm g (by omega)
        have hn2 := h.fpn (g + 1) (by omega)
        rw [ih (g + 1) (by omega) (by omega)]
        have e1 : ylast D g + 1 - D.fp g = D.fp (g + 1) - D.fp g := by omega
        have e2 : D.n - D.fp g = (D.fp (g + 1) - D.fp g) + (D.n - D.fp (g + 1)) := by omega
        rw [e1, e2, yfold_add, show D.fp g + (D.fp (g + 1) - D.fp g) = D.fp (g + 1) by omega]
  unfold ycurrent yflat
  rw [key D.f 0 (Nat.zero_add _) h.f1 0, h.fp0]
  rfl
