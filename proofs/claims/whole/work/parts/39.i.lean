/-! ===== the next pixel that gets its color sent ===== -/
section
variable {d : Nat} {t : yT} {D : yD} {Q : xR → xS → Prop}
theorem yb_1 {b : Bool} {α : Sort _} {x y : α} : (if yb b ≠ 1 then x else y) = if b = true then y else x := by
  cases b <;> rfl
theorem l_178 (M : yM (t.A 162) D) : ∀ n p (l1 : Option Value), p + n = D.n → (G (d + 2) 178 4 [some (.ref 160), l1, some (.int (yI p))] [] (yemb t) Q ↔ Q (.inl (some (.int (yI (ynx D.bp n p))))) (yemb t)) := by
  have hn40 := M.ok.n40
  intro n
  induction n with
  | zero =>
    intro p l1 hp
    have h1 : yI D.n ≤ yI p := (yI_le (by omega) (by omega)).mpr (by omega)
    rw [s_178_4]
    simp only [s_178_0, s_178_1, s_178_2, s_178_3, s_178_5, s_178_6, s_178_7, s_178_8, s_178_9, s_178_10, s_178_11, s_178_12, s_178_13, s_178_14, s_178_15, s_178_16, s_178_17, s_178_18, s_178_19, yO_160, yA_162, yn_162, yix0, ycl0, M.n, h1, if_true, true_and, ynx]
  | succ n ih =>
    intro p l1 hp
    have h1 : ¬ yI D.n ≤ yI p := fun h => absurd ((yI_le (by omega) (by omega)).mp h) (by omega)
    have h4 : yI p + 1 = yI (p + 1) := yI_add
    rw [s_178_4]
    cases hb : D.bp p
    · simp only [s_178_0, s_178_1, s_178_2, s_178_3, s_178_5, s_178_6, s_178_7, s_178_8, s_178_9, s_178_10, s_178_11, s_178_12, s_178_13, s_178_14, s_178_15, s_178_16, s_178_17, s_178_18, s_178_19, yO_160, yA_162, yn_162, yix0, ycl0, M.n, h1, if_false, true_and, mo_bp M (show p < 40 by omega), Gk_v, xcat_nil, xcat_i, xcat_r, Nat.zero_le, Nat.reduceAdd, Nat.reduceLeDiff, yb_1, hb, Bool.false_eq_true, ynx]
    · simp only [s_178_0, s_178_1, s_178_2, s_178_3, s_178_5, s_178_6, s_178_7, s_178_8, s_178_9, s_178_10, s_178_11, s_178_12, s_178_13, s_178_14, s_178_15, s_178_16, s_178_17, s_178_18, s_178_19, yO_160, yA_162, yn_162, yix0, ycl0, M.n, h1, if_false, true_and, mo_bp M (show p < 40 by omega), Gk_v, xcat_nil, xcat_i, xcat_r, Nat.zero_le, Nat.reduceAdd, Nat.reduceLeDiff, yb_1, hb, if_true, ynx, h4, ih (p + 1) _ (show p + 1 + n = D.n by omega)]
theorem m_178 (M : yM (t.A 162) D) {i : Int32} {p : Nat} (hi : i + 1 = yI p) (hp : p ≤ D.n) : Cl (d + 2) 178 [.ref 160, .int i] (yemb t) Q ↔ Q (.inl (some (.int (yI (ynx D.bp (D.n - p) p))))) (yemb t) := by
  show G (d + 2) 178 0 [some (.ref 160), some (.int i), none] [] (yemb t) Q ↔ _
  simp only [s_178_0, s_178_1, s_178_2, s_178_3, ykl_i, hi]
  exact l_178 M (D.n - p) p _ (by omega)
end
/-! ===== the row goes along: both sides ===== -/
def ygo : Nat → Nat → Nat → yD → yD
  | 0, _, _, D => D
  | m + 1, p, f, D => if D.bp p = true then ygo m (p + 1) f D else if f < D.n then (if D.kd p = 1 then D.sfr (upd D.fr p (D.fr p + 1)) else ygo m (p + 1) (if ystut D p = true then f else ynx D.bp (D.n - (f + 1)) (f + 1)) (ytkS D p (D.du f) (yI f))) else D
theorem ygo_end {f : Nat} : ∀ m p (D : yD), D.n ≤ f → ygo m p f D = D := by
  intro m
  induction m with
  | zero => intro p D _; rfl
  | succ m ih =>
    intro p D h
    rw [ygo]
    split
    · exact ih (p + 1) D h
    · rw [if_neg (by omega)]
theorem ynx_ge {b : Nat → Bool} : ∀ n p, p ≤ ynx b n p := by
  intro n
  induction n with
  | zero => intro p; exact Nat.le_refl _
  | succ n ih =>
    intro p
    simp only [ynx]
    split
    · have := ih (p + 1)
      omega
    · exact Nat.le_refl _
theorem ynx_no {b : Nat → Bool} : ∀ n p, ynx b n p < p + n → b (ynx b n p) = false := by
  intro n
  induction n with
  | zero =>
    intro p h
    simp only [ynx] at h
    omega
  | succ n ih =>
    intro p h
    simp only [ynx] at h ⊢
    split
    · rename_i hb
      rw [if_pos hb] at h
      exact ih (p + 1) (by omega)
    · rename_i hb
      exact Bool.eq_false_iff.mpr hb
theorem ygo_skip {f : Nat} : ∀ m p (D : yD), ygo m p f D = ygo (p + m - ynx D.bp m p) (ynx D.bp m p) f D := by
  intro m
  induction m with
  | zero => intro p D; simp [ynx, ygo]
  | succ m ih =>
    intro p D
    by_cases hb : D.bp p = true
    · have h := ih (p + 1) D
      simp only [ynx, hb, if_true]
      rw [show p + (m + 1) = p + 1 + m by omega, ← h, ygo, if_pos hb]
    · simp only [ynx, hb, if_false, Bool.false_eq_true]
      rw [show p + (m + 1) - p = m + 1 by omega]
theorem ytk_out {D0 : yD} {b : Nat → Bool} : ∀ m p f r (D : yD), D0.n ≤ f → ytk (yrw D0 b m p f r) m p D = D := by
  intro m
  induction m with
  | zero => intro p f r D _; rfl
  | succ m ih =>
    intro p f r D h
    have h0 : yrw D0 b (m + 1) p f r p = -1 := by
      simp only [yrw]
      rw [if_neg (by omega), yrw_lo _ _ _ _ _ (by omega), yupd_same]
    rw [ytk, h0, if_pos (by decide)]
    simp only [yrw]
    rw [if_neg (by omega)]
    exact ih (p + 1) f _ D h
/-- of two strips: what the row's way depends on is the same, frames from p on -/
abbrev yag (D0 D : yD) (p : Nat) : Prop := D.n = D0.n ∧ (D.bp = D0.bp ∧ (D.kd = D0.kd ∧ (D.pd = D0.pd ∧ (D.du = D0.du ∧ ∀ q, p ≤ q → D.fr q = D0.fr q))))
theorem ygo_eq {D0 : yD} (hn : D0.n ≤ 40) : ∀ m p f r (D : yD), yag D0 D p → p + m = D0.n → ytk (yrw D0 D0.bp m p f r) m p D = ygo m p f D := by
  intro m
  induction m with
  | zero => intro p f r D _ _; rfl
  | succ m ih =>
    intro p f r D hA hp
    obtain ⟨a1, a2, a3, a4, a5, a6⟩ := hA
    rw [ygo, a2, a1]
    by_cases hf : f < D0.n
    · cases hb : D0.bp p
      · have h0 : yrw D0 D0.bp (m + 1) p f r p = yI f := by
          simp only [yrw, hf, if_true, hb, Bool.false_eq_true, if_false]
          rw [yrw_lo _ _ _ _ _ (by omega), yupd_same]
        have h1 : ¬ yI f < 0 := yI_nneg (by omega)
        have h2 : (yI f).toNatClampNeg = f := yI_clamp (by omega)
        rw [if_neg (by decide), if_pos hf, ytk, h0, if_neg h1, h2]
        by_cases hk : D.kd p = 1
        · rw [if_pos hk, if_pos hk]
          have hk0 : D0.kd p = 1 := by rw [← a3]; exact hk
          simp only [yrw, hf, if_true, hb, Bool.false_eq_true, if_false, ybeg, hk0]
          exact ytk_out m (p + 1) D0.n _ _ (Nat.le_refl _)
        · rw [if_neg hk, if_neg hk]
          have hk0 : ¬ D0.kd p = 1 := by rw [← a3]; exact hk
          have hst : ystut D p = ystut D0 p := by
            unfold ystut
            rw [a3, a4, a6 p (Nat.le_refl _)]
          simp only [yrw, hf, if_true, hb, Bool.false_eq_true, if_false, ybeg, hk0]
          rw [hst]
          refine ih (p + 1) _ _ _ ⟨a1, a2, a3, a4, a5, fun q hq => ?_⟩ (by omega)
          rw [ytkS_fr, yupd_ne (by omega)]
          exact a6 q (by omega)
      · have h0 : yrw D0 D0.bp (m + 1) p f r p = -1 := by
          simp only [yrw, hf, if_true, hb]
          rw [yrw_lo _ _ _ _ _ (by omega), yupd_same]
        rw [if_pos rfl, ytk, h0, if_pos (by decide)]
        simp only [yrw, hf, if_true, hb]
        exact ih (p + 1) f _ D ⟨a1, a2, a3, a4, a5, fun q hq => a6 q (by omega)⟩ (by omega)
    · rw [ytk_out (m + 1) p f r D (by omega), if_neg hf]
      split
      · rw [ygo_end m (p + 1) D (by omega)]
      · rfl
/-- the row goes along once -/
def ypassD (D : yD) : yD := ygo D.n 0 (ynx D.bp D.n 0) D
theorem ytaken_go {D : yD} (h : yDok D) : ytaken D = ypassD D := ygo_eq h.n40 D.n 0 _ _ D ⟨rfl, rfl, rfl, rfl, rfl, fun _ _ => rfl⟩ (Nat.zero_add _)
theorem ygo_ok : ∀ m p f (D : yD), yDok D → yDok (ygo m p f D) := by
  intro m
  induction m with
  | zero => intro p f D h; exact h
  | succ m ih =>
    intro p f D h
    have h40 := h.n40
    rw [ygo]
    split
    · exact ih _ _ _ h
    · split
      · split
        · exact yDok_sfr h
        · exact ih _ _ _ (yDok_tkS h (by omega))
      · exact h
section
variable {d : Nat}
theorem yirem {x y : Int32} (hy : ¬ y = 0) : (x - x / y * y = 0 ↔ x - x / y * y = 0) := Iff.rfl
theorem l_179 : ∀ m, ∀ p f (t : yT) (D : yD) (l3 : Option Value), p + m = D.n → f ≤ D.n → (p < D.n → D.bp p = false) → yM (t.A 162) D → ∃ u, Ga (d + 4) 179 32 [some (.ref 160), some (.int (yI f)), some (.int (yI D.n)), some (.int (yI p))] [] (yemb t) (.inl none) (yemb u) ∧ (yM (u.A 162) (ygo m p f D) ∧ yFr (fun a => a = 162) t u) := by
  intro m
  induction m using Nat.strongRecOn with
  | _ m ih =>
    intro p f t D l3 hp hf hb M
    have hn40 := M.ok.n40
    cases m with
    | zero =>
      have h1 : yI D.n ≤ yI p := (yI_le (by omega) (by omega)).mpr (by omega)
      refine ⟨t, fun Q => ?_, M, yFr.rfl'⟩
      rw [s_179_32]
      simp only [s_179_0, s_179_1, s_179_2, s_179_3, s_179_4, s_179_5, s_179_6, s_179_7, s_179_8, s_179_9, s_179_10, s_179_11, s_179_12, s_179_13, s_179_14, s_179_15, s_179_16, s_179_17, s_179_18, s_179_19, s_179_20, s_179_21, s_179_22, s_179_23, s_179_24, s_179_25, s_179_26, s_179_27, s_179_28, s_179_29, s_179_30, s_179_31, s_179_33, s_179_34, s_179_35, s_179_36, s_179_37, s_179_38, s_179_39, s_179_40, s_179_41, s_179_42, s_179_43, s_179_44, s_179_45, s_179_46, s_179_47, s_179_48, s_179_49, s_179_50, s_179_51, s_179_52, s_179_53, s_179_54, s_179_55, s_179_56, s_179_57, s_179_58, s_179_59, s_179_60, s_179_61, s_179_62, s_179_63, s_179_64, s_179_65, s_179_66, s_179_67, s_179_68, s_179_69, s_179_70, s_179_71, s_179_72, s_179_73, s_179_74, s_179_75, s_179_76, s_179_77, s_179_78, s_179_79, s_179_80, s_179_81, s_179_82, s_179_83, s_179_84, s_179_85, s_179_86, s_179_87, s_179_88, s_179_89, s_179_90, s_179_91, s_179_92, s_179_93, h1, if_true]
    | succ m =>
      have hpn : p < D.n := by omega
      have hb0 := hb hpn
      have h1 : ¬ yI D.n ≤ yI p := fun h => absurd ((yI_le (by omega) (by omega)).mp h) (by omega)
      by_cases hfn : f < D.n
      · have h2 : ¬ yI D.n ≤ yI f := fun h => absurd ((yI_le (by omega) (by omega)).mp h) (by omega)
        have hq : p < 40 := by omega
        have hfq : f < 40 := by omega
        have g0 : ∀ Q', Cl (d + 3) 162 [.ref 160, .int (yI p), .int 3] (yemb t) Q' ↔ Q' (.inl (some (.int (D.fr p)))) (yemb t) := fun Q' => mo_fr M hq
        have M1 : yM ((t.s1 162 (8 + 8 * p + 3) (D.fr p + 1)).A 162) (D.sfr (upd D.fr p (D.fr p + 1))) := ⟨yDok_sfr M.ok, by rw [ys1_upd]; exact yN_sfr M.v hq⟩
        have g1 : ∀ Q', Cl (d + 3) 163 [.ref 160, .int (yI p), .int 3, .int (D.fr p + 1)] (yemb t) Q' ↔ Q' (.inl none) (yemb (t.s1 162 (8 + 8 * p + 3) (D.fr p + 1))) := fun Q' => m_163 (w := 3) hq (by omega)
        have g2 : ∀ Q', Cl (d + 3) 162 [.ref 160, .int (yI p), .int 0] (yemb (t.s1 162 (8 + 8 * p + 3) (D.fr p + 1))) Q' ↔ Q' (.inl (some (.int (D.kd p)))) (yemb (t.s1 162 (8 + 8 * p + 3) (D.fr p + 1))) := fun Q' => mo_kd M1 hq
        by_cases hk : D.kd p = 1
        · refine ⟨t.s1 162 (8 + 8 * p + 3) (D.fr p + 1), fun Q => ?_, ?_, yFr_s1 rfl⟩
          · rw [s_179_32]
            simp only [s_179_0, s_179_1, s_179_2, s_179_3, s_179_4, s_179_5, s_179_6, s_179_7, s_179_8, s_179_9, s_179_10, s_179_11, s_179_12, s_179_13, s_179_14, s_179_15, s_179_16, s_179_17, s_179_18, s_179_19, s_179_20, s_179_21, s_179_22, s_179_23, s_179_24, s_179_25, s_179_26, s_179_27, s_179_28, s_179_29, s_179_30, s_179_31, s_179_33, s_179_34, s_179_35, s_179_36, s_179_37, s_179_38, s_179_39, s_179_40, s_179_41, s_179_42, s_179_43, s_179_44, s_179_45, s_179_46, s_179_47, s_179_48, s_179_49, s_179_50, s_179_51, s_179_52, s_179_53, s_179_54, s_179_55, s_179_56, s_179_57, s_179_58, s_179_59, s_179_60, s_179_61, s_179_62, s_179_63, s_179_64, s_179_65, s_179_66, s_179_67, s_179_68, s_179_69, s_179_70, s_179_71, s_179_72, s_179_73, s_179_74, s_179_75, s_179_76, s_179_77, s_179_78, s_179_79, s_179_80, s_179_81, s_179_82, s_179_83, s_179_84, s_179_85, s_179_86, s_179_87, s_179_88, s_179_89, s_179_90, s_179_91, s_179_92, s_179_93, yO_160, h1, h2, if_false, g0, g1, g2, hk, ne_eq, not_true_eq_false, Gk_v, Gk_n, xcat_nil, xcat_i, xcat_r, xcat_l, xcat_d, Nat.zero_le, Nat.reduceAdd, Nat.reduceLeDiff, true_and, and_true, ykl_i, ykl_r, ykl_n, ykl_l]
          · rw [ygo, hb0, if_neg (by decide), if_pos hfn, if_pos hk]
            exact M1
        · have g3 : ∀ Q', Cl (d + 3) 162 [.ref 160, .int (yI f), .int 5] (yemb (t.s1 162 (8 + 8 * p + 3) (D.fr p + 1))) Q' ↔ Q' (.inl (some (.int (D.du f)))) (yemb (t.s1 162 (8 + 8 * p + 3) (D.fr p + 1))) := fun Q' => mo_du M1 hfq
          have g4 : ∀ Q', Cl (d + 3) 163 [.ref 160, .int (yI p), .int 4, .int (D.du f)] (yemb (t.s1 162 (8 + 8 * p + 3) (D.fr p + 1))) Q' ↔ Q' (.inl none) (yemb ((t.s1 162 (8 + 8 * p + 3) (D.fr p + 1)).s1 162 (8 + 8 * p + 4) (D.du f))) := fun Q' => m_163 (w := 4) hq (by omega)
          have M3 : yM ((((t.s1 162 (8 + 8 * p + 3) (D.fr p + 1)).s1 162 (8 + 8 * p + 4) (D.du f)).s1 162 (8 + 8 * p + 6) (yI f)).A 162) (ytkS D p (D.du f) (yI f)) := ⟨yDok_tkS M.ok hfq, by rw [ys1_upd, ys1_upd, ys1_upd]; exact yN_tkS M.v hq⟩
          have g5 : ∀ Q', Cl (d + 3) 163 [.ref 160, .int (yI p), .int 6, .int (yI f)] (yemb ((t.s1 162 (8 + 8 * p + 3) (D.fr p + 1)).s1 162 (8 + 8 * p + 4) (D.du f))) Q' ↔ Q' (.inl none) (yemb (((t.s1 162 (8 + 8 * p + 3) (D.fr p + 1)).s1 162 (8 + 8 * p + 4) (D.du f)).s1 162 (8 + 8 * p + 6) (yI f))) := fun Q' => m_163 (w := 6) hq (by omega)
          have F3 : yFr (fun a => a = 162) t (((t.s1 162 (8 + 8 * p + 3) (D.fr p + 1)).s1 162 (8 + 8 * p + 4) (D.du f)).s1 162 (8 + 8 * p + 6) (yI f)) :=
            ((yFr_s1 (P := fun a => a = 162) rfl).trans (yFr_s1 (P := fun a => a = 162) rfl) (P'' := fun a => a = 162) (fun a h => by omega)).trans (yFr_s1 (P := fun a => a = 162) rfl) (fun a h => by omega)
          generalize hT : ((t.s1 162 (8 + 8 * p + 3) (D.fr p + 1)).s1 162 (8 + 8 * p + 4) (D.du f)).s1 162 (8 + 8 * p + 6) (yI f) = t3 at *
          generalize hE : ytkS D p (D.du f) (yI f) = E at *
          have en : E.n = D.n := by rw [← hE, ytkS_n]
          have eb : E.bp = D.bp := by rw [← hE, ytkS_bp]
          have g6 : ∀ Q', Cl (d + 3) 162 [.ref 160, .int (yI p), .int 0] (yemb t3) Q' ↔ Q' (.inl (some (.int (D.kd p)))) (yemb t3) := by
            intro Q'
            have h := mo_kd (d := d + 2) (Q := Q') M3 hq
            rw [← hE, ytkS_kd] at h
            exact h
          have g7 : ∀ Q', Cl (d + 3) 162 [.ref 160, .int (yI p), .int 3] (yemb t3) Q' ↔ Q' (.inl (some (.int (D.fr p + 1)))) (yemb t3) := by
            intro Q'
            have h := mo_fr (d := d + 2) (Q := Q') M3 hq
            have e : E.fr p = D.fr p + 1 := by rw [← hE, ytkS_fr]; exact yupd_same
            rw [e] at h
            exact h
          have g8 : ∀ Q', Cl (d + 3) 162 [.ref 160, .int (yI p), .int 2] (yemb t3) Q' ↔ Q' (.inl (some (.int (D.pd p)))) (yemb t3) := by
            intro Q'
            have h := mo_pd (d := d + 2) (Q := Q') M3 hq
            rw [← hE, ytkS_pd] at h
            exact h
          have g9 : ∀ Q', Cl (d + 3) 178 [.ref 160, .int (yI f)] (yemb t3) Q' ↔ Q' (.inl (some (.int (yI (ynx D.bp (D.n - (f + 1)) (f + 1)))))) (yemb t3) := by
            intro Q'
            have h := m_178 (d := d + 1) (Q := Q') M3 (show yI f + 1 = yI (f + 1) from yI_add) (by omega)
            rw [eb, en] at h
            exact h
          have g10 : ∀ Q', Cl (d + 3) 178 [.ref 160, .int (yI p)] (yemb t3) Q' ↔ Q' (.inl (some (.int (yI (ynx D.bp (D.n - (p + 1)) (p + 1)))))) (yemb t3) := by
            intro Q'
            have h := m_178 (d := d + 1) (Q := Q') M3 (show yI p + 1 = yI (p + 1) from yI_add) (by omega)
            rw [eb, en] at h
            exact h
          have hpx := ynx_le (b := D.bp) (D.n - (p + 1)) (p + 1)
          have hpg := ynx_ge (b := D.bp) (D.n - (p + 1)) (p + 1)
          have hfx := ynx_le (b := D.bp) (D.n - (f + 1)) (f + 1)
          have key : ∀ f', f' ≤ D.n → ∃ u, Ga (d + 4) 179 32 [some (.ref 160), some (.int (yI f')), some (.int (yI D.n)), some (.int (yI (ynx D.bp (D.n - (p + 1)) (p + 1))))] [] (yemb t3) (.inl none) (yemb u) ∧ (yM (u.A 162) (ygo m (p + 1) f' E) ∧ yFr (fun a => a = 162) t3 u) := by
            intro f' hf'
            have h := ih (D.n - ynx D.bp (D.n - (p + 1)) (p + 1)) (by omega) (ynx D.bp (D.n - (p + 1)) (p + 1)) f' t3 E l3 (by omega) (by omega) (by
              intro hlt
              rw [eb]
              exact ynx_no _ _ (by omega)) M3
            rw [en] at h
            have hsk := ygo_skip (f := f') m (p + 1) E
            rw [eb, show m = D.n - (p + 1) by omega, show p + 1 + (D.n - (p + 1)) - ynx D.bp (D.n - (p + 1)) (p + 1) = D.n - ynx D.bp (D.n - (p + 1)) (p + 1) by omega] at hsk
            rw [show m = D.n - (p + 1) by omega, hsk]
            exact h
          by_cases hk3 : D.kd p = 3
          · obtain ⟨q, hq2, eq⟩ := M.ok.pdp p hpn hk3
            have hp0 : 0 < D.pd p := by
              rw [eq]
              exact (yI_lt (n := 0) (by omega) (by omega)).mpr (by omega)
            have hpne : ¬ D.pd p = 0 := by
              intro h
              rw [h] at hp0
              exact absurd hp0 (by decide)
            by_cases hr : (D.fr p + 1) - (D.fr p + 1) / D.pd p * D.pd p = 0
            · have hst : ystut D p = true := by
                unfold ystut
                simp [hk3, hp0, hr]
              obtain ⟨u, hu, Mu, Fu⟩ := key f hf
              refine ⟨u, fun Q => ?_, ?_, F3.trans Fu (fun a h => by omega)⟩
              · rw [s_179_32]
                simp only [s_179_0, s_179_1, s_179_2, s_179_3, s_179_4, s_179_5, s_179_6, s_179_7, s_179_8, s_179_9, s_179_10, s_179_11, s_179_12, s_179_13, s_179_14, s_179_15, s_179_16, s_179_17, s_179_18, s_179_19, s_179_20, s_179_21, s_179_22, s_179_23, s_179_24, s_179_25, s_179_26, s_179_27, s_179_28, s_179_29, s_179_30, s_179_31, s_179_33, s_179_34, s_179_35, s_179_36, s_179_37, s_179_38, s_179_39, s_179_40, s_179_41, s_179_42, s_179_43, s_179_44, s_179_45, s_179_46, s_179_47, s_179_48, s_179_49, s_179_50, s_179_51, s_179_52, s_179_53, s_179_54, s_179_55, s_179_56, s_179_57, s_179_58, s_179_59, s_179_60, s_179_61, s_179_62, s_179_63, s_179_64, s_179_65, s_179_66, s_179_67, s_179_68, s_179_69, s_179_70, s_179_71, s_179_72, s_179_73, s_179_74, s_179_75, s_179_76, s_179_77, s_179_78, s_179_79, s_179_80, s_179_81, s_179_82, s_179_83, s_179_84, s_179_85, s_179_86, s_179_87, s_179_88, s_179_89, s_179_90, s_179_91, s_179_92, s_179_93, yO_160, h1, h2, if_false, g0, g1, g2, g3, g4, g5, hT, g6, g7, g8, g10, hk, hk3, hpne, hr, ne_eq, not_true_eq_false, not_false_eq_true, if_true, hu, Gk_v, Gk_n, xcat_nil, xcat_i, xcat_r, xcat_l, xcat_d, Nat.zero_le, Nat.reduceAdd, Nat.reduceLeDiff, true_and, and_true, ykl_i, ykl_r, ykl_n, ykl_l, show ¬ (3 : Int32) = 1 from by decide]
              · rw [ygo, hb0, if_neg (by decide), if_pos hfn, if_neg hk, hst, if_pos rfl, hE]
                exact Mu
            · have hst : ystut D p = false := by
                unfold ystut
                simp [hk3, hp0, hr]
              obtain ⟨u, hu, Mu, Fu⟩ := key (ynx D.bp (D.n - (f + 1)) (f + 1)) (by omega)
              refine ⟨u, fun Q => ?_, ?_, F3.trans Fu (fun a h => by omega)⟩
              · rw [s_179_32]
                simp only [s_179_0, s_179_1, s_179_2, s_179_3, s_179_4, s_179_5, s_179_6, s_179_7, s_179_8, s_179_9, s_179_10, s_179_11, s_179_12, s_179_13, s_179_14, s_179_15, s_179_16, s_179_17, s_179_18, s_179_19, s_179_20, s_179_21, s_179_22, s_179_23, s_179_24, s_179_25, s_179_26, s_179_27, s_179_28, s_179_29, s_179_30, s_179_31, s_179_33, s_179_34, s_179_35, s_179_36, s_179_37, s_179_38, s_179_39, s_179_40, s_179_41, s_179_42, s_179_43, s_179_44, s_179_45, s_179_46, s_179_47, s_179_48, s_179_49, s_179_50, s_179_51, s_179_52, s_179_53, s_179_54, s_179_55, s_179_56, s_179_57, s_179_58, s_179_59, s_179_60, s_179_61, s_179_62, s_179_63, s_179_64, s_179_65, s_179_66, s_179_67, s_179_68, s_179_69, s_179_70, s_179_71, s_179_72, s_179_73, s_179_74, s_179_75, s_179_76, s_179_77, s_179_78, s_179_79, s_179_80, s_179_81, s_179_82, s_179_83, s_179_84, s_179_85, s_179_86, s_179_87, s_179_88, s_179_89, s_179_90, s_179_91, s_179_92, s_179_93, yO_160, h1, h2, if_false, g0, g1, g2, g3, g4, g5, hT, g6, g7, g8, g9, g10, hk, hk3, hpne, hr, ne_eq, not_true_eq_false, not_false_eq_true, if_true, hu, Gk_v, Gk_n, xcat_nil, xcat_i, xcat_r, xcat_l, xcat_d, Nat.zero_le, Nat.reduceAdd, Nat.reduceLeDiff, true_and, and_true, ykl_i, ykl_r, ykl_n, ykl_l, show ¬ (3 : Int32) = 1 from by decide]
              · rw [ygo, hb0, if_neg (by decide), if_pos hfn, if_neg hk, hst, if_neg (by decide), hE]
                exact Mu
          · have hst : ystut D p = false := by
              unfold ystut
              simp [hk3]
            obtain ⟨u, hu, Mu, Fu⟩ := key (ynx D.bp (D.n - (f + 1)) (f + 1)) (by omega)
            refine ⟨u, fun Q => ?_, ?_, F3.trans Fu (fun a h => by omega)⟩
            · rw [s_179_32]
              simp only [s_179_0, s_179_1, s_179_2, s_179_3, s_179_4, s_179_5, s_179_6, s_179_7, s_179_8, s_179_9, s_179_10, s_179_11, s_179_12, s_179_13, s_179_14, s_179_15, s_179_16, s_179_17, s_179_18, s_179_19, s_179_20, s_179_21, s_179_22, s_179_23, s_179_24, s_179_25, s_179_26, s_179_27, s_179_28, s_179_29, s_179_30, s_179_31, s_179_33, s_179_34, s_179_35, s_179_36, s_179_37, s_179_38, s_179_39, s_179_40, s_179_41, s_179_42, s_179_43, s_179_44, s_179_45, s_179_46, s_179_47, s_179_48, s_179_49, s_179_50, s_179_51, s_179_52, s_179_53, s_179_54, s_179_55, s_179_56, s_179_57, s_179_58, s_179_59, s_179_60, s_179_61, s_179_62, s_179_63, s_179_64, s_179_65, s_179_66, s_179_67, s_179_68, s_179_69, s_179_70, s_179_71, s_179_72, s_179_73, s_179_74, s_179_75, s_179_76, s_179_77, s_179_78, s_179_79, s_179_80, s_179_81, s_179_82, s_179_83, s_179_84, s_179_85, s_179_86, s_179_87, s_179_88, s_179_89, s_179_90, s_179_91, s_179_92, s_179_93, yO_160, h1, h2, if_false, g0, g1, g2, g3, g4, g5, hT, g6, g9, g10, hk, hk3, ne_eq, not_true_eq_false, not_false_eq_true, if_true, hu, Gk_v, Gk_n, xcat_nil, xcat_i, xcat_r, xcat_l, xcat_d, Nat.zero_le, Nat.reduceAdd, Nat.reduceLeDiff, true_and, and_true, ykl_i, ykl_r, ykl_n, ykl_l]
            · rw [ygo, hb0, if_neg (by decide), if_pos hfn, if_neg hk, hst, if_neg (by decide), hE]
              exact Mu
      · have h2 : yI D.n ≤ yI f := (yI_le (by omega) (by omega)).mpr (by omega)
        refine ⟨t, fun Q => ?_, ?_, yFr.rfl'⟩
        · rw [s_179_32]
          simp only [s_179_0, s_179_1, s_179_2, s_179_3, s_179_4, s_179_5, s_179_6, s_179_7, s_179_8, s_179_9, s_179_10, s_179_11, s_179_12, s_179_13, s_179_14, s_179_15, s_179_16, s_179_17, s_179_18, s_179_19, s_179_20, s_179_21, s_179_22, s_179_23, s_179_24, s_179_25, s_179_26, s_179_27, s_179_28, s_179_29, s_179_30, s_179_31, s_179_33, s_179_34, s_179_35, s_179_36, s_179_37, s_179_38, s_179_39, s_179_40, s_179_41, s_179_42, s_179_43, s_179_44, s_179_45, s_179_46, s_179_47, s_179_48, s_179_49, s_179_50, s_179_51, s_179_52, s_179_53, s_179_54, s_179_55, s_179_56, s_179_57, s_179_58, s_179_59, s_179_60, s_179_61, s_179_62, s_179_63, s_179_64, s_179_65, s_179_66, s_179_67, s_179_68, s_179_69, s_179_70, s_179_71, s_179_72, s_179_73, s_179_74, s_179_75, s_179_76, s_179_77, s_179_78, s_179_79, s_179_80, s_179_81, s_179_82, s_179_83, s_179_84, s_179_85, s_179_86, s_179_87, s_179_88, s_179_89, s_179_90, s_179_91, s_179_92, s_179_93, h1, h2, if_true, if_false]
        · rw [ygo_end _ _ _ (by omega)]
          exact M
end
