/-! ===== the law, whole ===== -/
section
variable {z : (Nat × Nat) × (Nat × (Nat → Int32))}
theorem y0_emb {s : Nat} {w : Nat × (Nat → Int32)} {l : List (Nat × xE)} {h : Nat → Option xE} (h1 : ∀ b, b < 184 → yov l h b = yc0 b) (h2 : ∀ b, 184 ≤ b → yov l h b = none) : ymk l h 184 s w = yemb (y0 ((184, s), w)) := by
  unfold ymk yemb
  refine Prod.ext ?_ rfl
  funext b
  show yov l h b = ycellT (y0 ((184, s), w)) b
  by_cases hb : b < 184
  · rw [h1 b hb]
    unfold yc0 ycellT
    split
    · rfl
    · rfl
    · rfl
    · rfl
    · exact congrArg (fun q => some (Sum.inr (_, q))) (yfds_ext _ (fun _ _ => rfl) (fun _ _ => rfl) (fun _ _ => rfl))
  · rw [h2 b (by omega)]
    unfold ycellT
    rw [yla_no (by omega)]
    have hp : ypos b = 0 := by
      unfold ypos
      rw [if_neg (by omega), if_neg (by omega)]
    have hk : (y0 ((184, s), w)).K b = none := by
      show y0K b = none
      unfold y0K
      rw [hp, if_neg (by omega)]
    show none = Option.map _ ((y0 ((184, s), w)).K b)
    rw [hk]
    rfl
theorem y0_W : yW (y0 z) 7 (yD0 1 1) := by
  refine ⟨yD0_ok (by decide) (by decide) (by decide) (by decide), yO_7, rfl, rfl, rfl, rfl, rfl, rfl, rfl, ⟨rfl, show 18 < 900000 from (by decide)⟩, rfl, fun p _ => rfl, fun p _ => rfl, fun p _ => rfl, fun p _ => rfl, fun p _ => rfl, fun p _ => rfl, fun p hp => if_pos hp, fun g hg => rfl, fun g hg => ?_⟩
  rw [yD0_f] at hg
  obtain rfl : g = 0 := by omega
  rfl
theorem y0_I {s : Nat} {w : Nat × (Nat → Int32)} : yInv (y0 ((184, s), w)) := by
  refine ⟨⟨yD0 1 1, 0, fun _ => yD0 1 1, none, none, 0, fun _ => 0, -1, 0, ⟨y0_W, ⟨0, ⟨by decide, by decide⟩, ⟨rfl, rfl⟩, fun j hj => absurd hj (Nat.not_lt_zero _)⟩, ⟨⟨rfl, rfl⟩, fun E h => (by cases h), fun E h => (by cases h)⟩, ⟨by decide, rfl, fun i hi => absurd hi (Nat.not_lt_zero _)⟩, rfl, rfl⟩, ⟨⟨yD0_ok (by decide) (by decide) (by decide) (by decide), yN_lay (S := fun _ => 0) (n := 1) (m := 1)⟩, ⟨by decide, rfl, fun j hj => absurd hj (Nat.not_lt_zero _)⟩, ⟨⟨rfl, rfl⟩, fun E h => (by cases h), fun E h => (by cases h)⟩, ⟨by decide, rfl, fun i hi => absurd hi (Nat.not_lt_zero _)⟩, rfl, rfl⟩⟩, Nat.le_refl _, fun r hr => ?_⟩
  have hr' : 184 ≤ r := hr
  have hp : ypos r = 0 := by
    unfold ypos
    rw [if_neg (by omega), if_neg (by omega)]
  show y0K r = none
  unfold y0K
  rw [hp, if_neg (by omega)]
end
theorem l_244i (L : Nat) (xs : Nat → Int32) : Gg (0 + 100) 244 0 [some (.ref 1000000), none, none, none, none, none, none, none, none] [] (xs0 L xs) 13 (yLp 0 none none none none) [] (yemb (y0 ((184, 27627), (L, xs)))) := by
  intro Q
  have e0 : xs0 L xs = ymk [] (fun _ => none) 0 0 (L, xs) := rfl
  have e1 : ymk [(183, .inl (3, (1, .inr (.inl (fun _ => 0)))))] (yfil 160 183 (yov [] (yfil 0 160 (fun _ => none)))) 184 27627 (L, xs) = yemb (y0 ((184, 27627), (L, xs))) := by
    refine y0_emb (fun b hb => ?_) (fun b hb => ?_)
    · by_cases h3 : b = 183
      · subst h3
        rfl
      · simp only [yov_s, yov_n, yfil_s, h3, if_false]
        by_cases h : 160 ≤ b ∧ b < 183
        · rw [if_pos h]
        · rw [if_neg h, if_pos (by omega)]
    · have n1 : ¬ b = 183 := by omega
      have n2 : ¬ (160 ≤ b ∧ b < 183) := by omega
      have n3 : ¬ (0 ≤ b ∧ b < 160) := by omega
      simp only [yov_s, yov_n, yfil_s, n1, n2, n3, if_false]
  rw [e0, ← e1]
  have hx : (0 : Int32) = yI 0 := rfl
  simp only [gx_new (c := 7) f_244_0, s_244_1, gx_call1 (k' := 93) (kind := 2) (c := 7) f_244_2 (by decide) (by decide) rfl, s_244_3, gx_new (c := 8) f_244_4, s_244_5, gx_call1 (k' := 122) (kind := 2) (c := 8) f_244_6 (by decide) (by decide) rfl, s_244_7, s_244_8, gx_narr (t := 3) (N := 1) (x := 1) f_244_9 yn1' yzL, s_244_10, s_244_11, s_244_12, m_93x, m_122x, yov_s, yov_n, ycls_ok, xnf_7, xnf_8, Nat.reduceAdd, Nat.reduceLT, Nat.reduceEqDiff, reduceIte, if_true, if_false, true_and, and_true, Gk_v, Gk_n, xcat_nil, xcat_i, xcat_r, xcat_l, xcat_d, Nat.zero_le, Nat.reduceAdd, Nat.reduceLeDiff, true_and, and_true, ykl_i, ykl_r, ykl_n, ykl_l]
  exact Iff.rfl
theorem xlaw_all : xLaw := by
  intro L xs hL
  obtain ⟨u, hu, u1, u2⟩ := l_244 (d := 0) 512 (y0 ((184, 27627), (L, xs))) 0 none none none none y0_I hL (by decide) (show L < 0 + 6 * 512 + 6 by omega) (show 184 + 3 * 512 < 898000 by decide)
  have h1 : u.z.1.1 ≤ 184 + 3 * 512 := u1
  have h2 : u.z.1.2 ≤ 27627 + 700 * 512 := u2
  have H : G (0 + 100) 244 0 [some (.ref 1000000), none, none, none, none, none, none, none, none] [] (xs0 L xs) (fun r σ => r = .inl (some (.int 1)) ∧ (σ.2.1.1 ≤ 601024 ∧ σ.2.1.2 ≤ 7293034)) := (l_244i L xs _).mpr ((hu _).mpr ⟨rfl, show u.z.1.1 ≤ 601024 by omega, show u.z.1.2 ≤ 7293034 by omega⟩)
  obtain ⟨n, r, σ', hx, hr, hb⟩ := H
  rw [hr] at hx
  exact ⟨n, σ', hx, hb⟩
