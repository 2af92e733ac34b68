/-! ===== strips: small methods ===== -/
theorem yen {as : List Value} {n : Nat} : xentry as n = xargs as ++ List.replicate (n - (xargs as).length) none := rfl
/-- whether a set holds a pixel -/
def yin (s : Int64) (j : Int32) : Bool := (s.toUInt64 >>> (j.toInt64.toUInt64 &&& Int64.toUInt64 63)).toInt64 &&& 1 != 0
def yb (b : Bool) : Int32 := if b then 1 else 0
theorem ybo_0 : ybo 0 := rfl
theorem ybo_1 : ybo 1 := rfl
theorem ybo_b {b : Bool} : ybo (yb b) := by cases b <;> rfl
theorem lg_cmp0 {x : Int64} : lg_cmp x 0 = 0 ↔ x = 0 := by
  unfold lg_cmp
  split
  · rename_i h
    constructor
    · intro h1
      cases h1
    · intro h1
      subst h1
      cases h
  · split
    · rename_i h
      simp [h]
    · rename_i h
      constructor
      · intro h1
        cases h1
      · intro h1
        exact absurd h1 h
theorem m_64 {d : Nat} {s : Int64} {j : Int32} {σ : xS} {Q : xR → xS → Prop} : Cl d 64 [.long s, .int j] σ Q ↔ Q (.inl (some (.int (yb (yin s j))))) σ := by
  show G d 64 0 [some (.long s), none, some (.int j)] [] σ Q ↔ _
  simp only [s_64_0, s_64_1, s_64_2, s_64_3, s_64_4, s_64_5, s_64_6, s_64_7, s_64_8, s_64_9, s_64_10, s_64_11, lg_cmp0, ybo_0, ybo_1, true_and]
  unfold yb yin
  by_cases h : (s.toUInt64 >>> (j.toInt64.toUInt64 &&& Int64.toUInt64 63)).toInt64 &&& 1 = 0
  · simp [h]
  · simp [h]
theorem m_34 {d : Nat} {o : Nat} {j : Int32} {t : yT} {Q : xR → xS → Prop} (ho : yisO 4 o) : Cl (d + 1) 34 [.ref o, .int j] (yemb t) Q ↔ Q (.inl (some (.int (yb (yin (t.L o 15) j))))) (yemb t) := by
  show G (d + 1) 34 0 [some (.ref o), some (.int j)] [] (yemb t) Q ↔ _
  simp only [s_34_0, s_34_1, s_34_2, s_34_3, s_34_4, ho, m_64, Gk_v, ybo_b, xcat_nil, Nat.zero_le, true_and, Nat.reduceAdd]
theorem m_32 {d : Nat} {o : Nat} {j : Int32} {t : yT} {Q : xR → xS → Prop} (ho : yisO 4 o) : Cl d 32 [.ref o, .int j] (yemb t) Q ↔ Q (.inl (some (.int (yb (decide (0 ≤ j ∧ j < t.A o 9)))))) (yemb t) := by
  show G d 32 0 [some (.ref o), some (.int j)] [] (yemb t) Q ↔ _
  simp only [s_32_0, s_32_1, s_32_2, s_32_3, s_32_4, s_32_5, s_32_6, s_32_7, s_32_8, s_32_9, ho, ybo_0, ybo_1, true_and]
  by_cases h1 : j < 0
  · have h2 : ¬ 0 ≤ j := Int32.not_le.mpr h1
    simp [h1, h2, yb]
  · have h2 : 0 ≤ j := Int32.not_lt.mp h1
    by_cases h3 : t.A o 9 ≤ j
    · have h4 := Int32.not_lt.mpr h3
      simp [h1, h2, h3, h4, yb]
    · have h4 := Int32.not_le.mp h3
      simp [h1, h2, h3, h4, yb]
