/-! ===== a whole call of the law on the class's side: why ===== -/
theorem xhd_no {k i e : Nat} (h : xhn k = []) : xhd k i e = none := by
  unfold xhd
  rw [h]
  split <;> rfl
theorem Gk_e {d k i : Nat} {ls : xL} {rest : List Value} {Q : xR → xS → Prop} {e : Nat} {σ : xS} : Gk d k i ls rest Q (.inr e) σ = (match xhd k i e with
    | none => False
    | some h => G d k h.1 ((xkill ls h.2).set h.2 none) [] σ Q) := rfl
section
variable {d : Nat} {t : yT} {D : yD} {Q : xR → xS → Prop}
theorem m_102 (W : yW t 7 D) (hz : t.z.1.1 < 900000) {p : Int32} : Cl (d + 5) 102 [.ref 0, .int p] (yemb t) Q ↔ (if 0 ≤ p ∧ p < yI D.n then Q (.inl (some (.int (ywhy D p.toNatClampNeg)))) (yemb t) else Q (.inr 1) (yemb t.bp)) := by
  have hn40 := W.ok.n40
  show G (d + 5) 102 0 [some (.ref 0), some (.int p)] [] (yemb t) Q ↔ _
  have hz' : (yemb t).2.1.1 < 900000 := hz
  by_cases h : 0 ≤ p ∧ p < yI D.n
  · obtain ⟨q, hq, rfl⟩ := yI_of (Int32.not_lt.mpr h.1)
    have hqn := (yI_lt hq (by omega)).mp h.2
    rw [if_pos h, yI_clamp hq]
    simp only [s_102_0, s_102_1, s_102_2, s_102_3, s_102_4, s_102_5, s_102_6, s_102_6i, s_102_9, s_102_10, s_102_11, s_102_12, s_102_13, yO_0, yO_7, m_32 yO_7, W.n, h, and_self, decide_true, m_62 W (show q < 40 by omega), Gk_v, xcat_nil, xcat_i, xcat_r, Nat.reduceAdd, Nat.reduceLeDiff, Nat.zero_le, true_and, ifbn, if_true]
  · rw [if_neg h]
    simp only [s_102_0, s_102_1, s_102_2, s_102_3, s_102_4, s_102_5, s_102_6, s_102_6i, s_102_9, s_102_10, s_102_11, s_102_12, s_102_13, yO_0, yO_7, m_32 yO_7, W.n, h, decide_false, Gk_v, xcat_nil, xcat_i, xcat_r, Nat.reduceAdd, Nat.reduceLeDiff, Nat.zero_le, true_and, ifbn, Bool.false_eq_true, if_false, hz', xbump_emb]
theorem m_231 (W : yW t 7 D) (hz : t.z.1.1 < 900000) {p : Int32} : Cl (d + 6) 231 [.ref 0, .int p, .ref 183] (yemb t) Q ↔ (if 0 ≤ p ∧ p < yI D.n then Q (.inl (some (.int 0))) (yemb (t.sL 183 0 (ywhy D p.toNatClampNeg).toInt64)) else Q (.inl (some (.int 1))) (yemb t.bp)) := by
  have h1 : yix 0 1 := yix_I (n := 0) (by omega) (by omega)
  have hh : xhd 231 4 1 = some (9, 3) := by decide
  show G (d + 6) 231 0 [some (.ref 0), some (.int p), some (.ref 183), none] [] (yemb t) Q ↔ _
  by_cases h : 0 ≤ p ∧ p < yI D.n
  · simp only [s_231_0, s_231_1, s_231_2, s_231_3, s_231_4, s_231_5, s_231_6, s_231_7, s_231_8, s_231_9, s_231_10, s_231_11, s_231_12, yO_0, m_102 W hz, h, and_self, if_true, Gk_v, xcat_nil, xcat_i, xcat_r, Nat.reduceAdd, Nat.reduceLeDiff, Nat.zero_le, true_and, yA_183, yn_183, h1, ycl0]
  · simp only [s_231_0, s_231_1, s_231_2, s_231_3, s_231_4, s_231_5, s_231_6, s_231_7, s_231_8, s_231_9, s_231_10, s_231_11, s_231_12, yO_0, m_102 W hz, h, if_false, Gk_e, hh, xcat_nil, xcat_i, xcat_r, Nat.reduceAdd, Nat.reduceLeDiff, Nat.zero_le, true_and]
    show G (d + 6) 231 9 [some (.ref 0), some (.int p), some (.ref 183), none] [] (yemb t.bp) Q ↔ _
    simp only [s_231_0, s_231_1, s_231_2, s_231_3, s_231_4, s_231_5, s_231_6, s_231_7, s_231_8, s_231_9, s_231_10, s_231_11, s_231_12]
end
