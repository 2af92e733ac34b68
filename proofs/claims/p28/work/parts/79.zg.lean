/-! ===== a curve's text ===== -/
section
variable {d : Nat} {σ0 σ τ : xS} {c x a v cap s vs : Nat} {w u : List Nat}
/-- a new builder -/
theorem l_bld {σ : xS} (F : pF pno c x σ0 σ) (Z : pZ σ) (hr : σ.2.1.1 + 2 < 900000) : ∃ τ v, Ra (d + 5) 169 [.ref σ.2.1.1] (xnew σ (.inr (14, xdef 14)) 4) (.inl none) τ ∧ (pSB σ0 (c + 1 + 1) (x + 4 + 16) τ σ.2.1.1 v [] 16 ∧ ((∃ f, xRd (xnew σ (.inr (14, xdef 14)) 4) σ.2.1.1 = some (.inr (14, f))) ∧ ((σ.2.1.1 < v ∧ σ.2.1.1 < τ.2.1.1) ∧ ∀ b e, σ.1 b = some e → τ.1 b = some e))) := by
  have hs0 := F.2.2.1.1
  have h1 : (xnew σ (.inr (14, xdef 14)) 4).1 σ.2.1.1 = some (.inr (14, xdef 14)) := pnew_at
  obtain ⟨τ, v, k1, k2, k3, k4, k5⟩ := m_169 (d := d + 4) (σ0 := σ0) (c := c + 1) (x := x + 4) h1 hs0 (by omega) (pF_al F) (pZ_new Z) (by show σ.2.1.1 + 1 < 900000; omega)
  refine ⟨τ, v, k1, k2, ⟨_, (yrd_lt (by omega)).trans h1⟩, ⟨?_, ?_⟩, fun b e hb => ?_⟩
  · have : σ.2.1.1 + 1 ≤ v := k3
    omega
  · have : σ.2.1.1 + 1 ≤ τ.2.1.1 := k4
    omega
  · have hlt := pZ_lt Z hb
    refine k5 b e ?_ (by omega)
    rw [xnew_1, if_neg (by omega), hb]
theorem m_170' (S : pSB σ0 c x σ a v w cap) (T : pTy σ s vs u) (hne : vs ≠ v) (hsa : s ≠ a) (hva' : vs ≠ a) (hvl : vs < 1000000 → vs < σ.2.1.1) (hl : w.length + u.length ≤ 89) (hr : σ.2.1.1 + 1 < 900000) : ∃ τ v' cap', Ra (d + 5) 170 [.ref a, .ref s] σ (.inl (some (.ref a))) τ ∧ (pSB σ0 (c + 1) (x + 180) τ a v' (w ++ u) cap' ∧ ((v' = v ∨ σ.2.1.1 ≤ v') ∧ ((∀ b e, σ.1 b = some e → b ≠ a → b ≠ v → τ.1 b = some e) ∧ σ.2.1.1 ≤ τ.2.1.1))) := m_170 (d := d + 1) S T hne hsa hva' hvl hl hr
theorem m_171' (S : pSB σ0 c x σ a v w cap) {n : Nat} (hn : n < 10000) (hl : w.length + 4 ≤ 89) (hr : σ.2.1.1 + 1 < 900000) : ∃ τ v' cap', Ra (d + 5) 171 [.ref a, .int (yI n)] σ (.inl (some (.ref a))) τ ∧ (pSB σ0 (c + 1) (x + 180) τ a v' (w ++ pdec n) cap' ∧ ((v' = v ∨ σ.2.1.1 ≤ v') ∧ ((∀ b e, σ.1 b = some e → b ≠ a → b ≠ v → τ.1 b = some e) ∧ σ.2.1.1 ≤ τ.2.1.1))) := m_171 (d := d + 1) S hn hl hr
def pcC : Nat → Nat
  | 0 => 0
  | k + 1 => 2 * pcC k + 20
def pcX : Nat → Nat
  | 0 => 0
  | k + 1 => 2 * pcX k + 2000
/-- the sign between two sides -/
theorem l_128s {q : Nat} (hq : 2 ≤ q ∧ q ≤ 5) {nm : Int32} {uu vv : Value} {n A : Nat} (hn : n < 1000000) (h : σ.1 n = some (.inr (10, [.int (yI q), .int nm, uu, vv]))) {l1 l2 l3 : Option Value} : ∀ Q, G d 128 38 [some (.ref n), l1, l2, l3] [.ref A] σ Q ↔ G d 128 57 [some (.ref n), l1, l2, l3] [.ref (1000100 + psep q), .ref A] σ Q := by
  intro Q
  have o : xRd σ n = _ := (yrd_lt hn).trans h
  rcases (by omega : q = 2 ∨ (q = 3 ∨ (q = 4 ∨ q = 5))) with rfl | rfl | rfl | rfl
  · have o' : xRd σ n = some (.inr (10, [.int 2, .int nm, uu, vv])) := o
    simp only [s_128_38, s_128_39, s_128_40, s_128_41, s_128_42, s_128_43, s_128_44, s_128_45, s_128_46, s_128_47, s_128_48, s_128_49, s_128_50, s_128_51, s_128_52, s_128_53, s_128_54, s_128_55, s_128_56, o', ne_eq, not_true_eq_false, if_false, hgf_s, hsel_0, hsel_1, hsel_2, hsel_3, hsel_4, hsel_5, hsel_6, hsel_7, hsel_8, hset_0, hset_1, hset_2, hset_3, hset_4, hset_5, hset_6, hset_7, hset_8, hpf_s, hcl_s, hai_s, hpi_0, hpi_1, hln_0, hln_1, List.length_cons, List.length_nil, xwr_1, xwr_2, xnew_1, xnew_n, xnew_s, xnew_z, Nat.reduceLT, ite_true, and_self, hp_8_0, hp_8_1, hn_8_1, hp_8_2, hn_8_2, hp_9_0, hp_9_1, hp_9_2, hp_9_3, hp_9_4, hp_9_5, hn_9_5, hp_9_6, hn_9_6, hp_9_7, hn_9_7, hp_10_0, hp_10_1, hp_10_2, hn_10_2, hp_10_3, hn_10_3, hp_11_0, hp_12_0, hn_12_0, hp_12_1, hp_12_2, hp_12_3, hp_12_4, hp_12_5, hn_12_5, hp_12_6, hn_12_6, hp_12_7, hp_12_8, hp_13_0, hn_13_0, hp_13_1, hp_13_2, hp_13_3, hp_14_0, hn_14_0, hp_14_1, hp_14_2, hp_14_3, xdef_8, xdef_9, xdef_10, xdef_11, xdef_12, xdef_13, xdef_14, Gk_v, Gk_n, xcat_nil, xcat_i, xcat_r, xcat_l, xcat_d, Nat.zero_le, Nat.reduceAdd, Nat.reduceLeDiff, true_and, and_true, ykl_i, ykl_r, ykl_n, ykl_l]
    exact Iff.rfl
  · have o' : xRd σ n = some (.inr (10, [.int 3, .int nm, uu, vv])) := o
    simp only [s_128_38, s_128_39, s_128_40, s_128_41, s_128_42, s_128_43, s_128_44, s_128_45, s_128_46, s_128_47, s_128_48, s_128_49, s_128_50, s_128_51, s_128_52, s_128_53, s_128_54, s_128_55, s_128_56, o', show ¬ (3 : Int32) = 2 from by decide, ne_eq, not_true_eq_false, not_false_eq_true, if_true, if_false, hgf_s, hsel_0, hsel_1, hsel_2, hsel_3, hsel_4, hsel_5, hsel_6, hsel_7, hsel_8, hset_0, hset_1, hset_2, hset_3, hset_4, hset_5, hset_6, hset_7, hset_8, hpf_s, hcl_s, hai_s, hpi_0, hpi_1, hln_0, hln_1, List.length_cons, List.length_nil, xwr_1, xwr_2, xnew_1, xnew_n, xnew_s, xnew_z, Nat.reduceLT, ite_true, and_self, hp_8_0, hp_8_1, hn_8_1, hp_8_2, hn_8_2, hp_9_0, hp_9_1, hp_9_2, hp_9_3, hp_9_4, hp_9_5, hn_9_5, hp_9_6, hn_9_6, hp_9_7, hn_9_7, hp_10_0, hp_10_1, hp_10_2, hn_10_2, hp_10_3, hn_10_3, hp_11_0, hp_12_0, hn_12_0, hp_12_1, hp_12_2, hp_12_3, hp_12_4, hp_12_5, hn_12_5, hp_12_6, hn_12_6, hp_12_7, hp_12_8, hp_13_0, hn_13_0, hp_13_1, hp_13_2, hp_13_3, hp_14_0, hn_14_0, hp_14_1, hp_14_2, hp_14_3, xdef_8, xdef_9, xdef_10, xdef_11, xdef_12, xdef_13, xdef_14, Gk_v, Gk_n, xcat_nil, xcat_i, xcat_r, xcat_l, xcat_d, Nat.zero_le, Nat.reduceAdd, Nat.reduceLeDiff, true_and, and_true, ykl_i, ykl_r, ykl_n, ykl_l]
    exact Iff.rfl
  · have o' : xRd σ n = some (.inr (10, [.int 4, .int nm, uu, vv])) := o
    simp only [s_128_38, s_128_39, s_128_40, s_128_41, s_128_42, s_128_43, s_128_44, s_128_45, s_128_46, s_128_47, s_128_48, s_128_49, s_128_50, s_128_51, s_128_52, s_128_53, s_128_54, s_128_55, s_128_56, o', show ¬ (4 : Int32) = 2 from by decide, show ¬ (4 : Int32) = 3 from by decide, ne_eq, not_true_eq_false, not_false_eq_true, if_true, if_false, hgf_s, hsel_0, hsel_1, hsel_2, hsel_3, hsel_4, hsel_5, hsel_6, hsel_7, hsel_8, hset_0, hset_1, hset_2, hset_3, hset_4, hset_5, hset_6, hset_7, hset_8, hpf_s, hcl_s, hai_s, hpi_0, hpi_1, hln_0, hln_1, List.length_cons, List.length_nil, xwr_1, xwr_2, xnew_1, xnew_n, xnew_s, xnew_z, Nat.reduceLT, ite_true, and_self, hp_8_0, hp_8_1, hn_8_1, hp_8_2, hn_8_2, hp_9_0, hp_9_1, hp_9_2, hp_9_3, hp_9_4, hp_9_5, hn_9_5, hp_9_6, hn_9_6, hp_9_7, hn_9_7, hp_10_0, hp_10_1, hp_10_2, hn_10_2, hp_10_3, hn_10_3, hp_11_0, hp_12_0, hn_12_0, hp_12_1, hp_12_2, hp_12_3, hp_12_4, hp_12_5, hn_12_5, hp_12_6, hn_12_6, hp_12_7, hp_12_8, hp_13_0, hn_13_0, hp_13_1, hp_13_2, hp_13_3, hp_14_0, hn_14_0, hp_14_1, hp_14_2, hp_14_3, xdef_8, xdef_9, xdef_10, xdef_11, xdef_12, xdef_13, xdef_14, Gk_v, Gk_n, xcat_nil, xcat_i, xcat_r, xcat_l, xcat_d, Nat.zero_le, Nat.reduceAdd, Nat.reduceLeDiff, true_and, and_true, ykl_i, ykl_r, ykl_n, ykl_l]
    exact Iff.rfl
  · have o' : xRd σ n = some (.inr (10, [.int 5, .int nm, uu, vv])) := o
    simp only [s_128_38, s_128_39, s_128_40, s_128_41, s_128_42, s_128_43, s_128_44, s_128_45, s_128_46, s_128_47, s_128_48, s_128_49, s_128_50, s_128_51, s_128_52, s_128_53, s_128_54, s_128_55, s_128_56, o', show ¬ (5 : Int32) = 2 from by decide, show ¬ (5 : Int32) = 3 from by decide, show ¬ (5 : Int32) = 4 from by decide, ne_eq, not_true_eq_false, not_false_eq_true, if_true, if_false, hgf_s, hsel_0, hsel_1, hsel_2, hsel_3, hsel_4, hsel_5, hsel_6, hsel_7, hsel_8, hset_0, hset_1, hset_2, hset_3, hset_4, hset_5, hset_6, hset_7, hset_8, hpf_s, hcl_s, hai_s, hpi_0, hpi_1, hln_0, hln_1, List.length_cons, List.length_nil, xwr_1, xwr_2, xnew_1, xnew_n, xnew_s, xnew_z, Nat.reduceLT, ite_true, and_self, hp_8_0, hp_8_1, hn_8_1, hp_8_2, hn_8_2, hp_9_0, hp_9_1, hp_9_2, hp_9_3, hp_9_4, hp_9_5, hn_9_5, hp_9_6, hn_9_6, hp_9_7, hn_9_7, hp_10_0, hp_10_1, hp_10_2, hn_10_2, hp_10_3, hn_10_3, hp_11_0, hp_12_0, hn_12_0, hp_12_1, hp_12_2, hp_12_3, hp_12_4, hp_12_5, hn_12_5, hp_12_6, hn_12_6, hp_12_7, hp_12_8, hp_13_0, hn_13_0, hp_13_1, hp_13_2, hp_13_3, hp_14_0, hn_14_0, hp_14_1, hp_14_2, hp_14_3, xdef_8, xdef_9, xdef_10, xdef_11, xdef_12, xdef_13, xdef_14, Gk_v, Gk_n, xcat_nil, xcat_i, xcat_r, xcat_l, xcat_d, Nat.zero_le, Nat.reduceAdd, Nat.reduceLeDiff, true_and, and_true, ykl_i, ykl_r, ykl_n, ykl_l]
    exact Iff.rfl
theorem m_128 : ∀ k a lev w l (σ : xS), pNt σ k a lev w l → pZ σ → lev < 100 → k ≤ 3 → σ.2.1.1 + pcC k + 20 < 900000 → ∃ τ s vs, Ra (d + k + 5) 128 [.ref a, .int (yI lev)] σ (.inl (some (.ref s))) τ ∧ (pTy τ s vs w ∧ ((pF pno (pcC k) (pcX k) σ τ ∧ pZ τ) ∧ (σ.2.1.1 ≤ s ∧ σ.2.1.1 ≤ vs))) := by
  intro k
  induction k with
  | zero => intro a lev w l σ h; exact h.elim
  | succ k ih =>
    intro a lev w l σ h Z hlev hk3 hr
    have hlen := pNt_len (k + 1) a lev w l h
    have hp8 : 2 ^ (k + 1) ≤ 2 ^ 3 := Nat.pow_le_pow_right (by decide) hk3
    have hp8' : (2 : Nat) ^ 3 = 8 := rfl
    obtain ⟨ha, kd, nm, uu, vv, hc, h⟩ := h
    have hr' : σ.2.1.1 + (2 * pcC k + 20) + 20 < 900000 := hr
    have o0 : xRd σ a = some (.inr (10, [.int kd, .int nm, uu, vv])) := (yrd_lt ha).trans hc
    rcases h with ⟨rfl, m, hm, rfl, -, rfl⟩ | ⟨rfl, hv⟩ | ⟨q, ⟨hq, rfl⟩, b, c', lb, lc, wb, wc, ⟨rfl, rfl⟩, hb, hcc, -, hw⟩
    · -- a number
      obtain ⟨σ1, v1, k1, S1, ⟨f1, o1⟩, ⟨v1a, x1⟩, p1⟩ := l_bld (d := d + k) (c := 0) (x := 0) (pF.rfl' : pF pno 0 0 σ σ) Z (by omega)
      have e15 : ptw 15 = [] := by decide
      have T15 := pTy_t (i := 15) (σ := σ1) (by decide)
      rw [e15] at T15
      have nx1 := S1.1.1.2.2.1.2
      have v1b := S1.2.2.1.2.2
      obtain ⟨σ2, v2, cap2, k2, S2, h2, p2, x2⟩ := m_170' (d := d + k) S1 T15 (by omega) (by omega) (by omega) (fun q => by omega) (by decide) (by omega)
      have nx2 := S2.1.1.2.2.1.2
      obtain ⟨σ3, v3, cap3, k3, S3, h3, p3, x3⟩ := m_171' (d := d + k) S2 hm (by decide) (by omega)
      have nx3 := S3.1.1.2.2.1.2
      obtain ⟨τ, k4, T4, ⟨F4, Z4⟩, p4, x4⟩ := m_172 (d := d + k) S3 (by omega)
      rw [List.nil_append, List.nil_append] at T4
      have hs3 := S3.1.1.2.2.1.1
      refine ⟨τ, σ3.2.1.1, σ3.2.1.1 + 1, fun Q => ?_, T4, ⟨F4.mono (fun _ _ q => q) (by show _ ≤ 2 * pcC k + 20; omega) (by show _ ≤ 2 * pcX k + 2000; omega), Z4⟩, hs3, by omega⟩
      have o2 : xRd σ2 a = some (.inr (10, [.int 0, .int (yI m), uu, vv])) := (yrd_lt ha).trans (pF_keep Z S2.1.1 hc id)
      have os1 := S1.ob
      have os2 := S2.ob
      have os3 := S3.ob
      have r1 : σ.2.1.1 < 900000 := by omega
      have k2' : Ra (d + k + 5) 170 [.ref σ.2.1.1, .ref 1000115] σ1 (.inl (some (.ref σ.2.1.1))) σ2 := k2
      show G (d + k + 6) 128 0 [some (.ref a), some (.int (yI lev)), none, none] [] σ Q ↔ _
      simp only [s_128_0, s_128_1, s_128_2, s_128_3, s_128_4, s_128_4i, s_128_5, s_128_6, s_128_7, s_128_8, s_128_9, s_128_10, s_128_11, s_128_12, o0, r1, o1, k1 _, os1, k2' _, o2, os2, k3 _, os3, k4 _, ne_eq, not_true_eq_false, if_false, hgf_s, hsel_0, hsel_1, hcl_s, true_and, Gk_v, Gk_n, xcat_nil, xcat_i, xcat_r, xcat_l, xcat_d, Nat.zero_le, Nat.reduceAdd, Nat.reduceLeDiff, true_and, and_true, ykl_i, ykl_r, ykl_n, ykl_l]
    · -- a variable
      rcases hv with ⟨rfl, -, rfl⟩ | ⟨rfl, -, rfl⟩
      · refine ⟨σ, 1000113, 1000213, fun Q => ?_, pTy_t (i := 13) (by decide), ⟨pF.rfl', Z⟩, by omega, by omega⟩
        have or : xRd σ 1000004 = _ := xRd_rows (σ := σ) (i := 1) (by decide)
        have hx := fun (F : Value → Prop) => haa_9 (a := 1000004) (i := 1000113) (x := 0) (n := (xrows 1).length) (g := fun j => ((xrows 1)[j]?).map (fun z => 1000100 + z)) (F := F) (by decide) (by unfold yix; decide) rfl
        show G (d + k + 6) 128 0 [some (.ref a), some (.int (yI lev)), none, none] [] σ Q ↔ _
        simp only [s_128_0, s_128_1, s_128_2, s_128_13, s_128_14, s_128_15, s_128_16, s_128_17, s_128_18, s_128_19, s_128_20, s_128_21, o0, or, hx, show ¬ (1 : Int32) = 0 from by decide, ne_eq, not_true_eq_false, not_false_eq_true, if_true, if_false, hgf_s, hsel_0, hsel_1, Gk_v, Gk_n, xcat_nil, xcat_i, xcat_r, xcat_l, xcat_d, Nat.zero_le, Nat.reduceAdd, Nat.reduceLeDiff, true_and, and_true, ykl_i, ykl_r, ykl_n, ykl_l]
      · refine ⟨σ, 1000107, 1000207, fun Q => ?_, pTy_t (i := 7) (by decide), ⟨pF.rfl', Z⟩, by omega, by omega⟩
        have or : xRd σ 1000004 = _ := xRd_rows (σ := σ) (i := 1) (by decide)
        have hx := fun (F : Value → Prop) => haa_9 (a := 1000004) (i := 1000107) (x := 1) (n := (xrows 1).length) (g := fun j => ((xrows 1)[j]?).map (fun z => 1000100 + z)) (F := F) (by decide) (by unfold yix; decide) rfl
        show G (d + k + 6) 128 0 [some (.ref a), some (.int (yI lev)), none, none] [] σ Q ↔ _
        simp only [s_128_0, s_128_1, s_128_2, s_128_13, s_128_14, s_128_15, s_128_16, s_128_17, s_128_18, s_128_19, s_128_20, s_128_21, o0, or, hx, show ¬ (1 : Int32) = 0 from by decide, ne_eq, not_true_eq_false, not_false_eq_true, if_true, if_false, hgf_s, hsel_0, hsel_1, Gk_v, Gk_n, xcat_nil, xcat_i, xcat_r, xcat_l, xcat_d, Nat.zero_le, Nat.reduceAdd, Nat.reduceLeDiff, true_and, and_true, ykl_i, ykl_r, ykl_n, ykl_l]
    · -- two sides
      obtain ⟨hsl, hsi⟩ := psep_len hq
      have lb5 := pNt_len k _ _ _ _ hb
      have lc5 := pNt_len k _ _ _ _ hcc
      have hpk : 2 * 2 ^ k ≤ 8 := by rw [Nat.pow_succ] at hp8; omega
      have hpo : pown q ≤ 2 := by unfold pown; split <;> omega
      have q0 : ¬ yI q = 0 := fun e => by
        have := (yI_inj (m := 0) (by omega) (by decide)).mp e
        omega
      have q1 : ¬ yI q = 1 := fun e => by
        have := (yI_inj (m := 1) (by omega) (by decide)).mp e
        omega
      -- a builder
      obtain ⟨σ1, v1, k1, S1, ⟨f1, o1⟩, ⟨v1a, x1⟩, p1⟩ := l_bld (d := d + k) (c := 0) (x := 0) (pF.rfl' : pF pno 0 0 σ σ) Z (by omega)
      have nx1 := S1.1.1.2.2.1.2
      have v1b := S1.2.2.1.2.2
      have Z1 := S1.1.2
      have v1l := pZ_lt Z1 S1.2.2.2.1.choose_spec.1
      -- the left side
      have hb1 := pNt_no (fun b e hb _ => p1 b e hb) k _ _ _ _ hb
      obtain ⟨σ2, s2, vs2, k2, T2, ⟨F2, Z2⟩, s2a, s2b⟩ := ih b (pown q) wb lb σ1 hb1 Z1 (by omega) (by omega) (by omega)
      have S2 := S1.no F2
      have nx2 := S2.1.1.2.2.1.2
      have nx2' := F2.2.2.1.1
      obtain ⟨σ3, v3, cap3, k3, S3, h3, p3, x3⟩ := m_170' (d := d + k) S2 T2 (by omega) (by omega) (by omega) (pTy_lt (k := 0) T2 Z2) (by rw [List.length_nil]; omega) (by omega)
      rw [List.nil_append] at S3
      have nx3 := S3.1.1.2.2.1.2
      have v3b := S3.2.2.1.2.2
      have Z3 := S3.1.2
      -- the sign
      have T3 := pTy_t (i := psep q) (σ := σ3) hsi
      obtain ⟨σ4, v4, cap4, k4, S4, h4, p4, x4⟩ := m_170' (d := d + k) S3 T3 (by omega) (by omega) (by omega) (fun g => by omega) (by omega) (by omega)
      have nx4 := S4.1.1.2.2.1.2
      have v4b := S4.2.2.1.2.2
      have Z4 := S4.1.2
      have v4l := pZ_lt Z4 S4.2.2.2.1.choose_spec.1
      -- the right side
      have hc4 := pNt_no (fun b e hb _ => pF_keep Z S4.1.1 hb id) k _ _ _ _ hcc
      obtain ⟨σ5, s5, vs5, k5, T5, ⟨F5, Z5⟩, s5a, s5b⟩ := ih c' (pown q + 1) wc lc σ4 hc4 Z4 (by omega) (by omega) (by omega)
      have S5 := S4.no F5
      have nx5 := S5.1.1.2.2.1.2
      have nx5' := F5.2.2.1.1
      obtain ⟨σ6, v6, cap6, k6, S6, h6, p6, x6⟩ := m_170' (d := d + k) S5 T5 (by omega) (by omega) (by omega) (pTy_lt (k := 0) T5 Z5) (by rw [List.length_append]; omega) (by omega)
      have nx6 := S6.1.1.2.2.1.2
      have v6b := S6.2.2.1.2.2
      obtain ⟨σ7, k7, T7, ⟨F7, Z7⟩, p7, x7⟩ := m_172 (d := d + k) S6 (by omega)
      have hs6 := S6.1.1.2.2.1.1
      have o2 : xRd σ2 a = some (.inr (10, [.int (yI q), .int nm, .ref b, .ref c'])) := (yrd_lt ha).trans (pF_keep Z S2.1.1 hc id)
      have o1' : xRd σ1 a = some (.inr (10, [.int (yI q), .int nm, .ref b, .ref c'])) := (yrd_lt ha).trans (p1 _ _ hc)
      have c3 : σ3.1 a = some (.inr (10, [.int (yI q), .int nm, .ref b, .ref c'])) := pF_keep Z S3.1.1 hc id
      have o4 : xRd σ4 a = some (.inr (10, [.int (yI q), .int nm, .ref b, .ref c'])) := (yrd_lt ha).trans (pF_keep Z S4.1.1 hc id)
      have os1 := S1.ob
      have os2 := S2.ob
      have os3 := S3.ob
      have os5 := S5.ob
      have os6 := S6.ob
      have r1 : σ.2.1.1 < 900000 := by omega
      have nb : ∃ fs, xRd σ1 b = some (.inr (10, fs)) := by
        cases k with
        | zero => exact hb1.elim
        | succ k =>
          obtain ⟨g1, kd', nm', u', v', g2, -⟩ := hb1
          exact ⟨_, (yrd_lt g1).trans g2⟩
      have nc : ∃ fs, xRd σ4 c' = some (.inr (10, fs)) := by
        cases k with
        | zero => exact hc4.elim
        | succ k =>
          obtain ⟨g1, kd', nm', u', v', g2, -⟩ := hc4
          exact ⟨_, (yrd_lt g1).trans g2⟩
      obtain ⟨fb, ob⟩ := nb
      obtain ⟨fc, oc⟩ := nc
      have ho : yI (pown q) + 1 = yI (pown q + 1) := yI_add
      have s6b : σ6.2.1.1 < 1000000 := by omega
      have st0 : ∀ Q, G (d + k + 6) 128 0 [some (.ref a), some (.int (yI lev)), none, none] [] σ Q ↔ G (d + k + 6) 128 30 [some (.ref a), some (.int (yI lev)), some (.int (yI (pown q))), none] [] σ Q := by
        intro Q
        unfold pown
        by_cases h4 : q < 4
        · have z : ¬ (4 : Int32) ≤ yI q := fun g => by
            have := (yI_le (n := 4) (by decide) (by omega)).mp g
            omega
          rw [if_pos h4]
          simp only [s_128_0, s_128_1, s_128_2, s_128_13, s_128_14, s_128_15, s_128_16, s_128_22, s_128_23, s_128_24, s_128_25, s_128_26, s_128_27, s_128_28, s_128_29, o0, q0, q1, z, ne_eq, not_true_eq_false, not_false_eq_true, if_true, if_false, hgf_s, hsel_0, hsel_1, Gk_v, Gk_n, xcat_nil, xcat_i, xcat_r, xcat_l, xcat_d, Nat.zero_le, Nat.reduceAdd, Nat.reduceLeDiff, true_and, and_true, ykl_i, ykl_r, ykl_n, ykl_l]
          exact Iff.rfl
        · have z : (4 : Int32) ≤ yI q := (yI_le (n := 4) (by decide) (by omega)).mpr (by omega)
          rw [if_neg h4]
          simp only [s_128_0, s_128_1, s_128_2, s_128_13, s_128_14, s_128_15, s_128_16, s_128_22, s_128_23, s_128_24, s_128_25, s_128_26, s_128_27, s_128_28, s_128_29, o0, q0, q1, z, ne_eq, not_true_eq_false, not_false_eq_true, if_true, if_false, hgf_s, hsel_0, hsel_1, Gk_v, Gk_n, xcat_nil, xcat_i, xcat_r, xcat_l, xcat_d, Nat.zero_le, Nat.reduceAdd, Nat.reduceLeDiff, true_and, and_true, ykl_i, ykl_r, ykl_n, ykl_l]
          exact Iff.rfl
      have st1 : ∀ Q, G (d + k + 6) 128 30 [some (.ref a), some (.int (yI lev)), some (.int (yI (pown q))), none] [] σ Q ↔ G (d + k + 6) 128 67 [some (.ref a), some (.int (yI lev)), some (.int (yI (pown q))), some (.ref σ6.2.1.1)] [] σ7 Q := by
        intro Q
        simp only [s_128_30, s_128_31, s_128_31i, s_128_32, s_128_33, s_128_34, s_128_35, s_128_36, s_128_37, r1, o1, k1 _, o1', ob, k2 _, os2, k3 _, hgf_s, hsel_0, hsel_1, hsel_2, hsel_3, hcl_s, true_and, Gk_v, Gk_n, xcat_nil, xcat_i, xcat_r, xcat_l, xcat_d, Nat.zero_le, Nat.reduceAdd, Nat.reduceLeDiff, true_and, and_true, ykl_i, ykl_r, ykl_n, ykl_l]
        refine (l_128s hq ha c3 Q).trans ?_
        simp only [s_128_57, s_128_58, s_128_59, s_128_60, s_128_61, s_128_62, s_128_63, s_128_64, s_128_65, s_128_66 s6b, os3, k4 _, o4, oc, ho, k5 _, os5, k6 _, os6, k7 _, hgf_s, hsel_0, hsel_1, hsel_2, hsel_3, hcl_s, true_and, Gk_v, Gk_n, xcat_nil, xcat_i, xcat_r, xcat_l, xcat_d, Nat.zero_le, Nat.reduceAdd, Nat.reduceLeDiff, true_and, and_true, ykl_i, ykl_r, ykl_n, ykl_l]
      by_cases hlev' : pown q < lev
      · -- brackets
        have z : ¬ yI lev ≤ yI (pown q) := fun g => by
          have := (yI_le (by omega) (by omega)).mp g
          omega
        obtain ⟨σ8, v8, k8, S8, ⟨f8, o8⟩, ⟨v8a, x8⟩, p8⟩ := l_bld (d := d + k) F7 Z7 (by omega)
        have nx8 := S8.1.1.2.2.1.2
        have v8b := S8.2.2.1.2.2
        have Z8 := S8.1.2
        have T19 := pTy_t (i := 19) (σ := σ8) (by decide)
        have e19 : ptw 19 = [40] := by decide
        rw [e19] at T19
        obtain ⟨σ9, v9, cap9, k9, S9, h9, p9, x9⟩ := m_170' (d := d + k) S8 T19 (by omega) (by omega) (by omega) (fun g => by omega) (by decide) (by omega)
        have nx9 := S9.1.1.2.2.1.2
        have v9b := S9.2.2.1.2.2
        have T7' : pTy σ9 σ6.2.1.1 (σ6.2.1.1 + 1) ((wb ++ ptw (psep q)) ++ wc) := by
          refine T7.keep ?_ (fun b e hb hbs => p9 b e (p8 b e hb) ?_ ?_)
          · rw [S9.1.1.2.2.2.2, F7.2.2.2.2]
          · rcases hbs with rfl | rfl
            · omega
            · omega
          · have := pZ_lt Z7 hb
            omega
        have k9' : Ra (d + k + 5) 170 [.ref σ7.2.1.1, .ref 1000119] σ8 (.inl (some (.ref σ7.2.1.1))) σ9 := k9
        obtain ⟨σ10, v10, cap10, k10, S10, h10, p10, x10⟩ := m_170' (d := d + k) S9 T7' (by rcases h9 with h9 | h9 <;> omega) (by omega) (by omega) (fun g => by omega) (by simp only [List.length_append, List.length_cons, List.length_nil]; omega) (by omega)
        have nx10 := S10.1.1.2.2.1.2
        have v10b := S10.2.2.1.2.2
        have T20 := pTy_t (i := 20) (σ := σ10) (by decide)
        have e20 : ptw 20 = [41] := by decide
        rw [e20] at T20
        obtain ⟨σ11, v11, cap11, k11, S11, h11, p11, x11⟩ := m_170' (d := d + k) S10 T20 (by omega) (by omega) (by omega) (fun g => by omega) (by simp only [List.length_append, List.length_cons, List.length_nil]; omega) (by omega)
        have nx11 := S11.1.1.2.2.1.2
        have k11' : Ra (d + k + 5) 170 [.ref σ7.2.1.1, .ref 1000120] σ10 (.inl (some (.ref σ7.2.1.1))) σ11 := k11
        obtain ⟨σ12, k12, T12, ⟨F12, Z12⟩, p12, x12⟩ := m_172 (d := d + k) S11 (by omega)
        have hs11 := S11.1.1.2.2.1.1
        have ew : w = (([] ++ [40]) ++ ((wb ++ ptw (psep q)) ++ wc)) ++ [41] := by
          rw [hw]
          unfold pbin
          rw [if_pos hlev']
          rfl
        refine ⟨σ12, σ11.2.1.1, σ11.2.1.1 + 1, fun Q => ?_, by rw [ew]; exact T12, ⟨F12.mono (fun _ _ q => q) (by show _ ≤ 2 * pcC k + 20; omega) (by show _ ≤ 2 * pcX k + 2000; omega), Z12⟩, hs11, by omega⟩
        have os8 := S8.ob
        have os9 := S9.ob
        have os10 := S10.ob
        have os11 := S11.ob
        have r7 : σ7.2.1.1 < 900000 := by omega
        show G (d + k + 6) 128 0 [some (.ref a), some (.int (yI lev)), none, none] [] σ Q ↔ _
        refine (st0 Q).trans ((st1 Q).trans ?_)
        simp only [s_128_67, s_128_68, s_128_69, s_128_70, s_128_71, s_128_71i, s_128_72, s_128_73, s_128_74, s_128_75, s_128_76, s_128_77, s_128_78, s_128_79, s_128_80, s_128_81, s_128_82, z, r7, o8, k8 _, os8, k9' _, os9, k10 _, os10, k11' _, os11, k12 _, if_false, hcl_s, true_and, Gk_v, Gk_n, xcat_nil, xcat_i, xcat_r, xcat_l, xcat_d, Nat.zero_le, Nat.reduceAdd, Nat.reduceLeDiff, true_and, and_true, ykl_i, ykl_r, ykl_n, ykl_l]
      · have z : yI lev ≤ yI (pown q) := (yI_le (by omega) (by omega)).mpr (by omega)
        have ew : w = (wb ++ ptw (psep q)) ++ wc := by
          rw [hw]
          unfold pbin
          rw [if_neg hlev']
        refine ⟨σ7, σ6.2.1.1, σ6.2.1.1 + 1, fun Q => ?_, by rw [ew]; exact T7, ⟨F7.mono (fun _ _ q => q) (by show _ ≤ 2 * pcC k + 20; omega) (by show _ ≤ 2 * pcX k + 2000; omega), Z7⟩, hs6, by omega⟩
        show G (d + k + 6) 128 0 [some (.ref a), some (.int (yI lev)), none, none] [] σ Q ↔ _
        refine (st0 Q).trans ((st1 Q).trans ?_)
        simp only [s_128_67, s_128_68, s_128_69, s_128_81, s_128_82, z, if_true, Gk_v, Gk_n, xcat_nil, xcat_i, xcat_r, xcat_l, xcat_d, Nat.zero_le, Nat.reduceAdd, Nat.reduceLeDiff, true_and, and_true, ykl_i, ykl_r, ykl_n, ykl_l]
end
