/-! ===== scripts by chance: a command ===== -/
section
variable {d : Nat} {b r c x : Nat} {σ0 : xS} {t0 : yT}
/-- chance while a text is written -/
theorem pX.go {σ : xS} {l : List Nat} (X0 : pX0 b r σ0 t0) (X : pX b r σ0 t0 c x σ l) {m : Nat} (hm : 0 < m) (hm' : m < 65536) : ∃ v τ, v < m ∧ (Ra d 131 [.ref r, .int (yI m)] σ (.inl (some (.int (yI v)))) τ ∧ ((pX b r σ0 t0 c x τ l ∧ pF (fun a => a = r) 0 0 σ τ) ∧ ((∀ a, a ≠ r → τ.1 a = σ.1 a) ∧ τ.2 = σ.2))) := by
  obtain ⟨v, τ, hv, g, ⟨⟨Z, p⟩, F⟩, q, e⟩ := pch_go (d := d) X.2.2.1 (X.Z X0) hm hm'
  exact ⟨v, τ, hv, g, ⟨X.law X0 F (fun a h => Or.inr h) p, F⟩, q, e⟩
theorem pX.ch {σ : xS} {l : List Nat} (X0 : pX0 b r σ0 t0) (X : pX b r σ0 t0 c x σ l) : ∃ v τ, v < 256 ∧ (Ra (d + 1) 206 [.ref r] σ (.inl (some (.int (yI v)))) τ ∧ ((pX b r σ0 t0 c x τ l ∧ pF (fun a => a = r) 0 0 σ τ) ∧ ((∀ a, a ≠ r → τ.1 a = σ.1 a) ∧ τ.2 = σ.2))) := by
  obtain ⟨v, τ, hv, g, ⟨⟨Z, p⟩, F⟩, q, e⟩ := pch_ch (d := d) X.2.2.1 (X.Z X0)
  exact ⟨v, τ, hv, g, ⟨X.law X0 F (fun a h => Or.inr h) p, F⟩, q, e⟩
theorem pX.or {σ : xS} {l : List Nat} (X : pX b r σ0 t0 c x σ l) : ∃ fs, xRd σ r = some (.inr (11, fs)) := by
  obtain ⟨h1, y, h2⟩ := X.2.2.1
  exact ⟨_, (yrd_lt h1).trans h2⟩
theorem pX.nx {σ : xS} {l : List Nat} (X : pX b r σ0 t0 c x σ l) : σ0.2.1.1 ≤ σ.2.1.1 ∧ σ.2.1.1 ≤ σ0.2.1.1 + c := X.2.2.2.1.2.2.1
/-- a cell of the law's own, made since -/
theorem pX.own {σ : xS} {l : List Nat} (X0 : pX0 b r σ0 t0) (X : pX b r σ0 t0 c x σ l) {a : Nat} {e e' : xE} (ha : σ0.2.1.1 ≤ a) (h : σ.1 a = some e) : pX b r σ0 t0 c x (xwr σ a e') l := by
  have hlo := X0.lo
  have F : pF (fun z => z = a) 0 0 σ (xwr σ a e') := pF_wr (pZ_lt (X.Z X0) h) rfl
  exact X.law X0 F (fun z q => Or.inl (by have q' : z = a := q; omega)) (pch_keep X.2.2.1 (X.Z X0) F (by omega))
theorem pX.new {σ : xS} {l : List Nat} (X0 : pX0 b r σ0 t0) (X : pX b r σ0 t0 c x σ l) {e : xE} {m : Nat} : pX b r σ0 t0 (c + 1) (x + m) (xnew σ e m) l :=
  X.law X0 (P := pno) pF_new (fun _ q => q.elim) (pch_keep X.2.2.1 (X.Z X0) (pF_new (P := pno) (e := e) (n := m)) id)
/-- a command's kind, and from where -/
theorem l_208a {σ : xS} {l : List Nat} (X0 : pX0 b r σ0 t0) (X : pX b r σ0 t0 c x σ l) {M dp : Nat} (hM : 1 ≤ M ∧ M ≤ 9) (hdp : dp ≤ 2) (hr : σ.2.1.1 + 3 < 900000) {l5 l7 l8 l9 : Option Value} {y6 : Int32} : ∃ τ kd fm f, (∀ Q, G (d + 2) 208 16 [some (.ref 0), some (.ref b), some (.ref r), some (.int (yI M)), some (.int (yI dp)), l5, some (.int y6), l7, l8, l9] [] σ Q ↔ G (d + 2) 208 41 [some (.ref 0), some (.ref b), some (.ref r), some (.int (yI M)), some (.int (yI dp)), l5, some (.int y6), some (.ref σ.2.1.1), some (.int (yI fm)), l9] [] τ Q) ∧ ((pX b r σ0 t0 (c + 2) (x + 8) τ l ∧ pF (pXp b r) 2 8 σ τ) ∧ (((kd < 6 ∧ (dp = 0 → kd < 5)) ∧ fm ≤ M) ∧ ((τ.1 σ.2.1.1 = some (.inr (8, [.int (yI kd), .ref (σ.2.1.1 + 1), .null])) ∧ τ.1 (σ.2.1.1 + 1) = some (pints 5 f)) ∧ τ.2.1.1 = σ.2.1.1 + 2))) := by
  have hlo := X0.lo
  have hnx := X.nx
  have r1 : σ.2.1.1 < 900000 := by omega
  have r9 : σ.2.1.1 < 1000000 := by omega
  have Z := X.Z X0
  -- the object
  have X1 : pX b r σ0 t0 (c + 1) (x + 3) (xnew σ (.inr (8, xdef 8)) 3) l := X.new X0
  have F1 : pF (pXp b r) 1 3 σ (xnew σ (.inr (8, xdef 8)) 3) := pF_new
  have a1 : (xnew σ (.inr (8, xdef 8)) 3).1 σ.2.1.1 = some (.inr (8, [.int 0, .null, .null])) := pnew_at
  have x1 : (xnew σ (.inr (8, xdef 8)) 3).2.1.1 = σ.2.1.1 + 1 := rfl
  obtain ⟨σ1, e1⟩ : ∃ σ1, σ1 = xnew σ (.inr (8, xdef 8)) 3 := ⟨_, rfl⟩
  rw [← e1] at X1 F1 a1 x1
  have Z1 := X1.Z X0
  -- its row
  have X2 : pX b r σ0 t0 (c + 1 + 1) (x + 3 + 5) (xnew σ1 (.inl (0, (5, .inl (fun _ => 0)))) 5) l := X1.new X0
  have F2 := pF_al (e := .inl (0, (5, .inl (fun _ => 0)))) (m := 5) F1
  have a2 : (xnew σ1 (.inl (0, (5, .inl (fun _ => 0)))) 5).1 σ.2.1.1 = some (.inr (8, [.int 0, .null, .null])) := by rw [xnew_1, if_neg (by omega), a1]
  have b2 : (xnew σ1 (.inl (0, (5, .inl (fun _ => 0)))) 5).1 (σ.2.1.1 + 1) = some (.inl (0, (5, .inl (fun _ => 0)))) := by rw [← x1]; exact pnew_at
  have x2 : (xnew σ1 (.inl (0, (5, .inl (fun _ => 0)))) 5).2.1.1 = σ.2.1.1 + 2 := by show σ1.2.1.1 + 1 = _; omega
  obtain ⟨σ2, e2⟩ : ∃ σ2, σ2 = xnew σ1 (.inl (0, (5, .inl (fun _ => 0)))) 5 := ⟨_, rfl⟩
  rw [← e2] at X2 F2 a2 b2 x2
  have X3 := X2.own X0 (by omega) a2 (e' := .inr (8, [.int 0, .ref (σ.2.1.1 + 1), .null]))
  have F3 := pF_hi F2 (X2.Z X0) a2 (Nat.le_refl _) (e' := .inr (8, [.int 0, .ref (σ.2.1.1 + 1), .null]))
  have a3 : (xwr σ2 σ.2.1.1 (.inr (8, [.int 0, .ref (σ.2.1.1 + 1), .null]))).1 σ.2.1.1 = some (.inr (8, [.int 0, .ref (σ.2.1.1 + 1), .null])) := pwr_at
  have b3 : (xwr σ2 σ.2.1.1 (.inr (8, [.int 0, .ref (σ.2.1.1 + 1), .null]))).1 (σ.2.1.1 + 1) = some (.inl (0, (5, .inl (fun _ => 0)))) := by rw [xwr_1, if_neg (by omega), b2]
  have x3 : (xwr σ2 σ.2.1.1 (.inr (8, [.int 0, .ref (σ.2.1.1 + 1), .null]))).2.1.1 = σ.2.1.1 + 2 := x2
  obtain ⟨σ3, e3⟩ : ∃ σ3, σ3 = xwr σ2 σ.2.1.1 (.inr (8, [.int 0, .ref (σ.2.1.1 + 1), .null])) := ⟨_, rfl⟩
  rw [← e3] at X3 F3 a3 b3 x3
  have g122 : ∀ Q', Cl (d + 1) 122 [.ref σ.2.1.1] σ1 Q' ↔ Q' (.inl none) σ3 := by
    intro Q'
    have n1 : ¬ (5 : Int32) < 0 := by decide
    have n2 : (5 : Nat) ≤ 100000 := by decide
    have c5 : (5 : Int32).toNatClampNeg = 5 := rfl
    have r1' : σ1.2.1.1 < 900000 := by omega
    show G (d + 1) 122 0 [some (.ref σ.2.1.1)] [] σ1 Q' ↔ _
    simp only [s_122_0, s_122_1, s_122_2, s_122_3, s_122_4, r9, n1, n2, c5, r1', not_false_eq_true, hgf_s, hsel_0, hsel_1, hsel_2, hsel_3, hsel_4, hsel_5, hsel_6, hsel_7, hsel_8, hset_0, hset_1, hset_2, hset_3, hset_4, hset_5, hset_6, hset_7, hset_8, hpf_s, hcl_s, hai_s, hpi_0, hpi_1, hln_0, hln_1, List.length_cons, List.length_nil, xwr_1, xwr_2, xnew_1, xnew_n, xnew_s, xnew_z, Nat.reduceLT, ite_true, and_self, hp_8_0, hp_8_1, hn_8_1, hp_8_2, hn_8_2, hp_9_0, hp_9_1, hp_9_2, hp_9_3, hp_9_4, hp_9_5, hn_9_5, hp_9_6, hn_9_6, hp_9_7, hn_9_7, hp_10_0, hp_10_1, hp_10_2, hn_10_2, hp_10_3, hn_10_3, hp_11_0, hp_12_0, hn_12_0, hp_12_1, hp_12_2, hp_12_3, hp_12_4, hp_12_5, hn_12_5, hp_12_6, hn_12_6, hp_12_7, hp_12_8, hp_13_0, hn_13_0, hp_13_1, hp_13_2, hp_13_3, hp_14_0, hn_14_0, hp_14_1, hp_14_2, hp_14_3, xdef_8, xdef_9, xdef_10, xdef_11, xdef_12, xdef_13, xdef_14, Gk_v, Gk_n, xcat_nil, xcat_i, xcat_r, xcat_l, xcat_d, Nat.zero_le, Nat.reduceAdd, Nat.reduceLeDiff, true_and, and_true, ykl_i, ykl_r, ykl_n, ykl_l]
    rw [← e2, x1]
    simp only [s_122_5, s_122_6, r9, a2, hgf_s, hsel_0, hsel_1, hsel_2, hsel_3, hsel_4, hsel_5, hsel_6, hsel_7, hsel_8, hset_0, hset_1, hset_2, hset_3, hset_4, hset_5, hset_6, hset_7, hset_8, hpf_s, hcl_s, hai_s, hpi_0, hpi_1, hln_0, hln_1, List.length_cons, List.length_nil, xwr_1, xwr_2, xnew_1, xnew_n, xnew_s, xnew_z, Nat.reduceLT, ite_true, and_self, hp_8_0, hp_8_1, hn_8_1, hp_8_2, hn_8_2, hp_9_0, hp_9_1, hp_9_2, hp_9_3, hp_9_4, hp_9_5, hn_9_5, hp_9_6, hn_9_6, hp_9_7, hn_9_7, hp_10_0, hp_10_1, hp_10_2, hn_10_2, hp_10_3, hn_10_3, hp_11_0, hp_12_0, hn_12_0, hp_12_1, hp_12_2, hp_12_3, hp_12_4, hp_12_5, hn_12_5, hp_12_6, hn_12_6, hp_12_7, hp_12_8, hp_13_0, hn_13_0, hp_13_1, hp_13_2, hp_13_3, hp_14_0, hn_14_0, hp_14_1, hp_14_2, hp_14_3, xdef_8, xdef_9, xdef_10, xdef_11, xdef_12, xdef_13, xdef_14, Gk_v, Gk_n, xcat_nil, xcat_i, xcat_r, xcat_l, xcat_d, Nat.zero_le, Nat.reduceAdd, Nat.reduceLeDiff, true_and, and_true, ykl_i, ykl_r, ykl_n, ykl_l]
    rw [← e3]
  -- its kind
  obtain ⟨bd, hbd⟩ : ∃ bd, bd = if dp = 0 then 5 else 6 := ⟨_, rfl⟩
  obtain ⟨kd, σ4, hkd, g4, ⟨X4, F4⟩, q4, x4⟩ := X3.go (d := d + 1) X0 (m := bd) (by rw [hbd]; split <;> decide) (by rw [hbd]; split <;> decide)
  have F34 : pF (pXp b r) 2 8 σ σ4 := pF.trans F3 F4 (fun a _ q => q.elim id (fun q => Or.inr (Or.inr (Or.inr q))))
  have a4 : σ4.1 σ.2.1.1 = some (.inr (8, [.int 0, .ref (σ.2.1.1 + 1), .null])) := by rw [q4 _ (by omega), a3]
  have b4 : σ4.1 (σ.2.1.1 + 1) = some (.inl (0, (5, .inl (fun _ => 0)))) := by rw [q4 _ (by omega), b3]
  have X5 := X4.own X0 (by omega) a4 (e' := .inr (8, [.int (yI kd), .ref (σ.2.1.1 + 1), .null]))
  have F5 := pF_hi F34 (X4.Z X0) a4 (Nat.le_refl _) (e' := .inr (8, [.int (yI kd), .ref (σ.2.1.1 + 1), .null]))
  have a5 : (xwr σ4 σ.2.1.1 (.inr (8, [.int (yI kd), .ref (σ.2.1.1 + 1), .null]))).1 σ.2.1.1 = some (.inr (8, [.int (yI kd), .ref (σ.2.1.1 + 1), .null])) := pwr_at
  have b5 : (xwr σ4 σ.2.1.1 (.inr (8, [.int (yI kd), .ref (σ.2.1.1 + 1), .null]))).1 (σ.2.1.1 + 1) = some (.inl (0, (5, .inl (fun _ => 0)))) := by rw [xwr_1, if_neg (by omega), b4]
  have x5 : (xwr σ4 σ.2.1.1 (.inr (8, [.int (yI kd), .ref (σ.2.1.1 + 1), .null]))).2.1.1 = σ.2.1.1 + 2 := by show σ4.2.1.1 = _; rw [x4, x3]
  obtain ⟨σ5, e5⟩ : ∃ σ5, σ5 = xwr σ4 σ.2.1.1 (.inr (8, [.int (yI kd), .ref (σ.2.1.1 + 1), .null])) := ⟨_, rfl⟩
  rw [← e5] at X5 F5 a5 b5 x5
  -- from where
  obtain ⟨v6, σ6, hv6, g6, ⟨X6, F6⟩, q6, x6⟩ := X5.go (d := d + 1) X0 (m := 12) (by decide) (by decide)
  have g6' : Ra (d + 1) 131 [.ref r, .int 12] σ5 (.inl (some (.int (yI v6)))) σ6 := g6
  obtain ⟨bm, hbm⟩ : ∃ bm, bm = if v6 = 0 then M + 1 else M := ⟨_, rfl⟩
  obtain ⟨fm, σ7, hfm, g7, ⟨X7, F7⟩, q7, x7⟩ := X6.go (d := d + 1) X0 (m := bm) (by rw [hbm]; split <;> omega) (by rw [hbm]; split <;> omega)
  have F67 : pF (pXp b r) 2 8 σ σ7 := pF.trans (pF.trans F5 F6 (P' := pXp b r) (fun a _ q => q.elim id (fun q => Or.inr (Or.inr (Or.inr q))))) F7 (fun a _ q => q.elim id (fun q => Or.inr (Or.inr (Or.inr q))))
  obtain ⟨f3, or3⟩ := X3.or
  obtain ⟨f5, or5⟩ := X5.or
  obtain ⟨f6, or6⟩ := X6.or
  refine ⟨σ7, kd, fm, fun _ => 0, fun Q => ?_, ⟨X7, F67⟩, ⟨⟨by rw [hbd] at hkd; split at hkd <;> omega, fun g => by rw [hbd, if_pos g] at hkd; exact hkd⟩, by rw [hbm] at hfm; split at hfm <;> omega⟩, ⟨?_, ?_⟩, ?_⟩
  · have o1 : xRd σ1 σ.2.1.1 = some (.inr (8, [.int 0, .null, .null])) := (yrd_lt r9).trans a1
    have s1 : ∀ Q, G (d + 2) 208 16 [some (.ref 0), some (.ref b), some (.ref r), some (.int (yI M)), some (.int (yI dp)), l5, some (.int y6), l7, l8, l9] [] σ Q ↔ G (d + 2) 208 29 [some (.ref 0), some (.ref b), some (.ref r), some (.int (yI M)), some (.int (yI dp)), l5, some (.int y6), some (.ref σ.2.1.1), l8, l9] [] σ5 Q := by
      intro Q
      simp only [s_208_16, r1, true_and]
      rw [← e1]
      by_cases hd0 : dp = 0
      · rw [if_pos hd0] at hbd
        subst hbd hd0
        have g4' : Ra (d + 1) 131 [.ref r, .int 5] σ3 (.inl (some (.int (yI kd)))) σ4 := g4
        have z : yI 0 = 0 := rfl
        simp only [s_208_17, s_208_17i, s_208_18, s_208_20, s_208_21, s_208_22, s_208_23, s_208_24, s_208_25, s_208_26, s_208_27, s_208_28, s_208_19 r9, o1, g122, or3, g4' _, z, r9, a4, ne_eq, not_true_eq_false, if_false, hgf_s, hsel_0, hsel_1, hsel_2, hsel_3, hsel_4, hsel_5, hsel_6, hsel_7, hsel_8, hset_0, hset_1, hset_2, hset_3, hset_4, hset_5, hset_6, hset_7, hset_8, hpf_s, hcl_s, hai_s, hpi_0, hpi_1, hln_0, hln_1, List.length_cons, List.length_nil, xwr_1, xwr_2, xnew_1, xnew_n, xnew_s, xnew_z, Nat.reduceLT, ite_true, and_self, hp_8_0, hp_8_1, hn_8_1, hp_8_2, hn_8_2, hp_9_0, hp_9_1, hp_9_2, hp_9_3, hp_9_4, hp_9_5, hn_9_5, hp_9_6, hn_9_6, hp_9_7, hn_9_7, hp_10_0, hp_10_1, hp_10_2, hn_10_2, hp_10_3, hn_10_3, hp_11_0, hp_12_0, hn_12_0, hp_12_1, hp_12_2, hp_12_3, hp_12_4, hp_12_5, hn_12_5, hp_12_6, hn_12_6, hp_12_7, hp_12_8, hp_13_0, hn_13_0, hp_13_1, hp_13_2, hp_13_3, hp_14_0, hn_14_0, hp_14_1, hp_14_2, hp_14_3, xdef_8, xdef_9, xdef_10, xdef_11, xdef_12, xdef_13, xdef_14, Gk_v, Gk_n, xcat_nil, xcat_i, xcat_r, xcat_l, xcat_d, Nat.zero_le, Nat.reduceAdd, Nat.reduceLeDiff, true_and, and_true, ykl_i, ykl_r, ykl_n, ykl_l]
        rw [← e5]
      · rw [if_neg hd0] at hbd
        subst hbd
        have g4' : Ra (d + 1) 131 [.ref r, .int 6] σ3 (.inl (some (.int (yI kd)))) σ4 := g4
        have z : ¬ yI dp = 0 := fun e => hd0 ((yI_inj (m := 0) (by omega) (by decide)).mp e)
        simp only [s_208_17, s_208_17i, s_208_18, s_208_20, s_208_21, s_208_22, s_208_23, s_208_24, s_208_25, s_208_26, s_208_27, s_208_28, s_208_19 r9, o1, g122, or3, g4' _, z, r9, a4, ne_eq, not_false_eq_true, if_true, hgf_s, hsel_0, hsel_1, hsel_2, hsel_3, hsel_4, hsel_5, hsel_6, hsel_7, hsel_8, hset_0, hset_1, hset_2, hset_3, hset_4, hset_5, hset_6, hset_7, hset_8, hpf_s, hcl_s, hai_s, hpi_0, hpi_1, hln_0, hln_1, List.length_cons, List.length_nil, xwr_1, xwr_2, xnew_1, xnew_n, xnew_s, xnew_z, Nat.reduceLT, ite_true, and_self, hp_8_0, hp_8_1, hn_8_1, hp_8_2, hn_8_2, hp_9_0, hp_9_1, hp_9_2, hp_9_3, hp_9_4, hp_9_5, hn_9_5, hp_9_6, hn_9_6, hp_9_7, hn_9_7, hp_10_0, hp_10_1, hp_10_2, hn_10_2, hp_10_3, hn_10_3, hp_11_0, hp_12_0, hn_12_0, hp_12_1, hp_12_2, hp_12_3, hp_12_4, hp_12_5, hn_12_5, hp_12_6, hn_12_6, hp_12_7, hp_12_8, hp_13_0, hn_13_0, hp_13_1, hp_13_2, hp_13_3, hp_14_0, hn_14_0, hp_14_1, hp_14_2, hp_14_3, xdef_8, xdef_9, xdef_10, xdef_11, xdef_12, xdef_13, xdef_14, Gk_v, Gk_n, xcat_nil, xcat_i, xcat_r, xcat_l, xcat_d, Nat.zero_le, Nat.reduceAdd, Nat.reduceLeDiff, true_and, and_true, ykl_i, ykl_r, ykl_n, ykl_l]
        rw [← e5]
    refine (s1 Q).trans ?_
    by_cases hv0 : v6 = 0
    · rw [if_pos hv0] at hbm
      subst hbm hv0
      have z : yI 0 = 0 := rfl
      have ad : yI M + 1 = yI (M + 1) := yI_add
      simp only [s_208_29, s_208_30, s_208_31, s_208_32, s_208_33, s_208_34, s_208_35, s_208_36, s_208_37, s_208_38, s_208_39, s_208_40, or5, or6, g6' _, g7 _, z, ad, ne_eq, not_true_eq_false, if_false, hcl_s, true_and, Gk_v, Gk_n, xcat_nil, xcat_i, xcat_r, xcat_l, xcat_d, Nat.zero_le, Nat.reduceAdd, Nat.reduceLeDiff, true_and, and_true, ykl_i, ykl_r, ykl_n, ykl_l]
    · rw [if_neg hv0] at hbm
      subst hbm
      have z : ¬ yI v6 = 0 := fun e => hv0 ((yI_inj (m := 0) (by omega) (by decide)).mp e)
      have ad : yI bm + 0 = yI bm := Int32.add_zero _
      simp only [s_208_29, s_208_30, s_208_31, s_208_32, s_208_33, s_208_34, s_208_35, s_208_36, s_208_37, s_208_38, s_208_39, s_208_40, or5, or6, g6' _, g7 _, z, ad, ne_eq, not_false_eq_true, if_true, hcl_s, true_and, Gk_v, Gk_n, xcat_nil, xcat_i, xcat_r, xcat_l, xcat_d, Nat.zero_le, Nat.reduceAdd, Nat.reduceLeDiff, true_and, and_true, ykl_i, ykl_r, ykl_n, ykl_l]
  · rw [q7 _ (by omega), q6 _ (by omega), a5]
  · rw [q7 _ (by omega), q6 _ (by omega), b5]
  · rw [x7, x6, x5]
end
