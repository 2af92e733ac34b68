/-! ===== scripts by chance: a command, whole ===== -/
def p8 : Nat → Nat
  | 0 => 32
  | 1 => 80
  | _ => 176
def n8 : Nat → Nat
  | 0 => 2
  | 1 => 2
  | _ => 3
def q8 : Nat → Nat
  | 0 => 2
  | 1 => 7
  | _ => 17
def z8 : Nat → Nat
  | 0 => 8
  | 1 => 26
  | _ => 62
def c8 : Nat → Nat
  | 0 => 1
  | 1 => 3
  | _ => 7
theorem k8_n : ∀ k, k < 2 → 14 + n8 k * p8 k ≤ p8 (k + 1) ∧ (2 + (1 + n8 k * q8 k) = q8 (k + 1) ∧ (8 + (n8 k + n8 k * z8 k) = z8 (k + 1) ∧ 1 + n8 k * c8 k = c8 (k + 1))) := by decide
theorem k8_0 : ∀ k, k < 3 → 32 ≤ p8 k ∧ (2 ≤ q8 k ∧ (8 ≤ z8 k ∧ 1 ≤ c8 k)) := by decide
/-- rows one nesting deeper -/
def pCW (σ : xS) (T : yTb) (h : Nat) : Nat → Nat → Nat → Nat → Prop
  | 0 => fun _ _ _ => False
  | k + 1 => pCw σ T h k
theorem pCw_W {σ : xS} {T : yTb} {h k r lo hi : Nat} : pCw σ T h k r lo hi ↔ (h ≤ r ∧ r < 1000000) ∧ ∃ n g, n ≤ 10 ∧ (σ.1 r = some (prow 8 n g) ∧ pCr (pCW σ T h k) σ T h g n 0 lo hi) := by
  cases k <;> exact Iff.rfl
theorem pCW_mono {h h' : Nat} {σ τ : xS} {T T' : yTb} (hh : h' ≤ h) (hσ : ∀ a e, h ≤ a → a < 1000000 → σ.1 a = some e → τ.1 a = some e) : ∀ k r lo hi, yagr lo hi T T' → pCW σ T h k r lo hi → pCW τ T' h' k r lo hi := by
  intro k r lo hi A q
  cases k with
  | zero => exact q
  | succ k => exact pCw_mono hh hσ k r lo hi A q
/-- a command in the heap -/
def pCo (τ : xS) (h a dp cnt : Nat) (T : yTb) (c : Nat) : Prop := T.2.2 c = c + cnt ∧ ∃ nr ins cf, pK τ T h a c nr ins cf ∧ pCi (pCW τ T h dp) T ins c
theorem pCo_mono {h h' a dp cnt c : Nat} {σ τ : xS} {T T' : yTb} (hh : h' ≤ h) (hσ : ∀ a e, h ≤ a → a < 1000000 → σ.1 a = some e → τ.1 a = some e) (A : yagr c (c + cnt) T T') (q : pCo σ h a dp cnt T c) : pCo τ h' a dp cnt T' c := by
  obtain ⟨q1, nr, ins, cf, ⟨p1, p2, p3, p4, p5⟩, q3⟩ := q
  have hc : 1 ≤ cnt := by
    rcases q3 with ⟨-, q3, -⟩ | ⟨-, -, q3, -⟩ <;> omega
  obtain ⟨a1, a2, a3⟩ := A c (Nat.le_refl _) (by omega)
  refine ⟨a3.trans q1, nr, ins, cf, ⟨⟨by omega, p1.2⟩, ?_, ⟨by omega, p3.2⟩, hσ _ _ p3.1 p3.2 p4, ?_⟩, ?_⟩
  · rw [a1]
    exact hσ _ _ p1.1 p1.2 p2
  · rw [a1, a2]
    exact p5
  · unfold pCi at q3 ⊢
    rw [a1, a2, a3]
    rcases q3 with q3 | ⟨q5, q6, q7, r, q8', q9⟩
    · exact Or.inl q3
    · exact Or.inr ⟨q5, q6, q7, r, q8', pCW_mono hh hσ _ _ _ _ (fun i g1 g2 => A i (by omega) (by omega)) q9⟩
theorem pX.mono {b r c x c' x' : Nat} {σ0 σ : xS} {t0 : yT} {l : List Nat} (X : pX b r σ0 t0 c x σ l) (hc : c ≤ c') (hx : x ≤ x') : pX b r σ0 t0 c' x' σ l :=
  ⟨X.1, X.2.1, X.2.2.1, X.2.2.2.1.mono (fun _ _ q => q) hc hx, X.2.2.2.2⟩
/-- what scripts of a nesting do -/
def pK8 (d b r : Nat) (σ0 : xS) (t0 : yT) (M k : Nat) : Prop := ∀ c x (σ : xS) l, pX b r σ0 t0 c x σ l → l.length + n8 k * p8 k ≤ 540 → σ.2.1.1 + (1 + n8 k * q8 k) < 889000 → ∃ τ w cnt j, Ra (d + k + 6) 208 [.ref 0, .ref b, .ref r, .int (yI M), .int (yI k)] σ (.inl (some (.ref σ.2.1.1))) τ ∧ ((pX b r σ0 t0 (c + (1 + n8 k * q8 k)) (x + (n8 k + n8 k * z8 k)) τ (l ++ w) ∧ pF (pXp b r) (1 + n8 k * q8 k) (n8 k + n8 k * z8 k) σ τ) ∧ ((w.length ≤ n8 k * p8 k ∧ cnt ≤ n8 k * c8 k) ∧ pBk k j w cnt (fun T c => pCw τ T σ.2.1.1 k σ.2.1.1 c (c + cnt))))
section
variable {d : Nat} {b r c x M dp : Nat} {σ0 : xS} {t0 : yT}
variable {D : yD} {k : Nat} {E : Nat → yD} {s0 s1 : Option yD} {n0 : Nat} {B : Nat → Nat} {eo en : Int32}
theorem l_208f {σ : xS} {l : List Nat} (hdp : dp ≤ 2) (IH : ∀ k, dp = k + 1 → pK8 d b r σ0 t0 M k) (X0 : pX0 b r σ0 t0) (C : yCI t0 D k E s0 s1 n0 B eo en) (X : pX b r σ0 t0 c x σ l) (hM : 1 ≤ M ∧ M ≤ 9) (hl : l.length + p8 dp ≤ 540) (hr : σ.2.1.1 + q8 dp < 889000) {l5 l7 l8 l9 : Option Value} {y6 : Int32} : ∃ τ w1 cnt1 m8 m9, (∀ Q, G (d + dp + 6) 208 16 [some (.ref 0), some (.ref b), some (.ref r), some (.int (yI M)), some (.int (yI dp)), l5, some (.int y6), l7, l8, l9] [] σ Q ↔ G (d + dp + 6) 208 160 [some (.ref 0), some (.ref b), some (.ref r), some (.int (yI M)), some (.int (yI dp)), l5, some (.int y6), some (.ref σ.2.1.1), m8, m9] [] τ Q) ∧ ((pX b r σ0 t0 (c + q8 dp) (x + z8 dp) τ (l ++ w1) ∧ pF (pXp b r) (q8 dp) (z8 dp) σ τ) ∧ (((1 ≤ w1.length ∧ w1.length ≤ p8 dp) ∧ cnt1 ≤ c8 dp) ∧ ((∃ fs, τ.1 σ.2.1.1 = some (.inr (8, fs))) ∧ pBk dp 1 w1 cnt1 (pCo τ σ.2.1.1 σ.2.1.1 dp cnt1)))) := by
  have hlo := X0.lo
  have hnx := X.nx
  obtain ⟨b1, b2, b3, b4⟩ := k8_0 dp (by omega)
  obtain ⟨A, hA⟩ : ∃ A, A = σ.2.1.1 := ⟨_, rfl⟩
  obtain ⟨σ1, kd, fm, f1, st1, ⟨X1, F1⟩, ⟨⟨hkd, hkd0⟩, hfm⟩, ⟨oa1, on1⟩, x1⟩ := l_208a (d := d + dp + 4) X0 X hM hdp (by omega) (l5 := l5) (y6 := y6) (l7 := l7) (l8 := l8) (l9 := l9)
  rw [← hA] at oa1 on1 x1 st1
  have haA : σ0.2.1.1 ≤ A ∧ A + 1 < 900000 := by omega
  obtain ⟨σ2, v0, st2, ⟨X2, F2⟩, ⟨oa2, on2⟩, hv0, x2⟩ := l_208b (d := d + dp + 4) (σs := σ) (M := M) (dp := dp) (l5 := l5) (y6 := y6) (l9 := l9) X0 X1 F1 haA (by omega) oa1 on1 hkd (fm := fm) (by omega)
  obtain ⟨σ3, v1, st3, ⟨X3, F3⟩, ⟨oa3, on3⟩, hv1, x3⟩ := l_208c (d := d + dp + 4) (σs := σ) (M := M) (dp := dp) (l5 := l5) (y6 := y6) (l9 := l9) X0 X2 F2 haA (by omega) oa2 on2 hM (fm := fm) (by omega)
  obtain ⟨σ4, f4, st4, ⟨X4, F4⟩, ⟨oa4, on4⟩, ⟨h41, h42⟩, x4⟩ := l_208d (d := d + dp + 4) (σs := σ) (M := M) (dp := dp) (fm := fm) (l5 := l5) (y6 := y6) X0 haA (by omega) 3 2 _ σ3 rfl X3 F3 oa3 on3
  have hf : ∀ j, j < 5 → f4 j = yI (f4 j).toNatClampNeg ∧ (f4 j).toNatClampNeg < 10000 := by
    intro j hj
    have key : ∃ v, v < 10000 ∧ f4 j = yI v := by
      rcases (by omega : j = 0 ∨ (j = 1 ∨ 2 ≤ j)) with rfl | rfl | h2
      · exact ⟨v0, hv0.1, by rw [h41 0 (by decide), yupd_ne (by decide), yupd_same]⟩
      · exact ⟨v1, hv1, by rw [h41 1 (by decide), yupd_same]⟩
      · obtain ⟨v, q1, q2⟩ := h42 j h2 hj
        exact ⟨v, by omega, q2⟩
    obtain ⟨v, q1, q2⟩ := key
    rw [q2, yI_clamp (by omega)]
    exact ⟨rfl, q1⟩
  have hf0 : (f4 0).toNatClampNeg = v0 := by
    rw [h41 0 (by decide), yupd_ne (by decide), yupd_same, yI_clamp (by omega)]
  obtain ⟨v, hv⟩ : ∃ v : Nat → Nat, v = fun j => (f4 j).toNatClampNeg := ⟨_, rfl⟩
  have hfv : ∀ j, j < 5 → f4 j = yI (v j) ∧ v j < 10000 := by rw [hv]; exact hf
  have hv00 : v 0 = v0 := by rw [hv]; exact hf0
  obtain ⟨σ5, st5, X5, F5⟩ := l_208e (d := d + dp) (M := M) (dp := dp) (fm := fm) (l5 := l5) (y6 := y6) (l9 := some (.int 5)) X0 C X4 haA oa4 on4 hkd hfv (by omega)
  have hpA : ¬ pXp b r A := pXp_no (by omega) (by omega) (by omega)
  have hpA1 : ¬ pXp b r (A + 1) := pXp_no (by omega) (by omega) (by omega)
  have oa5 := pF_keep (X4.Z X0) F5 oa4 hpA
  have on5 := pF_keep (X4.Z X0) F5 on4 hpA1
  have F45 : pF (pXp b r) 2 8 σ σ5 := pF.trans F4 F5 (fun _ _ q => q.elim id id)
  have r9 : A < 1000000 := by omega
  have r9' : A + 1 < 1000000 := by omega
  have r5 : xRd σ5 A = some (.inr (8, [.int (yI kd), .ref (A + 1), .null])) := by rw [yrd_lt r9, oa5]
  have hwl : ywl (ykw kd) ≤ 6 := (by decide : ∀ k, k < 6 → ywl (ykw k) ≤ 6) kd hkd
  have hnl := pnm_len (v := v) (ynb kd) 0
  have stA : ∀ Q, G (d + dp + 6) 208 16 [some (.ref 0), some (.ref b), some (.ref r), some (.int (yI M)), some (.int (yI dp)), l5, some (.int y6), l7, l8, l9] [] σ Q ↔ G (d + dp + 6) 208 134 [some (.ref 0), some (.ref b), some (.ref r), some (.int (yI M)), some (.int (yI dp)), l5, some (.int y6), some (.ref A), some (.int (yI fm)), some (.int 5)] [] σ5 Q :=
    fun Q => (st1 Q).trans ((st2 Q).trans ((st3 Q).trans ((st4 Q).trans (st5 Q))))
  have e24 : ptw 24 = [59] := by decide
  rw [← hA]
  by_cases k5 : kd = 5
  · subst k5
    obtain ⟨kk, rfl⟩ : ∃ kk, dp = kk + 1 := ⟨dp - 1, by
      have : ¬ dp = 0 := fun q => by
        have := hkd0 q
        omega
      omega⟩
    obtain ⟨c1, c2, c3, c4⟩ := k8_n kk (by omega)
    have hn5 : ynb 5 = 1 := rfl
    rw [hn5] at hnl X5
    have hw8 : ykw 5 = 8 := rfl
    rw [hw8] at X5 hwl
    -- a bracket
    have T6 := pTx_t (b := b) (r := r) (σ := σ5) (i := 19) (by decide)
    rw [show ptw 19 = [40] by decide] at T6
    obtain ⟨σ6, g6, X6, F6⟩ := m_182 (d := d + kk + 2) X0 C X5 (w := [40]) (by
      rw [List.length_append, List.length_append, ptw_len]
      show _ + 1 ≤ 600
      omega) T6
    have g6' : Ra (d + (kk + 1) + 5) 182 [.ref 0, .ref b, .ref 1000119] σ5 (.inl none) σ6 := g6
    have oa6 := pF_keep (X5.Z X0) F6 oa5 hpA
    have on6 := pF_keep (X5.Z X0) F6 on5 hpA1
    have F56 : pF (pXp b r) 2 8 σ σ6 := pF.trans F45 F6 (fun _ _ q => q.elim id id)
    have n6 := F56.2.2.1
    -- what is inside
    have h6 := IH kk rfl _ _ σ6 _ X6 (by
      rw [List.length_append, List.length_append, List.length_append, ptw_len]
      show _ + 1 + _ ≤ 540
      omega) (by omega)
    obtain ⟨σ7, wi, cnti, ji, g7, ⟨X7, F7⟩, ⟨hwi, hci⟩, P7⟩ := h6
    have g7' : Ra (d + (kk + 1) + 5) 208 [.ref 0, .ref b, .ref r, .int (yI M), .int (yI kk)] σ6 (.inl (some (.ref σ6.2.1.1))) σ7 := g7
    have oa7 := pF_keep (X6.Z X0) F7 oa6 hpA
    have on7 := pF_keep (X6.Z X0) F7 on6 hpA1
    have F67 : pF (pXp b r) (2 + (1 + n8 kk * q8 kk)) (8 + (n8 kk + n8 kk * z8 kk)) σ σ7 := pF.trans F56 F7 (fun _ _ q => q.elim id id)
    have X8 := X7.own X0 (by omega) oa7 (e' := .inr (8, [.int (yI 5), .ref (A + 1), .ref σ6.2.1.1]))
    have F8 := pF_hi F67 (X7.Z X0) oa7 (by omega) (e' := .inr (8, [.int (yI 5), .ref (A + 1), .ref σ6.2.1.1]))
    have oa8 : (xwr σ7 A (.inr (8, [.int (yI 5), .ref (A + 1), .ref σ6.2.1.1]))).1 A = some (.inr (8, [.int (yI 5), .ref (A + 1), .ref σ6.2.1.1])) := pwr_at
    have k8 : ∀ a e, a ≠ A → σ7.1 a = some e → (xwr σ7 A (.inr (8, [.int (yI 5), .ref (A + 1), .ref σ6.2.1.1]))).1 a = some e := fun a e h1 h2 => by rw [xwr_1, if_neg h1, h2]
    obtain ⟨σ8, e8⟩ : ∃ σ8, σ8 = xwr σ7 A (.inr (8, [.int (yI 5), .ref (A + 1), .ref σ6.2.1.1])) := ⟨_, rfl⟩
    rw [← e8] at X8 F8 oa8 k8
    -- the other bracket
    have T9 := pTx_t (b := b) (r := r) (σ := σ8) (i := 20) (by decide)
    rw [show ptw 20 = [41] by decide] at T9
    obtain ⟨σ9, g9, X9, F9⟩ := m_182 (d := d + kk + 2) X0 C X8 (w := [41]) (by
      rw [List.length_append, List.length_append, List.length_append, List.length_append, ptw_len]
      show _ + 1 + _ + 1 ≤ 600
      omega) T9
    have g9' : Ra (d + (kk + 1) + 5) 182 [.ref 0, .ref b, .ref 1000120] σ8 (.inl none) σ9 := g9
    have T10 := pTx_t (b := b) (r := r) (σ := σ9) (i := 24) (by decide)
    rw [e24] at T10
    obtain ⟨σ10, g10, X10, F10⟩ := m_182 (d := d + kk + 2) X0 C X9 (w := [59]) (by
      rw [List.length_append, List.length_append, List.length_append, List.length_append, List.length_append, ptw_len]
      show _ + 1 + _ + 1 + 1 ≤ 600
      omega) T10
    have g10' : Ra (d + (kk + 1) + 5) 182 [.ref 0, .ref b, .ref 1000124] σ9 (.inl none) σ10 := g10
    have F810 : pF (pXp b r) 0 0 σ8 σ10 := pF.trans F9 F10 (fun _ _ q => q.elim id id)
    have oa10 := pF_keep (X8.Z X0) F810 oa8 hpA
    have on10 := pF_keep (X8.Z X0) F810 (k8 _ _ (by omega) on7) hpA1
    have z5 : yI 5 = 5 := rfl
    have sb : yI (kk + 1) - 1 = yI kk := by
      rw [show yI (kk + 1) = yI kk + 1 from yI_add.symm]
      exact Int32.add_sub_cancel _ _
    have ew : l ++ (ptw 8 ++ pnm v 0 1) ++ [40] ++ wi ++ [41] ++ [59] = l ++ (ptw 8 ++ (pnm v 0 1 ++ (40 :: (wi ++ [41, 59])))) := by simp
    rw [ew] at X10
    have hl1 : (ptw 8 ++ (pnm v 0 1 ++ (40 :: (wi ++ [41, 59])))).length = ywl 8 + (pnm v 0 1).length + 1 + wi.length + 2 := by
      simp only [List.length_append, List.length_cons, List.length_nil, ptw_len]
      omega
    have keep : ∀ a e, σ6.2.1.1 ≤ a → σ7.1 a = some e → σ10.1 a = some e := fun a e h1 h2 => pF_keep (X8.Z X0) F810 (k8 a e (by omega) h2) (pXp_no (by omega) (by omega) (by omega))
    rw [z5] at oa10
    refine ⟨σ10, _, 1 + cnti, some (.int (yI fm)), some (.int 5), fun Q => (stA Q).trans ?_, ⟨X10.mono (by omega) (by omega), (pF.trans F8 F810 (P' := pXp b r) (fun _ _ q => q.elim id id)).mono (fun _ _ q => q) (by omega) (by omega)⟩, ⟨⟨by omega, by omega⟩, by omega⟩, ⟨_, oa10⟩, ?_⟩
    · rw [z5] at r5
      have w8 : ∀ e, xwr σ7 A (.inr (8, [.int 5, .ref (A + 1), .ref e])) = xwr σ7 A (.inr (8, [.int (yI 5), .ref (A + 1), .ref e])) := fun _ => rfl
      rw [z5] at oa7
      simp only [s_208_134, s_208_135, s_208_136, s_208_137, s_208_138, s_208_139, s_208_140, s_208_141, s_208_142, s_208_143, s_208_144, s_208_145, s_208_146, s_208_147, s_208_148, s_208_149, s_208_150, s_208_151, r5, g6' _, g7' _, sb, oa7, r9, ne_eq, not_true_eq_false, if_false, true_and, hcl_s, w8, hgf_s, hsel_0, hsel_1, hsel_2, hsel_3, hsel_4, hsel_5, hsel_6, hsel_7, hsel_8, hset_0, hset_1, hset_2, hset_3, hset_4, hset_5, hset_6, hset_7, hset_8, hpf_s, hcl_s, hai_s, hpi_0, hpi_1, hln_0, hln_1, List.length_cons, List.length_nil, xwr_1, xwr_2, xnew_1, xnew_n, xnew_s, xnew_z, Nat.reduceLT, ite_true, and_self, hp_8_0, hp_8_1, hn_8_1, hp_8_2, hn_8_2, hp_9_0, hp_9_1, hp_9_2, hp_9_3, hp_9_4, hp_9_5, hn_9_5, hp_9_6, hn_9_6, hp_9_7, hn_9_7, hp_10_0, hp_10_1, hp_10_2, hn_10_2, hp_10_3, hn_10_3, hp_11_0, hp_12_0, hn_12_0, hp_12_1, hp_12_2, hp_12_3, hp_12_4, hp_12_5, hn_12_5, hp_12_6, hn_12_6, hp_12_7, hp_12_8, hp_13_0, hn_13_0, hp_13_1, hp_13_2, hp_13_3, hp_14_0, hn_14_0, hp_14_1, hp_14_2, hp_14_3, xdef_8, xdef_9, xdef_10, xdef_11, xdef_12, xdef_13, xdef_14, Gk_v, Gk_n, xcat_nil, xcat_i, xcat_r, xcat_l, xcat_d, Nat.zero_le, Nat.reduceAdd, Nat.reduceLeDiff, true_and, and_true, ykl_i, ykl_r, ykl_n, ykl_l]
      rw [← e8]
      simp only [s_208_152, s_208_153, s_208_154, s_208_155, s_208_156, s_208_157, s_208_158, s_208_159, g9' _, g10' _, true_and, hcl_s, hgf_s, hsel_0, hsel_1, hsel_2, hsel_3, hsel_4, hsel_5, hsel_6, hsel_7, hsel_8, hset_0, hset_1, hset_2, hset_3, hset_4, hset_5, hset_6, hset_7, hset_8, hpf_s, hcl_s, hai_s, hpi_0, hpi_1, hln_0, hln_1, List.length_cons, List.length_nil, xwr_1, xwr_2, xnew_1, xnew_n, xnew_s, xnew_z, Nat.reduceLT, ite_true, and_self, hp_8_0, hp_8_1, hn_8_1, hp_8_2, hn_8_2, hp_9_0, hp_9_1, hp_9_2, hp_9_3, hp_9_4, hp_9_5, hn_9_5, hp_9_6, hn_9_6, hp_9_7, hn_9_7, hp_10_0, hp_10_1, hp_10_2, hn_10_2, hp_10_3, hn_10_3, hp_11_0, hp_12_0, hn_12_0, hp_12_1, hp_12_2, hp_12_3, hp_12_4, hp_12_5, hn_12_5, hp_12_6, hn_12_6, hp_12_7, hp_12_8, hp_13_0, hn_13_0, hp_13_1, hp_13_2, hp_13_3, hp_14_0, hn_14_0, hp_14_1, hp_14_2, hp_14_3, xdef_8, xdef_9, xdef_10, xdef_11, xdef_12, xdef_13, xdef_14, Gk_v, Gk_n, xcat_nil, xcat_i, xcat_r, xcat_l, xcat_d, Nat.zero_le, Nat.reduceAdd, Nat.reduceLeDiff, true_and, and_true, ykl_i, ykl_r, ykl_n, ykl_l]
    · refine pBk_imp (pBk_rep P7 (v := v) (by rw [hv00]; exact hv0.2 rfl)) (fun T c ⟨q1, q2, q3, q4⟩ => ?_) (fun T T' c a q => pCo_mono (Nat.le_refl _) (fun _ _ _ _ q => q) a q)
      refine ⟨q3, A + 1, .ref σ6.2.1.1, f4, ⟨⟨Nat.le_refl _, r9⟩, by rw [q1]; exact oa10, ⟨by omega, r9'⟩, on10, fun j hj => ?_⟩, Or.inr ⟨q1, ?_, by omega, σ6.2.1.1, rfl, ?_⟩⟩
      · rw [q1] at hj
        have ej : j = 0 := by
          have h1 : ynb 5 = 1 := rfl
          omega
        subst ej
        rw [q2]
        exact (hfv 0 (by decide)).1
      · rw [q2, hv00]
        exact (hv0.2 rfl).2
      · rw [q3, show c + (1 + cnti) = c + 1 + cnti by omega]
        exact pCw_mono (by omega) (fun a e h1 _ h2 => keep a e h1 h2) kk _ _ _ (fun _ _ _ => ⟨rfl, rfl, rfl⟩) q4
  · have z5 : ¬ yI kd = 5 := fun e => k5 ((yI_inj (m := 5) (by omega) (by decide)).mp e)
    have T6 := pTx_t (b := b) (r := r) (σ := σ5) (i := 24) (by decide)
    rw [e24] at T6
    have hn5 : ynb kd ≤ 5 := (by decide : ∀ k, k < 6 → ynb k ≤ 5) kd hkd
    have hwn : ywl (ykw kd) + 5 * ynb kd ≤ 30 := (by decide : ∀ k, k < 6 → ywl (ykw k) + 5 * ynb k ≤ 30) kd hkd
    obtain ⟨σ6, g6, X6, F6⟩ := m_182 (d := d + dp + 1) X0 C X5 (w := [59]) (by
      rw [List.length_append, List.length_append, ptw_len]
      show _ + 1 ≤ 600
      omega) T6
    have g6' : Ra (d + dp + 5) 182 [.ref 0, .ref b, .ref 1000124] σ5 (.inl none) σ6 := g6
    have oa6 := pF_keep (X5.Z X0) F6 oa5 hpA
    have on6 := pF_keep (X5.Z X0) F6 on5 hpA1
    have ew : l ++ (ptw (ykw kd) ++ pnm v 0 (ynb kd)) ++ [59] = l ++ (ptw (ykw kd) ++ (pnm v 0 (ynb kd) ++ [59])) := by simp
    rw [ew] at X6
    have hl1 : (ptw (ykw kd) ++ (pnm v 0 (ynb kd) ++ [59])).length = ywl (ykw kd) + (pnm v 0 (ynb kd)).length + 1 := by
      simp only [List.length_append, List.length_cons, List.length_nil, ptw_len]
      omega
    refine ⟨σ6, _, 1, some (.int (yI fm)), some (.int 5), fun Q => (stA Q).trans ?_, ⟨X6.mono (by omega) (by omega), (pF.trans F45 F6 (P' := pXp b r) (fun _ _ q => q.elim id id)).mono (fun _ _ q => q) (by omega) (by omega)⟩, ⟨⟨by omega, by omega⟩, by omega⟩, ⟨_, oa6⟩, ?_⟩
    · simp only [s_208_134, s_208_135, s_208_136, s_208_137, s_208_138, s_208_139, s_208_140, s_208_141, s_208_142, s_208_143, s_208_144, s_208_145, s_208_146, s_208_147, s_208_148, s_208_149, s_208_150, s_208_151, s_208_152, s_208_153, s_208_154, s_208_155, s_208_156, s_208_157, s_208_158, s_208_159, r5, g6' _, z5, ne_eq, not_false_eq_true, if_true, true_and, hcl_s, hgf_s, hsel_0, hsel_1, hsel_2, hsel_3, hsel_4, hsel_5, hsel_6, hsel_7, hsel_8, hset_0, hset_1, hset_2, hset_3, hset_4, hset_5, hset_6, hset_7, hset_8, hpf_s, hcl_s, hai_s, hpi_0, hpi_1, hln_0, hln_1, List.length_cons, List.length_nil, xwr_1, xwr_2, xnew_1, xnew_n, xnew_s, xnew_z, Nat.reduceLT, ite_true, and_self, hp_8_0, hp_8_1, hn_8_1, hp_8_2, hn_8_2, hp_9_0, hp_9_1, hp_9_2, hp_9_3, hp_9_4, hp_9_5, hn_9_5, hp_9_6, hn_9_6, hp_9_7, hn_9_7, hp_10_0, hp_10_1, hp_10_2, hn_10_2, hp_10_3, hn_10_3, hp_11_0, hp_12_0, hn_12_0, hp_12_1, hp_12_2, hp_12_3, hp_12_4, hp_12_5, hn_12_5, hp_12_6, hn_12_6, hp_12_7, hp_12_8, hp_13_0, hn_13_0, hp_13_1, hp_13_2, hp_13_3, hp_14_0, hn_14_0, hp_14_1, hp_14_2, hp_14_3, xdef_8, xdef_9, xdef_10, xdef_11, xdef_12, xdef_13, xdef_14, Gk_v, Gk_n, xcat_nil, xcat_i, xcat_r, xcat_l, xcat_d, Nat.zero_le, Nat.reduceAdd, Nat.reduceLeDiff, true_and, and_true, ykl_i, ykl_r, ykl_n, ykl_l]
    · refine pBk_imp (pBk_cmd (deep := dp) (kd := kd) (v := v) (by omega) (fun i hi => (hfv i (by omega)).2)) (fun T c ⟨q1, q2, q3⟩ => ?_) (fun T T' c a q => pCo_mono (Nat.le_refl _) (fun _ _ _ _ q => q) a q)
      refine ⟨q2, A + 1, .null, f4, ⟨⟨Nat.le_refl _, r9⟩, by rw [q1]; exact oa6, ⟨by omega, r9'⟩, on6, fun j hj => ?_⟩, Or.inl ⟨by omega, q2, fun j hj => ?_⟩⟩
      · rw [q1] at hj
        rw [q3 j hj]
        exact (hfv j (by omega)).1
      · rw [q1] at hj
        rw [q3 j hj]
        exact (hfv j (by omega)).2
end
