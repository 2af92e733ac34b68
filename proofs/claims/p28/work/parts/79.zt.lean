/-! ===== a text is handed over ===== -/
theorem pyapp {f : Nat → Int32} {l : List Nat} (h : ∀ j, j < 5 → f (1 + j) = yI (pwd l j)) (h128 : ∀ i, pbt l i < 128) {i : Nat} (hi : i < 20 * (l.length / 20) + 20) : yapp (f 1) (f 2) (f 3) (f 4) (f 5) (20 * (l.length / 20)) (pbt l) i = pbt l i := by
  obtain ⟨w, hw⟩ : ∃ w, w = 20 * (l.length / 20) := ⟨_, rfl⟩
  unfold yapp
  rw [← hw] at hi ⊢
  by_cases g9 : i < w
  · rw [if_pos g9]
  · rw [if_neg g9]
    obtain ⟨v, hv⟩ : ∃ v, i = w + v := ⟨i - w, by omega⟩
    subst hv
    rw [Nat.add_sub_cancel_left]
    have hga : yarg (f 1) (f 2) (f 3) (f 4) (f 5) v = f (1 + v / 4) := by
      unfold yarg
      by_cases v1 : v < 4
      · rw [if_pos v1, show 1 + v / 4 = 1 by omega]
      · rw [if_neg v1]
        by_cases v2 : v < 8
        · rw [if_pos v2, show 1 + v / 4 = 2 by omega]
        · rw [if_neg v2]
          by_cases v3 : v < 12
          · rw [if_pos v3, show 1 + v / 4 = 3 by omega]
          · rw [if_neg v3]
            by_cases v4 : v < 16
            · rw [if_pos v4, show 1 + v / 4 = 4 by omega]
            · rw [if_neg v4, show 1 + v / 4 = 5 by omega]
    rw [hga, h (v / 4) (by omega)]
    unfold pwd
    rw [← hw]
    have lt := fun i => Nat.lt_trans (h128 i) (show 128 < 256 by decide)
    rw [pw4_bk (h128 _) (lt _) (lt _) (lt _) (Nat.mod_lt _ (by decide))]
    rcases (by omega : v % 4 = 0 ∨ (v % 4 = 1 ∨ (v % 4 = 2 ∨ v % 4 = 3))) with m4 | m4 | m4 | m4
    · rw [m4, if_pos rfl, show w + 4 * (v / 4) = w + v by omega]
    · rw [m4, if_neg (by decide), if_pos rfl, show w + 4 * (v / 4) + 1 = w + v by omega]
    · rw [m4, if_neg (by decide), if_neg (by decide), if_pos rfl, show w + 4 * (v / 4) + 2 = w + v by omega]
    · rw [m4, if_neg (by decide), if_neg (by decide), if_neg (by decide), show w + 4 * (v / 4) + 3 = w + v by omega]
section
variable {d : Nat} {D : yD} {b r c x : Nat} {σ σ0 τ : xS} {t0 t : yT} {l w : List Nat}
variable {k : Nat} {E : Nat → yD} {s0 s1 : Option yD} {n n0 : Nat} {B B' : Nat → Nat} {eo en : Int32}
theorem yCI_B (C : yCI t D k E s0 s1 n B eo en) (h : ∀ i, i < n → B' i = B i) : yCI t D k E s0 s1 n B' eo en := by
  obtain ⟨c1, c2, c3, ⟨c4, c5, c6⟩, c7⟩ := C
  exact ⟨c1, c2, c3, ⟨c4, c5, fun i hi => by rw [h i hi]; exact c6 i hi⟩, c7⟩
abbrev pcb (b a : Nat) : Prop := pcl a ∨ a = b
/-- the text's end: what waits goes to the class; the buffer is made empty -/
theorem l_txt (X0 : pX0 b r σ0 t0) (C : yCI t0 D k E s0 s1 n0 B eo en) (X : pX b r σ0 t0 c x σ l) (hl : l.length ≤ 570) : ∃ τ1 f1 u n1, ((l.length % 20 = 0 → τ1 = σ) ∧ (¬ l.length % 20 = 0 → Ra (d + 2) 180 [.ref 0, .ref b] σ (.inl none) τ1)) ∧ ((τ1.1 b = some (pints 8 f1) ∧ f1 0 = yI l.length) ∧ ((xwr τ1 b (pints 8 (upd f1 0 0)) = yemb u ∧ (yCI u D k E s0 s1 n1 (pbt l) eo en ∧ yZ u)) ∧ ((l.length ≤ n1 ∧ n1 ≤ 600) ∧ (pF (pcb b) 0 0 σ (xwr τ1 b (pints 8 (upd f1 0 0))) ∧ ∀ j, j < 6 → upd f1 0 0 j = 0)))) := by
  have hz := X.Z X0
  have hn0 := X.n0 X0
  obtain ⟨t, rfl, hh, Ct, Zt⟩ := X.ci X0 C
  obtain ⟨-, ⟨f, h1, h2, h3⟩, hch, F0, h128⟩ := X
  obtain ⟨-, ⟨⟨b1, b2⟩, f0, h0⟩, r1, hr0, y0, hy0⟩ := X0
  have hbn := pZ_lt hz h1
  by_cases hq : l.length % 20 = 0
  · have hw0 : ∀ j, j < 5 → pwd l j = 0 := fun j hj => by
      unfold pwd
      rw [pbt_hi (by omega), pbt_hi (by omega), pbt_hi (by omega), pbt_hi (by omega)]
      rfl
    have E1 : yemb (pM t (xwr (yemb t) b (pints 8 (upd f 0 0)))) = xwr (yemb t) b (pints 8 (upd f 0 0)) := pM_emb (fun a ha => by rw [xwr_1, if_neg (by omega)])
    have F1 : pF (pcb b) 0 0 (yemb t) (xwr (yemb t) b (pints 8 (upd f 0 0))) := pF_wr hbn (Or.inr rfl)
    refine ⟨yemb t, f, pM t (xwr (yemb t) b (pints 8 (upd f 0 0))), 20 * (l.length / 20), ⟨fun _ => rfl, fun g => absurd hq g⟩, ⟨h1, h2⟩, ⟨E1.symm, pM_K (fun a e ha hc => ?_) Ct, pZ_y hn0 ?_⟩, ⟨by omega, by omega⟩, F1, fun j hj => ?_⟩
    · rw [xwr_1, if_neg (fun e' => ?_)]
      · exact ha
      · rw [e', h1] at ha
        cases ha
        exact pco_8 hc
    · rw [E1]
      exact pZ_wr hz h1
    · by_cases hj0 : j = 0
      · subst hj0
        exact yupd_same
      · rw [yupd_ne hj0, show j = 1 + (j - 1) by omega, h3 (j - 1) (by omega), hw0 (j - 1) (by omega)]
        rfl
  · obtain ⟨u, f', k1, ⟨C2, F2⟩, k2, k3⟩ := m_180 (d := d) Ct (by omega) ⟨b1, b2⟩ h1
    obtain ⟨I2, F3⟩ := pI_y C2 F2 Zt
    have C3 : yCI u D k E s0 s1 (20 * (l.length / 20) + 20) (pbt l) eo en := yCI_B C2 (fun i hi => (pyapp h3 h128 hi).symm)
    have Zu := I2.Z
    have cb : (yemb u).1 b = some (pints 8 f) := by
      rw [yemb_hi b1, F2.K, ← yemb_hi b1 (t := t), h1]
    have zu : (yemb u).2 = (yemb t).2 := F2.z
    have hpw : xwr (xwr (yemb u) b (pints 8 f')) b (pints 8 (upd f' 0 0)) = xwr (yemb u) b (pints 8 (upd f' 0 0)) := pwr_wr
    have E1 : yemb (pM u (xwr (yemb u) b (pints 8 (upd f' 0 0)))) = xwr (yemb u) b (pints 8 (upd f' 0 0)) := pM_emb (fun a ha => by rw [xwr_1, if_neg (by omega)])
    have F4 : pF (pcb b) 0 0 (yemb t) (xwr (yemb u) b (pints 8 (upd f' 0 0))) := pF.trans F3 (pF_wr (P := fun a => a = b) (c := 0) (s := 0) (σ := yemb u) (a := b) (e := pints 8 (upd f' 0 0)) (by rw [zu]; exact hbn) rfl) (P' := pcb b) (fun _ _ q => q)
    refine ⟨xwr (yemb u) b (pints 8 f'), f', pM u (xwr (yemb u) b (pints 8 (upd f' 0 0))), 20 * (l.length / 20) + 20, ⟨fun g => absurd g hq, fun _ => k1⟩, ⟨pwr_at, by rw [k2, h2]⟩, ⟨hpw.trans E1.symm, pM_K (fun a e ha hc => ?_) C3, pZ_y (by show 160 ≤ (yemb u).2.1.1; rw [zu]; exact hn0) ?_⟩, ⟨by omega, by omega⟩, by rw [hpw]; exact F4, fun j hj => ?_⟩
    · rw [xwr_1, if_neg (fun e' => ?_)]
      · exact ha
      · rw [e', cb] at ha
        cases ha
        exact pco_8 hc
    · rw [E1]
      exact pZ_wr Zu cb
    · by_cases hj0 : j = 0
      · subst hj0
        exact yupd_same
      · rw [yupd_ne hj0, show j = 1 + (j - 1) by omega, k3 (j - 1) (by omega)]
theorem Ra_nx {d k : Nat} {as : List Value} {σ τ : xS} {r : xR} (h : Ra d k as σ r τ) : σ.2.1.1 ≤ τ.2.1.1 := by
  obtain ⟨n, r1, s1, h1, h2, h3⟩ := (h (fun r1 σ1 => r1 = r ∧ σ1 = τ)).mpr ⟨rfl, rfl⟩
  have := (xmonoR _ _ _ _ _ _ _ _ _ h1).1
  rw [h3] at this
  exact this
/-- the buffer is empty -/
abbrev pbz (b : Nat) (σ : xS) : Prop := ∃ f, σ.1 b = some (pints 8 f) ∧ ∀ j, j < 6 → f j = 0
theorem m_181 (X0 : pX0 b r σ0 t0) (C : yCI t0 D k E s0 s1 n0 B eo en) (X : pX b r σ0 t0 c x σ l) (hl : l.length ≤ 570) {q : Nat} {U : yU} (h : yrset l.length (pbt l) = .inr (q, U)) (hr : σ.2.1.1 < 898000) : ∃ τ, Ra (d + 19) 181 [.ref 0, .ref b] σ (.inl (some (.int (yI U.1.n)))) τ ∧ ((pI τ U.1 (min 8 (k + 1)) (ypush D E) s0 s1 0 (pbt l) (-1) en ∧ pbz b τ) ∧ ((∀ a e, σ.1 a = some e → yla a = none → a ≠ b → τ.1 a = some e) ∧ ((σ.2.1.1 ≤ τ.2.1.1 ∧ τ.2.1.1 ≤ σ.2.1.1 + 3) ∧ (τ.2.1.2 ≤ σ.2.1.2 + 700 ∧ τ.2.2 = σ.2.2)))) := by
  have hz := X.Z X0
  have hb := X0.2.1.1
  have h128 := X.2.2.2.2
  obtain ⟨f, h1, h2, -⟩ := X.2.1
  obtain ⟨τ1, f1, u, n1, ⟨t1, t2⟩, ⟨q1, q2⟩, ⟨e2, C2, Z2⟩, ⟨n2, n3⟩, F2, z2⟩ := l_txt (d := d + 16) X0 C X hl
  have Zs := pZ_F hz F2
  have nx2 := F2.2.2.1
  have sl2 := F2.2.2.2
  have hb2 : (xwr τ1 b (pints 8 (upd f1 0 0))).1 b = some (pints 8 (upd f1 0 0)) := pwr_at
  obtain ⟨τ2, hτ2⟩ : ∃ τ2, τ2 = xwr τ1 b (pints 8 (upd f1 0 0)) := ⟨_, rfl⟩
  rw [← hτ2] at e2 F2 Zs nx2 sl2 hb2
  subst e2
  have hu : u.z.1.1 ≤ σ.2.1.1 := nx2.2
  obtain ⟨v, k3, C3, Fc, Fg⟩ := q_95x (d := d) C2 (fun i hi => Nat.lt_trans (h128 i) (by decide)) n2 Z2 (by omega) h
  have Zv := Fc.2.1 Z2
  have key : ∀ a e, (yemb u).1 a = some e → yla a = none → (yemb v).1 a = some e := fun a e he hy => by
    rw [yemb_no hy] at he ⊢
    rw [Fg.2.1 a (by rw [he]; intro q; cases q), he]
  have hzv := Fc.2.2
  have mono : σ.2.1.1 ≤ (yemb v).2.1.1 := by
    have h5 := Ra_nx k3
    omega
  refine ⟨yemb v, fun Q => ?_, ⟨⟨v, rfl, C3, Zv⟩, upd f1 0 0, key _ _ hb2 (yla_no hb.1), z2⟩, fun a e he hy hab => ?_, ⟨mono, ?_⟩, ?_, ?_⟩
  · have r0 : xRd σ b = some (.inl (0, (8, .inl f))) := by rw [yrd_lt hb.2, h1]
    have i0 : yix 0 8 := yix8_ 0 (by decide)
    have n20 : ¬ (20 : Int32) = 0 := by decide
    have a7 : yI l.length - yI l.length / 20 * 20 = yI (l.length % 20) := yI_mod (by omega) (by decide) (by decide)
    have g184 : Ra (d + 18) 184 [.ref 0, .int (yI l.length)] (yemb u) (.inl (some (.int (yI U.1.n)))) (yemb v) := h_184 pO k3
    by_cases hq : l.length % 20 = 0
    · have e1 := t1 hq
      subst e1
      have z0 : yI (l.length % 20) ≤ 0 := by rw [hq]; decide
      show G (d + 19) 181 0 [some (.ref 0), some (.ref b), none] [] τ1 Q ↔ _
      simp only [s_181_0, s_181_1, s_181_2, s_181_3, s_181_4, s_181_5, s_181_7, s_181_8, s_181_9, s_181_10, s_181_11, s_181_12, s_181_13, s_181_14, s_181_6 n20, r0, h2, a7, z0, i0, q1, hb.2, ycl_0, if_true, hgf_s, hsel_0, hsel_1, hsel_2, hsel_3, hsel_4, hsel_5, hsel_6, hsel_7, hsel_8, hset_0, hset_1, hset_2, hset_3, hset_4, hset_5, hset_6, hset_7, hset_8, hpf_s, hcl_s, hai_s, hpi_0, hpi_1, hln_0, hln_1, List.length_cons, List.length_nil, xwr_1, xwr_2, xnew_1, xnew_n, xnew_s, xnew_z, Nat.reduceLT, ite_true, and_self, hp_8_0, hp_8_1, hn_8_1, hp_8_2, hn_8_2, hp_9_0, hp_9_1, hp_9_2, hp_9_3, hp_9_4, hp_9_5, hn_9_5, hp_9_6, hn_9_6, hp_9_7, hn_9_7, hp_10_0, hp_10_1, hp_10_2, hn_10_2, hp_10_3, hn_10_3, hp_11_0, hp_12_0, hn_12_0, hp_12_1, hp_12_2, hp_12_3, hp_12_4, hp_12_5, hn_12_5, hp_12_6, hn_12_6, hp_12_7, hp_12_8, hp_13_0, hn_13_0, hp_13_1, hp_13_2, hp_13_3, hp_14_0, hn_14_0, hp_14_1, hp_14_2, hp_14_3, xdef_8, xdef_9, xdef_10, xdef_11, xdef_12, xdef_13, xdef_14, Gk_v, Gk_n, xcat_nil, xcat_i, xcat_r, xcat_l, xcat_d, Nat.zero_le, Nat.reduceAdd, Nat.reduceLeDiff, true_and, and_true, ykl_i, ykl_r, ykl_n, ykl_l]
      rw [← hτ2]
      simp only [s_181_15, s_181_16, s_181_17, s_181_18, g184 _, Gk_v, Gk_n, xcat_nil, xcat_i, xcat_r, xcat_l, xcat_d, Nat.zero_le, Nat.reduceAdd, Nat.reduceLeDiff, true_and, and_true, ykl_i, ykl_r, ykl_n, ykl_l]
    · have k1 := t2 hq
      have z0 : ¬ yI (l.length % 20) ≤ 0 := fun g => by
        have := (yI_le (m := 0) (by omega) (by decide)).mp g
        omega
      have k1' : Ra (d + 18) 180 [.ref 0, .ref b] σ (.inl none) τ1 := k1
      show G (d + 19) 181 0 [some (.ref 0), some (.ref b), none] [] σ Q ↔ _
      simp only [s_181_0, s_181_1, s_181_2, s_181_3, s_181_4, s_181_5, s_181_7, s_181_8, s_181_9, s_181_10, s_181_11, s_181_12, s_181_13, s_181_14, s_181_6 n20, r0, h2, a7, z0, i0, q1, hb.2, k1' _, ycl_0, if_false, hgf_s, hsel_0, hsel_1, hsel_2, hsel_3, hsel_4, hsel_5, hsel_6, hsel_7, hsel_8, hset_0, hset_1, hset_2, hset_3, hset_4, hset_5, hset_6, hset_7, hset_8, hpf_s, hcl_s, hai_s, hpi_0, hpi_1, hln_0, hln_1, List.length_cons, List.length_nil, xwr_1, xwr_2, xnew_1, xnew_n, xnew_s, xnew_z, Nat.reduceLT, ite_true, and_self, hp_8_0, hp_8_1, hn_8_1, hp_8_2, hn_8_2, hp_9_0, hp_9_1, hp_9_2, hp_9_3, hp_9_4, hp_9_5, hn_9_5, hp_9_6, hn_9_6, hp_9_7, hn_9_7, hp_10_0, hp_10_1, hp_10_2, hn_10_2, hp_10_3, hn_10_3, hp_11_0, hp_12_0, hn_12_0, hp_12_1, hp_12_2, hp_12_3, hp_12_4, hp_12_5, hn_12_5, hp_12_6, hn_12_6, hp_12_7, hp_12_8, hp_13_0, hn_13_0, hp_13_1, hp_13_2, hp_13_3, hp_14_0, hn_14_0, hp_14_1, hp_14_2, hp_14_3, xdef_8, xdef_9, xdef_10, xdef_11, xdef_12, xdef_13, xdef_14, Gk_v, Gk_n, xcat_nil, xcat_i, xcat_r, xcat_l, xcat_d, Nat.zero_le, Nat.reduceAdd, Nat.reduceLeDiff, true_and, and_true, ykl_i, ykl_r, ykl_n, ykl_l]
      rw [← hτ2]
      simp only [s_181_15, s_181_16, s_181_17, s_181_18, g184 _, Gk_v, Gk_n, xcat_nil, xcat_i, xcat_r, xcat_l, xcat_d, Nat.zero_le, Nat.reduceAdd, Nat.reduceLeDiff, true_and, and_true, ykl_i, ykl_r, ykl_n, ykl_l]
  · refine key a e (pF_keep hz F2 he (fun g => ?_)) hy
    rcases g with g | g
    · exact g hy
    · exact hab g
  · have h5 : v.z.1.1 ≤ u.z.1.1 + 3 := hzv.1.1
    show v.z.1.1 ≤ _
    omega
  · have h5 : v.z.1.2 ≤ u.z.1.2 + 700 := hzv.1.2
    have h6 : u.z.1.2 ≤ σ.2.1.2 + 0 := sl2.1
    show v.z.1.2 ≤ _
    omega
  · have h5 : v.z.2 = u.z.2 := hzv.2
    have h6 : u.z.2 = σ.2.2 := sl2.2
    show v.z.2 = _
    rw [h5, h6]
end
